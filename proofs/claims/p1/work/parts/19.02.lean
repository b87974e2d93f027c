-- ===== rows and blocks, 2 =====
theorem D29_0 : rDec M29 0 (.aload_n 3) 1 1 := ⟨by decide +kernel, rfl⟩
theorem D29_1 : rDec M29 1 (.iconst 0) 1 2 := ⟨by decide +kernel, rfl⟩
theorem D29_2 : rDec M29 2 (.aload_n 0) 1 3 := ⟨by decide +kernel, rfl⟩
theorem D29_3 : rDec M29 3 (.iload_n 1) 1 4 := ⟨by decide +kernel, rfl⟩
theorem D29_4 : rDec M29 4 (.iload_n 2) 1 5 := ⟨by decide +kernel, rfl⟩
theorem D29_5 : rDec M29 5 (.invokevirtual 89) 3 8 := ⟨by decide +kernel, rfl⟩
theorem D29_13 : rDec M29 13 (.astore 4) 2 15 := ⟨by decide +kernel, rfl⟩
theorem D29_15 : rDec M29 15 (.iconst 1) 1 16 := ⟨by decide +kernel, rfl⟩
theorem D29_16 : rDec M29 16 (.ireturn) 1 17 := ⟨by decide +kernel, rfl⟩
theorem P29_13 : rSnd lab M29 13 B29_13 := by
  refine s_As sk4 (show 4 < 5 from by decide) (Or.inl D29_13) ?_
  refine s_ic D29_15 kc_i_1 (by decide) ?_
  exact s_Ri (Or.inl rfl) D29_16.1
theorem P29_0 : rSnd lab M29 0 B29_0 := by
  refine s_Ent ?_
  refine s_Al gk3 (Or.inr ⟨3, D29_0, rfl⟩) ?_
  refine s_ic D29_1 kc_i_0 (by decide) ?_
  refine s_Al gk0 (Or.inr ⟨0, D29_2, rfl⟩) ?_
  refine s_Il gk1 (Or.inr ⟨1, D29_3, rfl⟩) ?_
  refine s_Il gk2 (Or.inr ⟨2, D29_4, rfl⟩) ?_
  refine s_Ch (kd := 2) (C := "WordWright") (by decide) (by decide +kernel) rfl rfl (l_V rfl ok83 rfl wd1594 wd1595 wd1596 D29_5.1) (fun e9 h => rNth_ge _ e9 _ h) (fun e9 E hE => ?_) (?_ : rSnd _ _ 8 _)
  · match e9, hE with
    | 0, hE => cases hE; exact Or.inl rfl
    | 1, hE => cases hE; exact Or.inl rfl
    | 2, hE => cases hE; exact Or.inr ⟨"java/lang/IndexOutOfBoundsException", [], ⟨0, 10, 13, 21⟩, [], rfl, fun z hz => absurd hz List.not_mem_nil, by decide, by decide, wd1344, ⟨44, rfl⟩, P29_13⟩
    | 3, hE => cases hE; exact Or.inl rfl
    | e9 + 4, hE => cases hE
  exact rSnd_none
theorem D30_0 : rDec M30 0 (.aload_n 3) 1 1 := ⟨by decide +kernel, rfl⟩
theorem D30_1 : rDec M30 1 (.iconst 0) 1 2 := ⟨by decide +kernel, rfl⟩
theorem D30_2 : rDec M30 2 (.aload_n 0) 1 3 := ⟨by decide +kernel, rfl⟩
theorem D30_3 : rDec M30 3 (.iload_n 1) 1 4 := ⟨by decide +kernel, rfl⟩
theorem D30_4 : rDec M30 4 (.iload_n 2) 1 5 := ⟨by decide +kernel, rfl⟩
theorem D30_5 : rDec M30 5 (.invokevirtual 55) 3 8 := ⟨by decide +kernel, rfl⟩
theorem D30_13 : rDec M30 13 (.astore 4) 2 15 := ⟨by decide +kernel, rfl⟩
theorem D30_15 : rDec M30 15 (.iconst 1) 1 16 := ⟨by decide +kernel, rfl⟩
theorem D30_16 : rDec M30 16 (.ireturn) 1 17 := ⟨by decide +kernel, rfl⟩
theorem P30_13 : rSnd lab M30 13 B30_13 := by
  refine s_As sk4 (show 4 < 5 from by decide) (Or.inl D30_13) ?_
  refine s_ic D30_15 kc_i_1 (by decide) ?_
  exact s_Ri (Or.inl rfl) D30_16.1
theorem P30_0 : rSnd lab M30 0 B30_0 := by
  refine s_Ent ?_
  refine s_Al gk3 (Or.inr ⟨3, D30_0, rfl⟩) ?_
  refine s_ic D30_1 kc_i_0 (by decide) ?_
  refine s_Al gk0 (Or.inr ⟨0, D30_2, rfl⟩) ?_
  refine s_Il gk1 (Or.inr ⟨1, D30_3, rfl⟩) ?_
  refine s_Il gk2 (Or.inr ⟨2, D30_4, rfl⟩) ?_
  refine s_Ch (kd := 2) (C := "WordWright") (by decide) (by decide +kernel) rfl rfl (l_V rfl ok85 rfl wd1469 wd1470 wd1471 D30_5.1) (fun e9 h => rNth_ge _ e9 _ h) (fun e9 E hE => ?_) (?_ : rSnd _ _ 8 _)
  · match e9, hE with
    | 0, hE => cases hE; exact Or.inl rfl
    | 1, hE => cases hE; exact Or.inl rfl
    | 2, hE => cases hE; exact Or.inr ⟨"java/lang/IndexOutOfBoundsException", [], ⟨0, 10, 13, 21⟩, [⟨0, 10, 17, 13⟩], rfl, fun z hz => absurd hz List.not_mem_nil, by decide, by decide, wd1344, ⟨44, rfl⟩, P30_13⟩
    | 3, hE => cases hE; exact Or.inl rfl
    | e9 + 4, hE => cases hE
  exact rSnd_none
theorem D31_0 : rDec M31 0 (.aload_n 1) 1 1 := ⟨by decide +kernel, rfl⟩
theorem D31_1 : rDec M31 1 (.iconst 0) 1 2 := ⟨by decide +kernel, rfl⟩
theorem D31_2 : rDec M31 2 (.aload_n 0) 1 3 := ⟨by decide +kernel, rfl⟩
theorem D31_3 : rDec M31 3 (.invokevirtual 38) 3 6 := ⟨by decide +kernel, rfl⟩
theorem D31_6 : rDec M31 6 (.i2l) 1 7 := ⟨by decide +kernel, rfl⟩
theorem D31_7 : rDec M31 7 (.lastore) 1 8 := ⟨by decide +kernel, rfl⟩
theorem D31_8 : rDec M31 8 (.goto 6) 3 11 := ⟨by decide +kernel, rfl⟩
theorem D31_14 : rDec M31 14 (.iconst 0) 1 15 := ⟨by decide +kernel, rfl⟩
theorem D31_15 : rDec M31 15 (.ireturn) 1 16 := ⟨by decide +kernel, rfl⟩
theorem P31_14 : rSnd lab M31 14 B31_14 := by
  refine s_ic D31_14 kc_i_0 (by decide) ?_
  exact s_Ri (Or.inl rfl) D31_15.1
theorem P31_0 : rSnd lab M31 0 B31_0 := by
  refine s_Ent ?_
  refine s_Al gk1 (Or.inr ⟨1, D31_0, rfl⟩) ?_
  refine s_ic D31_1 kc_i_0 (by decide) ?_
  refine s_Al gk0 (Or.inr ⟨0, D31_2, rfl⟩) ?_
  refine s_Ch (kd := 2) (C := "WordWright") (by decide) (by decide +kernel) rfl rfl (l_V rfl ok86 rfl wd1422 wd1423 wd1424 D31_3.1) (fun e9 h => rNth_ge _ e9 _ h) (fun e9 E hE => ?_) (?_ : rSnd _ _ 6 _)
  · match e9, hE with
    | 0, hE => cases hE; exact Or.inl rfl
    | 1, hE => cases hE; exact Or.inl rfl
    | 2, hE => cases hE; exact Or.inl rfl
    | 3, hE => cases hE; exact Or.inl rfl
    | e9 + 4, hE => cases hE
  refine s_I2l D31_6 ?_
  refine s_Ast (t := 2) rfl q_last rfl (by decide) D31_7 ?_
  exact s_Go (pc' := 14) D31_8.1 (by decide) P31_14
theorem D32_0 : rDec M32 0 (.aload 4) 2 2 := ⟨by decide +kernel, rfl⟩
theorem D32_2 : rDec M32 2 (.iconst 0) 1 3 := ⟨by decide +kernel, rfl⟩
theorem D32_3 : rDec M32 3 (.aload_n 0) 1 4 := ⟨by decide +kernel, rfl⟩
theorem D32_4 : rDec M32 4 (.iload_n 1) 1 5 := ⟨by decide +kernel, rfl⟩
theorem D32_5 : rDec M32 5 (.iload_n 2) 1 6 := ⟨by decide +kernel, rfl⟩
theorem D32_6 : rDec M32 6 (.iload_n 3) 1 7 := ⟨by decide +kernel, rfl⟩
theorem D32_7 : rDec M32 7 (.invokevirtual 7) 3 10 := ⟨by decide +kernel, rfl⟩
theorem D32_10 : rDec M32 10 (.i2l) 1 11 := ⟨by decide +kernel, rfl⟩
theorem D32_11 : rDec M32 11 (.lastore) 1 12 := ⟨by decide +kernel, rfl⟩
theorem D32_12 : rDec M32 12 (.goto 11) 3 15 := ⟨by decide +kernel, rfl⟩
theorem D32_15 : rDec M32 15 (.astore 5) 2 17 := ⟨by decide +kernel, rfl⟩
theorem D32_17 : rDec M32 17 (.iconst 1) 1 18 := ⟨by decide +kernel, rfl⟩
theorem D32_18 : rDec M32 18 (.ireturn) 1 19 := ⟨by decide +kernel, rfl⟩
theorem D32_23 : rDec M32 23 (.iconst 0) 1 24 := ⟨by decide +kernel, rfl⟩
theorem D32_24 : rDec M32 24 (.ireturn) 1 25 := ⟨by decide +kernel, rfl⟩
theorem P32_23 : rSnd lab M32 23 B32_23 := by
  refine s_ic D32_23 kc_i_0 (by decide) ?_
  exact s_Ri (Or.inl rfl) D32_24.1
theorem P32_15 : rSnd lab M32 15 B32_15 := by
  refine s_As sk5 (show 5 < 6 from by decide) (Or.inl D32_15) ?_
  refine s_ic D32_17 kc_i_1 (by decide) ?_
  exact s_Ri (Or.inl rfl) D32_18.1
theorem P32_0 : rSnd lab M32 0 B32_0 := by
  refine s_Ent ?_
  refine s_Al gk4 (Or.inl D32_0) ?_
  refine s_ic D32_2 kc_i_0 (by decide) ?_
  refine s_Al gk0 (Or.inr ⟨0, D32_3, rfl⟩) ?_
  refine s_Il gk1 (Or.inr ⟨1, D32_4, rfl⟩) ?_
  refine s_Il gk2 (Or.inr ⟨2, D32_5, rfl⟩) ?_
  refine s_Il gk3 (Or.inr ⟨3, D32_6, rfl⟩) ?_
  refine s_Ch (kd := 2) (C := "WordWright") (by decide) (by decide +kernel) rfl rfl (l_V rfl ok87 rfl wd1258 wd1259 wd1260 D32_7.1) (fun e9 h => rNth_ge _ e9 _ h) (fun e9 E hE => ?_) (?_ : rSnd _ _ 10 _)
  · match e9, hE with
    | 0, hE => cases hE; exact Or.inr ⟨"java/lang/IllegalArgumentException", [], ⟨0, 12, 15, 13⟩, [⟨0, 12, 19, 15⟩], rfl, fun z hz => absurd hz List.not_mem_nil, by decide, by decide, wd1256, ⟨32, rfl⟩, P32_15⟩
    | 1, hE => cases hE; exact Or.inl rfl
    | 2, hE => cases hE; exact Or.inl rfl
    | 3, hE => cases hE; exact Or.inl rfl
    | e9 + 4, hE => cases hE
  refine s_I2l D32_10 ?_
  refine s_Ast (t := 2) rfl q_last rfl (by decide) D32_11 ?_
  exact s_Go (pc' := 23) D32_12.1 (by decide) P32_23
theorem D33_0 : rDec M33 0 (.aload_n 2) 1 1 := ⟨by decide +kernel, rfl⟩
theorem D33_1 : rDec M33 1 (.iconst 0) 1 2 := ⟨by decide +kernel, rfl⟩
theorem D33_2 : rDec M33 2 (.aload_n 0) 1 3 := ⟨by decide +kernel, rfl⟩
theorem D33_3 : rDec M33 3 (.iload_n 1) 1 4 := ⟨by decide +kernel, rfl⟩
theorem D33_4 : rDec M33 4 (.invokevirtual 105) 3 7 := ⟨by decide +kernel, rfl⟩
theorem D33_7 : rDec M33 7 (.i2l) 1 8 := ⟨by decide +kernel, rfl⟩
theorem D33_8 : rDec M33 8 (.lastore) 1 9 := ⟨by decide +kernel, rfl⟩
theorem D33_9 : rDec M33 9 (.goto 6) 3 12 := ⟨by decide +kernel, rfl⟩
theorem D33_12 : rDec M33 12 (.astore_n 3) 1 13 := ⟨by decide +kernel, rfl⟩
theorem D33_13 : rDec M33 13 (.iconst 1) 1 14 := ⟨by decide +kernel, rfl⟩
theorem D33_14 : rDec M33 14 (.ireturn) 1 15 := ⟨by decide +kernel, rfl⟩
theorem D33_15 : rDec M33 15 (.iconst 0) 1 16 := ⟨by decide +kernel, rfl⟩
theorem D33_16 : rDec M33 16 (.ireturn) 1 17 := ⟨by decide +kernel, rfl⟩
theorem P33_15 : rSnd lab M33 15 B33_15 := by
  refine s_ic D33_15 kc_i_0 (by decide) ?_
  exact s_Ri (Or.inl rfl) D33_16.1
theorem P33_12 : rSnd lab M33 12 B33_12 := by
  refine s_As sk3 (show 3 < 4 from by decide) (Or.inr ⟨3, D33_12, rfl⟩) ?_
  refine s_ic D33_13 kc_i_1 (by decide) ?_
  exact s_Ri (Or.inl rfl) D33_14.1
theorem P33_0 : rSnd lab M33 0 B33_0 := by
  refine s_Ent ?_
  refine s_Al gk2 (Or.inr ⟨2, D33_0, rfl⟩) ?_
  refine s_ic D33_1 kc_i_0 (by decide) ?_
  refine s_Al gk0 (Or.inr ⟨0, D33_2, rfl⟩) ?_
  refine s_Il gk1 (Or.inr ⟨1, D33_3, rfl⟩) ?_
  refine s_Ch (kd := 2) (C := "WordWright") (by decide) (by decide +kernel) rfl rfl (l_V rfl ok88 rfl wd1646 wd1647 wd1648 D33_4.1) (fun e9 h => rNth_ge _ e9 _ h) (fun e9 E hE => ?_) (?_ : rSnd _ _ 7 _)
  · match e9, hE with
    | 0, hE => cases hE; exact Or.inr ⟨"java/lang/IllegalArgumentException", [], ⟨0, 9, 12, 13⟩, [], rfl, fun z hz => absurd hz List.not_mem_nil, by decide, by decide, wd1256, ⟨32, rfl⟩, P33_12⟩
    | 1, hE => cases hE; exact Or.inl rfl
    | 2, hE => cases hE; exact Or.inl rfl
    | 3, hE => cases hE; exact Or.inl rfl
    | e9 + 4, hE => cases hE
  refine s_I2l D33_7 ?_
  refine s_Ast (t := 2) rfl q_last rfl (by decide) D33_8 ?_
  exact s_Go (pc' := 15) D33_9.1 (by decide) P33_15
theorem D34_0 : rDec M34 0 (.aload_n 2) 1 1 := ⟨by decide +kernel, rfl⟩
theorem D34_1 : rDec M34 1 (.iconst 0) 1 2 := ⟨by decide +kernel, rfl⟩
theorem D34_2 : rDec M34 2 (.aload_n 0) 1 3 := ⟨by decide +kernel, rfl⟩
theorem D34_3 : rDec M34 3 (.iload_n 1) 1 4 := ⟨by decide +kernel, rfl⟩
theorem D34_4 : rDec M34 4 (.invokevirtual 86) 3 7 := ⟨by decide +kernel, rfl⟩
theorem D34_12 : rDec M34 12 (.astore_n 3) 1 13 := ⟨by decide +kernel, rfl⟩
theorem D34_13 : rDec M34 13 (.iconst 1) 1 14 := ⟨by decide +kernel, rfl⟩
theorem D34_14 : rDec M34 14 (.ireturn) 1 15 := ⟨by decide +kernel, rfl⟩
theorem P34_12 : rSnd lab M34 12 B34_12 := by
  refine s_As sk3 (show 3 < 4 from by decide) (Or.inr ⟨3, D34_12, rfl⟩) ?_
  refine s_ic D34_13 kc_i_1 (by decide) ?_
  exact s_Ri (Or.inl rfl) D34_14.1
theorem P34_0 : rSnd lab M34 0 B34_0 := by
  refine s_Ent ?_
  refine s_Al gk2 (Or.inr ⟨2, D34_0, rfl⟩) ?_
  refine s_ic D34_1 kc_i_0 (by decide) ?_
  refine s_Al gk0 (Or.inr ⟨0, D34_2, rfl⟩) ?_
  refine s_Il gk1 (Or.inr ⟨1, D34_3, rfl⟩) ?_
  refine s_Ch (kd := 2) (C := "WordWright") (by decide) (by decide +kernel) rfl rfl (l_V rfl ok90 rfl wd1585 wd1586 wd1587 D34_4.1) (fun e9 h => rNth_ge _ e9 _ h) (fun e9 E hE => ?_) (?_ : rSnd _ _ 7 _)
  · match e9, hE with
    | 0, hE => cases hE; exact Or.inl rfl
    | 1, hE => cases hE; exact Or.inl rfl
    | 2, hE => cases hE; exact Or.inr ⟨"java/lang/IndexOutOfBoundsException", [], ⟨0, 9, 12, 21⟩, [⟨0, 9, 15, 15⟩], rfl, fun z hz => absurd hz List.not_mem_nil, by decide, by decide, wd1344, ⟨44, rfl⟩, P34_12⟩
    | 3, hE => cases hE; exact Or.inl rfl
    | e9 + 4, hE => cases hE
  exact rSnd_none
theorem D35_0 : rDec M35 0 (.aload 4) 2 2 := ⟨by decide +kernel, rfl⟩
theorem D35_2 : rDec M35 2 (.iconst 0) 1 3 := ⟨by decide +kernel, rfl⟩
theorem D35_3 : rDec M35 3 (.aload_n 0) 1 4 := ⟨by decide +kernel, rfl⟩
theorem D35_4 : rDec M35 4 (.iload_n 1) 1 5 := ⟨by decide +kernel, rfl⟩
theorem D35_5 : rDec M35 5 (.iload_n 2) 1 6 := ⟨by decide +kernel, rfl⟩
theorem D35_6 : rDec M35 6 (.iload_n 3) 1 7 := ⟨by decide +kernel, rfl⟩
theorem D35_7 : rDec M35 7 (.invokevirtual 23) 3 10 := ⟨by decide +kernel, rfl⟩
theorem D35_10 : rDec M35 10 (.i2l) 1 11 := ⟨by decide +kernel, rfl⟩
theorem D35_11 : rDec M35 11 (.lastore) 1 12 := ⟨by decide +kernel, rfl⟩
theorem D35_12 : rDec M35 12 (.goto 7) 3 15 := ⟨by decide +kernel, rfl⟩
theorem D35_15 : rDec M35 15 (.astore 5) 2 17 := ⟨by decide +kernel, rfl⟩
theorem D35_17 : rDec M35 17 (.iconst 1) 1 18 := ⟨by decide +kernel, rfl⟩
theorem D35_18 : rDec M35 18 (.ireturn) 1 19 := ⟨by decide +kernel, rfl⟩
theorem D35_19 : rDec M35 19 (.iconst 0) 1 20 := ⟨by decide +kernel, rfl⟩
theorem D35_20 : rDec M35 20 (.ireturn) 1 21 := ⟨by decide +kernel, rfl⟩
theorem P35_19 : rSnd lab M35 19 B35_19 := by
  refine s_ic D35_19 kc_i_0 (by decide) ?_
  exact s_Ri (Or.inl rfl) D35_20.1
theorem P35_15 : rSnd lab M35 15 B35_15 := by
  refine s_As sk5 (show 5 < 6 from by decide) (Or.inl D35_15) ?_
  refine s_ic D35_17 kc_i_1 (by decide) ?_
  exact s_Ri (Or.inl rfl) D35_18.1
theorem P35_0 : rSnd lab M35 0 B35_0 := by
  refine s_Ent ?_
  refine s_Al gk4 (Or.inl D35_0) ?_
  refine s_ic D35_2 kc_i_0 (by decide) ?_
  refine s_Al gk0 (Or.inr ⟨0, D35_3, rfl⟩) ?_
  refine s_Il gk1 (Or.inr ⟨1, D35_4, rfl⟩) ?_
  refine s_Il gk2 (Or.inr ⟨2, D35_5, rfl⟩) ?_
  refine s_Il gk3 (Or.inr ⟨3, D35_6, rfl⟩) ?_
  refine s_Ch (kd := 2) (C := "WordWright") (by decide) (by decide +kernel) rfl rfl (l_V rfl ok94 rfl wd1368 wd1369 wd1370 D35_7.1) (fun e9 h => rNth_ge _ e9 _ h) (fun e9 E hE => ?_) (?_ : rSnd _ _ 10 _)
  · match e9, hE with
    | 0, hE => cases hE; exact Or.inl rfl
    | 1, hE => cases hE; exact Or.inl rfl
    | 2, hE => cases hE; exact Or.inr ⟨"java/lang/IndexOutOfBoundsException", [], ⟨0, 12, 15, 21⟩, [], rfl, fun z hz => absurd hz List.not_mem_nil, by decide, by decide, wd1344, ⟨44, rfl⟩, P35_15⟩
    | 3, hE => cases hE; exact Or.inl rfl
    | e9 + 4, hE => cases hE
  refine s_I2l D35_10 ?_
  refine s_Ast (t := 2) rfl q_last rfl (by decide) D35_11 ?_
  exact s_Go (pc' := 19) D35_12.1 (by decide) P35_19
theorem D36_0 : rDec M36 0 (.aload_n 3) 1 1 := ⟨by decide +kernel, rfl⟩
theorem D36_1 : rDec M36 1 (.iconst 0) 1 2 := ⟨by decide +kernel, rfl⟩
theorem D36_2 : rDec M36 2 (.aload_n 0) 1 3 := ⟨by decide +kernel, rfl⟩
theorem D36_3 : rDec M36 3 (.iload_n 1) 1 4 := ⟨by decide +kernel, rfl⟩
theorem D36_4 : rDec M36 4 (.iload_n 2) 1 5 := ⟨by decide +kernel, rfl⟩
theorem D36_5 : rDec M36 5 (.invokevirtual 83) 3 8 := ⟨by decide +kernel, rfl⟩
theorem D36_8 : rDec M36 8 (.i2l) 1 9 := ⟨by decide +kernel, rfl⟩
theorem D36_9 : rDec M36 9 (.lastore) 1 10 := ⟨by decide +kernel, rfl⟩
theorem D36_10 : rDec M36 10 (.goto 11) 3 13 := ⟨by decide +kernel, rfl⟩
theorem D36_13 : rDec M36 13 (.astore 4) 2 15 := ⟨by decide +kernel, rfl⟩
theorem D36_15 : rDec M36 15 (.iconst 1) 1 16 := ⟨by decide +kernel, rfl⟩
theorem D36_16 : rDec M36 16 (.ireturn) 1 17 := ⟨by decide +kernel, rfl⟩
theorem D36_21 : rDec M36 21 (.iconst 0) 1 22 := ⟨by decide +kernel, rfl⟩
theorem D36_22 : rDec M36 22 (.ireturn) 1 23 := ⟨by decide +kernel, rfl⟩
theorem P36_21 : rSnd lab M36 21 B36_21 := by
  refine s_ic D36_21 kc_i_0 (by decide) ?_
  exact s_Ri (Or.inl rfl) D36_22.1
theorem P36_13 : rSnd lab M36 13 B36_13 := by
  refine s_As sk4 (show 4 < 5 from by decide) (Or.inl D36_13) ?_
  refine s_ic D36_15 kc_i_1 (by decide) ?_
  exact s_Ri (Or.inl rfl) D36_16.1
theorem P36_0 : rSnd lab M36 0 B36_0 := by
  refine s_Ent ?_
  refine s_Al gk3 (Or.inr ⟨3, D36_0, rfl⟩) ?_
  refine s_ic D36_1 kc_i_0 (by decide) ?_
  refine s_Al gk0 (Or.inr ⟨0, D36_2, rfl⟩) ?_
  refine s_Il gk1 (Or.inr ⟨1, D36_3, rfl⟩) ?_
  refine s_Il gk2 (Or.inr ⟨2, D36_4, rfl⟩) ?_
  refine s_Ch (kd := 2) (C := "WordWright") (by decide) (by decide +kernel) rfl rfl (l_V rfl ok95 rfl wd1568 wd1569 wd1570 D36_5.1) (fun e9 h => rNth_ge _ e9 _ h) (fun e9 E hE => ?_) (?_ : rSnd _ _ 8 _)
  · match e9, hE with
    | 0, hE => cases hE; exact Or.inl rfl
    | 1, hE => cases hE; exact Or.inl rfl
    | 2, hE => cases hE; exact Or.inr ⟨"java/lang/IndexOutOfBoundsException", [], ⟨0, 10, 13, 21⟩, [⟨0, 10, 17, 15⟩], rfl, fun z hz => absurd hz List.not_mem_nil, by decide, by decide, wd1344, ⟨44, rfl⟩, P36_13⟩
    | 3, hE => cases hE; exact Or.inl rfl
    | e9 + 4, hE => cases hE
  refine s_I2l D36_8 ?_
  refine s_Ast (t := 2) rfl q_last rfl (by decide) D36_9 ?_
  exact s_Go (pc' := 21) D36_10.1 (by decide) P36_21
theorem D37_0 : rDec M37 0 (.aload_n 3) 1 1 := ⟨by decide +kernel, rfl⟩
theorem D37_1 : rDec M37 1 (.iconst 0) 1 2 := ⟨by decide +kernel, rfl⟩
theorem D37_2 : rDec M37 2 (.aload_n 0) 1 3 := ⟨by decide +kernel, rfl⟩
theorem D37_3 : rDec M37 3 (.iload_n 1) 1 4 := ⟨by decide +kernel, rfl⟩
theorem D37_4 : rDec M37 4 (.iload_n 2) 1 5 := ⟨by decide +kernel, rfl⟩
theorem D37_5 : rDec M37 5 (.invokevirtual 17) 3 8 := ⟨by decide +kernel, rfl⟩
theorem D37_8 : rDec M37 8 (.i2l) 1 9 := ⟨by decide +kernel, rfl⟩
theorem D37_9 : rDec M37 9 (.lastore) 1 10 := ⟨by decide +kernel, rfl⟩
theorem D37_10 : rDec M37 10 (.goto 11) 3 13 := ⟨by decide +kernel, rfl⟩
theorem D37_13 : rDec M37 13 (.astore 4) 2 15 := ⟨by decide +kernel, rfl⟩
theorem D37_15 : rDec M37 15 (.iconst 1) 1 16 := ⟨by decide +kernel, rfl⟩
theorem D37_16 : rDec M37 16 (.ireturn) 1 17 := ⟨by decide +kernel, rfl⟩
theorem D37_17 : rDec M37 17 (.astore 4) 2 19 := ⟨by decide +kernel, rfl⟩
theorem D37_19 : rDec M37 19 (.iconst 2) 1 20 := ⟨by decide +kernel, rfl⟩
theorem D37_20 : rDec M37 20 (.ireturn) 1 21 := ⟨by decide +kernel, rfl⟩
theorem D37_21 : rDec M37 21 (.iconst 0) 1 22 := ⟨by decide +kernel, rfl⟩
theorem D37_22 : rDec M37 22 (.ireturn) 1 23 := ⟨by decide +kernel, rfl⟩
theorem P37_21 : rSnd lab M37 21 B37_21 := by
  refine s_ic D37_21 kc_i_0 (by decide) ?_
  exact s_Ri (Or.inl rfl) D37_22.1
theorem P37_17 : rSnd lab M37 17 B37_17 := by
  refine s_As sk4 (show 4 < 5 from by decide) (Or.inl D37_17) ?_
  refine s_ic D37_19 kc_i_2 (by decide) ?_
  exact s_Ri (Or.inl rfl) D37_20.1
theorem P37_13 : rSnd lab M37 13 B37_13 := by
  refine s_As sk4 (show 4 < 5 from by decide) (Or.inl D37_13) ?_
  refine s_ic D37_15 kc_i_1 (by decide) ?_
  exact s_Ri (Or.inl rfl) D37_16.1
theorem P37_0 : rSnd lab M37 0 B37_0 := by
  refine s_Ent ?_
  refine s_Al gk3 (Or.inr ⟨3, D37_0, rfl⟩) ?_
  refine s_ic D37_1 kc_i_0 (by decide) ?_
  refine s_Al gk0 (Or.inr ⟨0, D37_2, rfl⟩) ?_
  refine s_Il gk1 (Or.inr ⟨1, D37_3, rfl⟩) ?_
  refine s_Il gk2 (Or.inr ⟨2, D37_4, rfl⟩) ?_
  refine s_Ch (kd := 2) (C := "WordWright") (by decide) (by decide +kernel) rfl rfl (l_V rfl ok97 rfl wd1347 wd1348 wd1349 D37_5.1) (fun e9 h => rNth_ge _ e9 _ h) (fun e9 E hE => ?_) (?_ : rSnd _ _ 8 _)
  · match e9, hE with
    | 0, hE => cases hE; exact Or.inr ⟨"java/lang/IllegalArgumentException", [⟨0, 10, 13, 21⟩], ⟨0, 10, 17, 13⟩, [], rfl, List.forall_mem_cons.mpr ⟨Or.inr ⟨by decide, "java/lang/IndexOutOfBoundsException", wd1344, by decide⟩, fun z hz => absurd hz List.not_mem_nil⟩, by decide, by decide, wd1256, ⟨32, rfl⟩, P37_17⟩
    | 1, hE => cases hE; exact Or.inl rfl
    | 2, hE => cases hE; exact Or.inr ⟨"java/lang/IndexOutOfBoundsException", [], ⟨0, 10, 13, 21⟩, [⟨0, 10, 17, 13⟩], rfl, fun z hz => absurd hz List.not_mem_nil, by decide, by decide, wd1344, ⟨44, rfl⟩, P37_13⟩
    | 3, hE => cases hE; exact Or.inl rfl
    | e9 + 4, hE => cases hE
  refine s_I2l D37_8 ?_
  refine s_Ast (t := 2) rfl q_last rfl (by decide) D37_9 ?_
  exact s_Go (pc' := 21) D37_10.1 (by decide) P37_21
theorem D38_0 : rDec M38 0 (.aload_n 1) 1 1 := ⟨by decide +kernel, rfl⟩
theorem D38_1 : rDec M38 1 (.iconst 0) 1 2 := ⟨by decide +kernel, rfl⟩
theorem D38_2 : rDec M38 2 (.aload_n 0) 1 3 := ⟨by decide +kernel, rfl⟩
theorem D38_3 : rDec M38 3 (.invokevirtual 77) 3 6 := ⟨by decide +kernel, rfl⟩
theorem D38_6 : rDec M38 6 (.i2l) 1 7 := ⟨by decide +kernel, rfl⟩
theorem D38_7 : rDec M38 7 (.lastore) 1 8 := ⟨by decide +kernel, rfl⟩
theorem D38_8 : rDec M38 8 (.goto 6) 3 11 := ⟨by decide +kernel, rfl⟩
theorem D38_14 : rDec M38 14 (.iconst 0) 1 15 := ⟨by decide +kernel, rfl⟩
theorem D38_15 : rDec M38 15 (.ireturn) 1 16 := ⟨by decide +kernel, rfl⟩
theorem P38_14 : rSnd lab M38 14 B38_14 := by
  refine s_ic D38_14 kc_i_0 (by decide) ?_
  exact s_Ri (Or.inl rfl) D38_15.1
theorem P38_0 : rSnd lab M38 0 B38_0 := by
  refine s_Ent ?_
  refine s_Al gk1 (Or.inr ⟨1, D38_0, rfl⟩) ?_
  refine s_ic D38_1 kc_i_0 (by decide) ?_
  refine s_Al gk0 (Or.inr ⟨0, D38_2, rfl⟩) ?_
  refine s_Ch (kd := 2) (C := "WordWright") (by decide) (by decide +kernel) rfl rfl (l_V rfl ok98 rfl wd1548 wd1549 wd1550 D38_3.1) (fun e9 h => rNth_ge _ e9 _ h) (fun e9 E hE => ?_) (?_ : rSnd _ _ 6 _)
  · match e9, hE with
    | 0, hE => cases hE; exact Or.inl rfl
    | 1, hE => cases hE; exact Or.inl rfl
    | 2, hE => cases hE; exact Or.inl rfl
    | 3, hE => cases hE; exact Or.inl rfl
    | e9 + 4, hE => cases hE
  refine s_I2l D38_6 ?_
  refine s_Ast (t := 2) rfl q_last rfl (by decide) D38_7 ?_
  exact s_Go (pc' := 14) D38_8.1 (by decide) P38_14
theorem D39_0 : rDec M39 0 (.aload_n 3) 1 1 := ⟨by decide +kernel, rfl⟩
theorem D39_1 : rDec M39 1 (.iconst 0) 1 2 := ⟨by decide +kernel, rfl⟩
theorem D39_2 : rDec M39 2 (.aload_n 0) 1 3 := ⟨by decide +kernel, rfl⟩
theorem D39_3 : rDec M39 3 (.iload_n 1) 1 4 := ⟨by decide +kernel, rfl⟩
theorem D39_4 : rDec M39 4 (.iload_n 2) 1 5 := ⟨by decide +kernel, rfl⟩
theorem D39_5 : rDec M39 5 (.invokevirtual 52) 3 8 := ⟨by decide +kernel, rfl⟩
theorem D39_13 : rDec M39 13 (.astore 4) 2 15 := ⟨by decide +kernel, rfl⟩
theorem D39_15 : rDec M39 15 (.iconst 1) 1 16 := ⟨by decide +kernel, rfl⟩
theorem D39_16 : rDec M39 16 (.ireturn) 1 17 := ⟨by decide +kernel, rfl⟩
theorem P39_13 : rSnd lab M39 13 B39_13 := by
  refine s_As sk4 (show 4 < 5 from by decide) (Or.inl D39_13) ?_
  refine s_ic D39_15 kc_i_1 (by decide) ?_
  exact s_Ri (Or.inl rfl) D39_16.1
theorem P39_0 : rSnd lab M39 0 B39_0 := by
  refine s_Ent ?_
  refine s_Al gk3 (Or.inr ⟨3, D39_0, rfl⟩) ?_
  refine s_ic D39_1 kc_i_0 (by decide) ?_
  refine s_Al gk0 (Or.inr ⟨0, D39_2, rfl⟩) ?_
  refine s_Il gk1 (Or.inr ⟨1, D39_3, rfl⟩) ?_
  refine s_Il gk2 (Or.inr ⟨2, D39_4, rfl⟩) ?_
  refine s_Ch (kd := 2) (C := "WordWright") (by decide) (by decide +kernel) rfl rfl (l_V rfl ok99 rfl wd1461 wd1462 wd1463 D39_5.1) (fun e9 h => rNth_ge _ e9 _ h) (fun e9 E hE => ?_) (?_ : rSnd _ _ 8 _)
  · match e9, hE with
    | 0, hE => cases hE; exact Or.inl rfl
    | 1, hE => cases hE; exact Or.inl rfl
    | 2, hE => cases hE; exact Or.inr ⟨"java/lang/IndexOutOfBoundsException", [], ⟨0, 10, 13, 21⟩, [⟨0, 10, 17, 13⟩], rfl, fun z hz => absurd hz List.not_mem_nil, by decide, by decide, wd1344, ⟨44, rfl⟩, P39_13⟩
    | 3, hE => cases hE; exact Or.inl rfl
    | e9 + 4, hE => cases hE
  exact rSnd_none
theorem D40_0 : rDec M40 0 (.aload_n 3) 1 1 := ⟨by decide +kernel, rfl⟩
theorem D40_1 : rDec M40 1 (.iconst 0) 1 2 := ⟨by decide +kernel, rfl⟩
theorem D40_2 : rDec M40 2 (.aload_n 0) 1 3 := ⟨by decide +kernel, rfl⟩
theorem D40_3 : rDec M40 3 (.iload_n 1) 1 4 := ⟨by decide +kernel, rfl⟩
theorem D40_4 : rDec M40 4 (.iload_n 2) 1 5 := ⟨by decide +kernel, rfl⟩
theorem D40_5 : rDec M40 5 (.invokevirtual 111) 3 8 := ⟨by decide +kernel, rfl⟩
theorem D40_8 : rDec M40 8 (.i2l) 1 9 := ⟨by decide +kernel, rfl⟩
theorem D40_9 : rDec M40 9 (.lastore) 1 10 := ⟨by decide +kernel, rfl⟩
theorem D40_10 : rDec M40 10 (.goto 11) 3 13 := ⟨by decide +kernel, rfl⟩
theorem D40_13 : rDec M40 13 (.astore 4) 2 15 := ⟨by decide +kernel, rfl⟩
theorem D40_15 : rDec M40 15 (.iconst 1) 1 16 := ⟨by decide +kernel, rfl⟩
theorem D40_16 : rDec M40 16 (.ireturn) 1 17 := ⟨by decide +kernel, rfl⟩
theorem D40_17 : rDec M40 17 (.astore 4) 2 19 := ⟨by decide +kernel, rfl⟩
theorem D40_19 : rDec M40 19 (.iconst 2) 1 20 := ⟨by decide +kernel, rfl⟩
theorem D40_20 : rDec M40 20 (.ireturn) 1 21 := ⟨by decide +kernel, rfl⟩
theorem D40_21 : rDec M40 21 (.iconst 0) 1 22 := ⟨by decide +kernel, rfl⟩
theorem D40_22 : rDec M40 22 (.ireturn) 1 23 := ⟨by decide +kernel, rfl⟩
theorem P40_21 : rSnd lab M40 21 B40_21 := by
  refine s_ic D40_21 kc_i_0 (by decide) ?_
  exact s_Ri (Or.inl rfl) D40_22.1
theorem P40_17 : rSnd lab M40 17 B40_17 := by
  refine s_As sk4 (show 4 < 5 from by decide) (Or.inl D40_17) ?_
  refine s_ic D40_19 kc_i_2 (by decide) ?_
  exact s_Ri (Or.inl rfl) D40_20.1
theorem P40_13 : rSnd lab M40 13 B40_13 := by
  refine s_As sk4 (show 4 < 5 from by decide) (Or.inl D40_13) ?_
  refine s_ic D40_15 kc_i_1 (by decide) ?_
  exact s_Ri (Or.inl rfl) D40_16.1
theorem P40_0 : rSnd lab M40 0 B40_0 := by
  refine s_Ent ?_
  refine s_Al gk3 (Or.inr ⟨3, D40_0, rfl⟩) ?_
  refine s_ic D40_1 kc_i_0 (by decide) ?_
  refine s_Al gk0 (Or.inr ⟨0, D40_2, rfl⟩) ?_
  refine s_Il gk1 (Or.inr ⟨1, D40_3, rfl⟩) ?_
  refine s_Il gk2 (Or.inr ⟨2, D40_4, rfl⟩) ?_
  refine s_Ch (kd := 2) (C := "WordWright") (by decide) (by decide +kernel) rfl rfl (l_V rfl ok101 rfl wd1661 wd1662 wd1663 D40_5.1) (fun e9 h => rNth_ge _ e9 _ h) (fun e9 E hE => ?_) (?_ : rSnd _ _ 8 _)
  · match e9, hE with
    | 0, hE => cases hE; exact Or.inr ⟨"java/lang/IllegalArgumentException", [⟨0, 10, 13, 21⟩], ⟨0, 10, 17, 13⟩, [], rfl, List.forall_mem_cons.mpr ⟨Or.inr ⟨by decide, "java/lang/IndexOutOfBoundsException", wd1344, by decide⟩, fun z hz => absurd hz List.not_mem_nil⟩, by decide, by decide, wd1256, ⟨32, rfl⟩, P40_17⟩
    | 1, hE => cases hE; exact Or.inl rfl
    | 2, hE => cases hE; exact Or.inr ⟨"java/lang/IndexOutOfBoundsException", [], ⟨0, 10, 13, 21⟩, [⟨0, 10, 17, 13⟩], rfl, fun z hz => absurd hz List.not_mem_nil, by decide, by decide, wd1344, ⟨44, rfl⟩, P40_13⟩
    | 3, hE => cases hE; exact Or.inl rfl
    | e9 + 4, hE => cases hE
  refine s_I2l D40_8 ?_
  refine s_Ast (t := 2) rfl q_last rfl (by decide) D40_9 ?_
  exact s_Go (pc' := 21) D40_10.1 (by decide) P40_21
theorem D41_0 : rDec M41 0 (.aload_n 2) 1 1 := ⟨by decide +kernel, rfl⟩
theorem D41_1 : rDec M41 1 (.iconst 0) 1 2 := ⟨by decide +kernel, rfl⟩
theorem D41_2 : rDec M41 2 (.aload_n 0) 1 3 := ⟨by decide +kernel, rfl⟩
theorem D41_3 : rDec M41 3 (.iload_n 1) 1 4 := ⟨by decide +kernel, rfl⟩
theorem D41_4 : rDec M41 4 (.invokevirtual 73) 3 7 := ⟨by decide +kernel, rfl⟩
theorem D41_7 : rDec M41 7 (.i2l) 1 8 := ⟨by decide +kernel, rfl⟩
theorem D41_8 : rDec M41 8 (.lastore) 1 9 := ⟨by decide +kernel, rfl⟩
theorem D41_9 : rDec M41 9 (.goto 6) 3 12 := ⟨by decide +kernel, rfl⟩
theorem D41_12 : rDec M41 12 (.astore_n 3) 1 13 := ⟨by decide +kernel, rfl⟩
theorem D41_13 : rDec M41 13 (.iconst 1) 1 14 := ⟨by decide +kernel, rfl⟩
theorem D41_14 : rDec M41 14 (.ireturn) 1 15 := ⟨by decide +kernel, rfl⟩
theorem D41_15 : rDec M41 15 (.iconst 0) 1 16 := ⟨by decide +kernel, rfl⟩
theorem D41_16 : rDec M41 16 (.ireturn) 1 17 := ⟨by decide +kernel, rfl⟩
theorem P41_15 : rSnd lab M41 15 B41_15 := by
  refine s_ic D41_15 kc_i_0 (by decide) ?_
  exact s_Ri (Or.inl rfl) D41_16.1
theorem P41_12 : rSnd lab M41 12 B41_12 := by
  refine s_As sk3 (show 3 < 4 from by decide) (Or.inr ⟨3, D41_12, rfl⟩) ?_
  refine s_ic D41_13 kc_i_1 (by decide) ?_
  exact s_Ri (Or.inl rfl) D41_14.1
theorem P41_0 : rSnd lab M41 0 B41_0 := by
  refine s_Ent ?_
  refine s_Al gk2 (Or.inr ⟨2, D41_0, rfl⟩) ?_
  refine s_ic D41_1 kc_i_0 (by decide) ?_
  refine s_Al gk0 (Or.inr ⟨0, D41_2, rfl⟩) ?_
  refine s_Il gk1 (Or.inr ⟨1, D41_3, rfl⟩) ?_
  refine s_Ch (kd := 2) (C := "WordWright") (by decide) (by decide +kernel) rfl rfl (l_V rfl ok103 rfl wd1541 wd1542 wd1543 D41_4.1) (fun e9 h => rNth_ge _ e9 _ h) (fun e9 E hE => ?_) (?_ : rSnd _ _ 7 _)
  · match e9, hE with
    | 0, hE => cases hE; exact Or.inl rfl
    | 1, hE => cases hE; exact Or.inl rfl
    | 2, hE => cases hE; exact Or.inr ⟨"java/lang/IndexOutOfBoundsException", [], ⟨0, 9, 12, 21⟩, [], rfl, fun z hz => absurd hz List.not_mem_nil, by decide, by decide, wd1344, ⟨44, rfl⟩, P41_12⟩
    | 3, hE => cases hE; exact Or.inl rfl
    | e9 + 4, hE => cases hE
  refine s_I2l D41_7 ?_
  refine s_Ast (t := 2) rfl q_last rfl (by decide) D41_8 ?_
  exact s_Go (pc' := 15) D41_9.1 (by decide) P41_15
theorem D42_0 : rDec M42 0 (.aload 4) 2 2 := ⟨by decide +kernel, rfl⟩
theorem D42_2 : rDec M42 2 (.iconst 0) 1 3 := ⟨by decide +kernel, rfl⟩
theorem D42_3 : rDec M42 3 (.aload_n 0) 1 4 := ⟨by decide +kernel, rfl⟩
theorem D42_4 : rDec M42 4 (.iload_n 1) 1 5 := ⟨by decide +kernel, rfl⟩
theorem D42_5 : rDec M42 5 (.iload_n 2) 1 6 := ⟨by decide +kernel, rfl⟩
theorem D42_6 : rDec M42 6 (.iload_n 3) 1 7 := ⟨by decide +kernel, rfl⟩
theorem D42_7 : rDec M42 7 (.invokevirtual 99) 3 10 := ⟨by decide +kernel, rfl⟩
theorem D42_10 : rDec M42 10 (.i2l) 1 11 := ⟨by decide +kernel, rfl⟩
theorem D42_11 : rDec M42 11 (.lastore) 1 12 := ⟨by decide +kernel, rfl⟩
theorem D42_12 : rDec M42 12 (.goto 11) 3 15 := ⟨by decide +kernel, rfl⟩
theorem D42_15 : rDec M42 15 (.astore 5) 2 17 := ⟨by decide +kernel, rfl⟩
theorem D42_17 : rDec M42 17 (.iconst 1) 1 18 := ⟨by decide +kernel, rfl⟩
theorem D42_18 : rDec M42 18 (.ireturn) 1 19 := ⟨by decide +kernel, rfl⟩
theorem D42_19 : rDec M42 19 (.astore 5) 2 21 := ⟨by decide +kernel, rfl⟩
theorem D42_21 : rDec M42 21 (.iconst 2) 1 22 := ⟨by decide +kernel, rfl⟩
theorem D42_22 : rDec M42 22 (.ireturn) 1 23 := ⟨by decide +kernel, rfl⟩
theorem D42_23 : rDec M42 23 (.iconst 0) 1 24 := ⟨by decide +kernel, rfl⟩
theorem D42_24 : rDec M42 24 (.ireturn) 1 25 := ⟨by decide +kernel, rfl⟩
theorem P42_23 : rSnd lab M42 23 B42_23 := by
  refine s_ic D42_23 kc_i_0 (by decide) ?_
  exact s_Ri (Or.inl rfl) D42_24.1
theorem P42_19 : rSnd lab M42 19 B42_19 := by
  refine s_As sk5 (show 5 < 6 from by decide) (Or.inl D42_19) ?_
  refine s_ic D42_21 kc_i_2 (by decide) ?_
  exact s_Ri (Or.inl rfl) D42_22.1
theorem P42_15 : rSnd lab M42 15 B42_15 := by
  refine s_As sk5 (show 5 < 6 from by decide) (Or.inl D42_15) ?_
  refine s_ic D42_17 kc_i_1 (by decide) ?_
  exact s_Ri (Or.inl rfl) D42_18.1
theorem P42_0 : rSnd lab M42 0 B42_0 := by
  refine s_Ent ?_
  refine s_Al gk4 (Or.inl D42_0) ?_
  refine s_ic D42_2 kc_i_0 (by decide) ?_
  refine s_Al gk0 (Or.inr ⟨0, D42_3, rfl⟩) ?_
  refine s_Il gk1 (Or.inr ⟨1, D42_4, rfl⟩) ?_
  refine s_Il gk2 (Or.inr ⟨2, D42_5, rfl⟩) ?_
  refine s_Il gk3 (Or.inr ⟨3, D42_6, rfl⟩) ?_
  refine s_Ch (kd := 2) (C := "WordWright") (by decide) (by decide +kernel) rfl rfl (l_V rfl ok104 rfl wd1629 wd1630 wd1631 D42_7.1) (fun e9 h => rNth_ge _ e9 _ h) (fun e9 E hE => ?_) (?_ : rSnd _ _ 10 _)
  · match e9, hE with
    | 0, hE => cases hE; exact Or.inr ⟨"java/lang/IllegalArgumentException", [⟨0, 12, 15, 21⟩], ⟨0, 12, 19, 13⟩, [], rfl, List.forall_mem_cons.mpr ⟨Or.inr ⟨by decide, "java/lang/IndexOutOfBoundsException", wd1344, by decide⟩, fun z hz => absurd hz List.not_mem_nil⟩, by decide, by decide, wd1256, ⟨32, rfl⟩, P42_19⟩
    | 1, hE => cases hE; exact Or.inl rfl
    | 2, hE => cases hE; exact Or.inr ⟨"java/lang/IndexOutOfBoundsException", [], ⟨0, 12, 15, 21⟩, [⟨0, 12, 19, 13⟩], rfl, fun z hz => absurd hz List.not_mem_nil, by decide, by decide, wd1344, ⟨44, rfl⟩, P42_15⟩
    | 3, hE => cases hE; exact Or.inl rfl
    | e9 + 4, hE => cases hE
  refine s_I2l D42_10 ?_
  refine s_Ast (t := 2) rfl q_last rfl (by decide) D42_11 ?_
  exact s_Go (pc' := 23) D42_12.1 (by decide) P42_23
theorem D43_0 : rDec M43 0 (.aload 5) 2 2 := ⟨by decide +kernel, rfl⟩
theorem D43_2 : rDec M43 2 (.iconst 0) 1 3 := ⟨by decide +kernel, rfl⟩
theorem D43_3 : rDec M43 3 (.aload_n 0) 1 4 := ⟨by decide +kernel, rfl⟩
theorem D43_4 : rDec M43 4 (.iload_n 1) 1 5 := ⟨by decide +kernel, rfl⟩
theorem D43_5 : rDec M43 5 (.iload_n 2) 1 6 := ⟨by decide +kernel, rfl⟩
theorem D43_6 : rDec M43 6 (.iload_n 3) 1 7 := ⟨by decide +kernel, rfl⟩
theorem D43_7 : rDec M43 7 (.iload 4) 2 9 := ⟨by decide +kernel, rfl⟩
theorem D43_9 : rDec M43 9 (.invokevirtual 95) 3 12 := ⟨by decide +kernel, rfl⟩
theorem D43_12 : rDec M43 12 (.i2l) 1 13 := ⟨by decide +kernel, rfl⟩
theorem D43_13 : rDec M43 13 (.lastore) 1 14 := ⟨by decide +kernel, rfl⟩
theorem D43_14 : rDec M43 14 (.goto 11) 3 17 := ⟨by decide +kernel, rfl⟩
theorem D43_17 : rDec M43 17 (.astore 6) 2 19 := ⟨by decide +kernel, rfl⟩
theorem D43_19 : rDec M43 19 (.iconst 1) 1 20 := ⟨by decide +kernel, rfl⟩
theorem D43_20 : rDec M43 20 (.ireturn) 1 21 := ⟨by decide +kernel, rfl⟩
theorem D43_25 : rDec M43 25 (.iconst 0) 1 26 := ⟨by decide +kernel, rfl⟩
theorem D43_26 : rDec M43 26 (.ireturn) 1 27 := ⟨by decide +kernel, rfl⟩
theorem P43_25 : rSnd lab M43 25 B43_25 := by
  refine s_ic D43_25 kc_i_0 (by decide) ?_
  exact s_Ri (Or.inl rfl) D43_26.1
theorem P43_17 : rSnd lab M43 17 B43_17 := by
  refine s_As sk6 (show 6 < 7 from by decide) (Or.inl D43_17) ?_
  refine s_ic D43_19 kc_i_1 (by decide) ?_
  exact s_Ri (Or.inl rfl) D43_20.1
theorem P43_0 : rSnd lab M43 0 B43_0 := by
  refine s_Ent ?_
  refine s_Al gk5 (Or.inl D43_0) ?_
  refine s_ic D43_2 kc_i_0 (by decide) ?_
  refine s_Al gk0 (Or.inr ⟨0, D43_3, rfl⟩) ?_
  refine s_Il gk1 (Or.inr ⟨1, D43_4, rfl⟩) ?_
  refine s_Il gk2 (Or.inr ⟨2, D43_5, rfl⟩) ?_
  refine s_Il gk3 (Or.inr ⟨3, D43_6, rfl⟩) ?_
  refine s_Il gk4 (Or.inl D43_7) ?_
  refine s_Ch (kd := 2) (C := "WordWright") (by decide) (by decide +kernel) rfl rfl (l_V rfl ok106 rfl wd1608 wd1609 wd1610 D43_9.1) (fun e9 h => rNth_ge _ e9 _ h) (fun e9 E hE => ?_) (?_ : rSnd _ _ 12 _)
  · match e9, hE with
    | 0, hE => cases hE; exact Or.inr ⟨"java/lang/IllegalArgumentException", [], ⟨0, 14, 17, 13⟩, [⟨0, 14, 21, 15⟩], rfl, fun z hz => absurd hz List.not_mem_nil, by decide, by decide, wd1256, ⟨32, rfl⟩, P43_17⟩
    | 1, hE => cases hE; exact Or.inl rfl
    | 2, hE => cases hE; exact Or.inl rfl
    | 3, hE => cases hE; exact Or.inl rfl
    | e9 + 4, hE => cases hE
  refine s_I2l D43_12 ?_
  refine s_Ast (t := 2) rfl q_last rfl (by decide) D43_13 ?_
  exact s_Go (pc' := 25) D43_14.1 (by decide) P43_25
theorem D44_0 : rDec M44 0 (.aload 4) 2 2 := ⟨by decide +kernel, rfl⟩
theorem D44_2 : rDec M44 2 (.iconst 0) 1 3 := ⟨by decide +kernel, rfl⟩
theorem D44_3 : rDec M44 3 (.aload_n 0) 1 4 := ⟨by decide +kernel, rfl⟩
theorem D44_4 : rDec M44 4 (.iload_n 1) 1 5 := ⟨by decide +kernel, rfl⟩
theorem D44_5 : rDec M44 5 (.iload_n 2) 1 6 := ⟨by decide +kernel, rfl⟩
theorem D44_6 : rDec M44 6 (.iload_n 3) 1 7 := ⟨by decide +kernel, rfl⟩
theorem D44_7 : rDec M44 7 (.invokevirtual 67) 3 10 := ⟨by decide +kernel, rfl⟩
theorem D44_15 : rDec M44 15 (.astore 5) 2 17 := ⟨by decide +kernel, rfl⟩
theorem D44_17 : rDec M44 17 (.iconst 1) 1 18 := ⟨by decide +kernel, rfl⟩
theorem D44_18 : rDec M44 18 (.ireturn) 1 19 := ⟨by decide +kernel, rfl⟩
theorem P44_15 : rSnd lab M44 15 B44_15 := by
  refine s_As sk5 (show 5 < 6 from by decide) (Or.inl D44_15) ?_
  refine s_ic D44_17 kc_i_1 (by decide) ?_
  exact s_Ri (Or.inl rfl) D44_18.1
theorem P44_0 : rSnd lab M44 0 B44_0 := by
  refine s_Ent ?_
  refine s_Al gk4 (Or.inl D44_0) ?_
  refine s_ic D44_2 kc_i_0 (by decide) ?_
  refine s_Al gk0 (Or.inr ⟨0, D44_3, rfl⟩) ?_
  refine s_Il gk1 (Or.inr ⟨1, D44_4, rfl⟩) ?_
  refine s_Il gk2 (Or.inr ⟨2, D44_5, rfl⟩) ?_
  refine s_Il gk3 (Or.inr ⟨3, D44_6, rfl⟩) ?_
  refine s_Ch (kd := 2) (C := "WordWright") (by decide) (by decide +kernel) rfl rfl (l_V rfl ok107 rfl wd1514 wd1515 wd1516 D44_7.1) (fun e9 h => rNth_ge _ e9 _ h) (fun e9 E hE => ?_) (?_ : rSnd _ _ 10 _)
  · match e9, hE with
    | 0, hE => cases hE; exact Or.inl rfl
    | 1, hE => cases hE; exact Or.inl rfl
    | 2, hE => cases hE; exact Or.inr ⟨"java/lang/IndexOutOfBoundsException", [], ⟨0, 12, 15, 21⟩, [⟨0, 12, 19, 13⟩, ⟨0, 12, 23, 15⟩], rfl, fun z hz => absurd hz List.not_mem_nil, by decide, by decide, wd1344, ⟨44, rfl⟩, P44_15⟩
    | 3, hE => cases hE; exact Or.inl rfl
    | e9 + 4, hE => cases hE
  exact rSnd_none
theorem D45_0 : rDec M45 0 (.aload_n 1) 1 1 := ⟨by decide +kernel, rfl⟩
theorem D45_1 : rDec M45 1 (.iconst 0) 1 2 := ⟨by decide +kernel, rfl⟩
theorem D45_2 : rDec M45 2 (.aload_n 0) 1 3 := ⟨by decide +kernel, rfl⟩
theorem D45_3 : rDec M45 3 (.invokevirtual 70) 3 6 := ⟨by decide +kernel, rfl⟩
theorem D45_11 : rDec M45 11 (.astore_n 2) 1 12 := ⟨by decide +kernel, rfl⟩
theorem D45_12 : rDec M45 12 (.iconst 1) 1 13 := ⟨by decide +kernel, rfl⟩
theorem D45_13 : rDec M45 13 (.ireturn) 1 14 := ⟨by decide +kernel, rfl⟩
theorem P45_11 : rSnd lab M45 11 B45_11 := by
  refine s_As sk2 (show 2 < 3 from by decide) (Or.inr ⟨2, D45_11, rfl⟩) ?_
  refine s_ic D45_12 kc_i_1 (by decide) ?_
  exact s_Ri (Or.inl rfl) D45_13.1
theorem P45_0 : rSnd lab M45 0 B45_0 := by
  refine s_Ent ?_
  refine s_Al gk1 (Or.inr ⟨1, D45_0, rfl⟩) ?_
  refine s_ic D45_1 kc_i_0 (by decide) ?_
  refine s_Al gk0 (Or.inr ⟨0, D45_2, rfl⟩) ?_
  refine s_Ch (kd := 2) (C := "WordWright") (by decide) (by decide +kernel) rfl rfl (l_V rfl ok108 rfl wd1529 wd1530 wd1531 D45_3.1) (fun e9 h => rNth_ge _ e9 _ h) (fun e9 E hE => ?_) (?_ : rSnd _ _ 6 _)
  · match e9, hE with
    | 0, hE => cases hE; exact Or.inl rfl
    | 1, hE => cases hE; exact Or.inr ⟨"java/lang/IllegalStateException", [], ⟨0, 8, 11, 15⟩, [], rfl, fun z hz => absurd hz List.not_mem_nil, by decide, by decide, wd1257, ⟨43, rfl⟩, P45_11⟩
    | 2, hE => cases hE; exact Or.inl rfl
    | 3, hE => cases hE; exact Or.inl rfl
    | e9 + 4, hE => cases hE
  exact rSnd_none
theorem D46_0 : rDec M46 0 (.aload_n 3) 1 1 := ⟨by decide +kernel, rfl⟩
theorem D46_1 : rDec M46 1 (.iconst 0) 1 2 := ⟨by decide +kernel, rfl⟩
theorem D46_2 : rDec M46 2 (.aload_n 0) 1 3 := ⟨by decide +kernel, rfl⟩
theorem D46_3 : rDec M46 3 (.iload_n 1) 1 4 := ⟨by decide +kernel, rfl⟩
theorem D46_4 : rDec M46 4 (.iload_n 2) 1 5 := ⟨by decide +kernel, rfl⟩
theorem D46_5 : rDec M46 5 (.invokevirtual 92) 3 8 := ⟨by decide +kernel, rfl⟩
theorem D46_13 : rDec M46 13 (.astore 4) 2 15 := ⟨by decide +kernel, rfl⟩
theorem D46_15 : rDec M46 15 (.iconst 1) 1 16 := ⟨by decide +kernel, rfl⟩
theorem D46_16 : rDec M46 16 (.ireturn) 1 17 := ⟨by decide +kernel, rfl⟩
theorem P46_13 : rSnd lab M46 13 B46_13 := by
  refine s_As sk4 (show 4 < 5 from by decide) (Or.inl D46_13) ?_
  refine s_ic D46_15 kc_i_1 (by decide) ?_
  exact s_Ri (Or.inl rfl) D46_16.1
theorem P46_0 : rSnd lab M46 0 B46_0 := by
  refine s_Ent ?_
  refine s_Al gk3 (Or.inr ⟨3, D46_0, rfl⟩) ?_
  refine s_ic D46_1 kc_i_0 (by decide) ?_
  refine s_Al gk0 (Or.inr ⟨0, D46_2, rfl⟩) ?_
  refine s_Il gk1 (Or.inr ⟨1, D46_3, rfl⟩) ?_
  refine s_Il gk2 (Or.inr ⟨2, D46_4, rfl⟩) ?_
  refine s_Ch (kd := 2) (C := "WordWright") (by decide) (by decide +kernel) rfl rfl (l_V rfl ok109 rfl wd1601 wd1602 wd1603 D46_5.1) (fun e9 h => rNth_ge _ e9 _ h) (fun e9 E hE => ?_) (?_ : rSnd _ _ 8 _)
  · match e9, hE with
    | 0, hE => cases hE; exact Or.inl rfl
    | 1, hE => cases hE; exact Or.inl rfl
    | 2, hE => cases hE; exact Or.inr ⟨"java/lang/IndexOutOfBoundsException", [], ⟨0, 10, 13, 21⟩, [], rfl, fun z hz => absurd hz List.not_mem_nil, by decide, by decide, wd1344, ⟨44, rfl⟩, P46_13⟩
    | 3, hE => cases hE; exact Or.inl rfl
    | e9 + 4, hE => cases hE
  exact rSnd_none
theorem D47_0 : rDec M47 0 (.aload 4) 2 2 := ⟨by decide +kernel, rfl⟩
theorem D47_2 : rDec M47 2 (.iconst 0) 1 3 := ⟨by decide +kernel, rfl⟩
theorem D47_3 : rDec M47 3 (.aload_n 0) 1 4 := ⟨by decide +kernel, rfl⟩
theorem D47_4 : rDec M47 4 (.iload_n 1) 1 5 := ⟨by decide +kernel, rfl⟩
theorem D47_5 : rDec M47 5 (.iload_n 2) 1 6 := ⟨by decide +kernel, rfl⟩
theorem D47_6 : rDec M47 6 (.iload_n 3) 1 7 := ⟨by decide +kernel, rfl⟩
theorem D47_7 : rDec M47 7 (.invokevirtual 108) 3 10 := ⟨by decide +kernel, rfl⟩
theorem D47_10 : rDec M47 10 (.i2l) 1 11 := ⟨by decide +kernel, rfl⟩
theorem D47_11 : rDec M47 11 (.lastore) 1 12 := ⟨by decide +kernel, rfl⟩
theorem D47_12 : rDec M47 12 (.goto 7) 3 15 := ⟨by decide +kernel, rfl⟩
theorem D47_15 : rDec M47 15 (.astore 5) 2 17 := ⟨by decide +kernel, rfl⟩
theorem D47_17 : rDec M47 17 (.iconst 1) 1 18 := ⟨by decide +kernel, rfl⟩
theorem D47_18 : rDec M47 18 (.ireturn) 1 19 := ⟨by decide +kernel, rfl⟩
theorem D47_19 : rDec M47 19 (.iconst 0) 1 20 := ⟨by decide +kernel, rfl⟩
theorem D47_20 : rDec M47 20 (.ireturn) 1 21 := ⟨by decide +kernel, rfl⟩
theorem P47_19 : rSnd lab M47 19 B47_19 := by
  refine s_ic D47_19 kc_i_0 (by decide) ?_
  exact s_Ri (Or.inl rfl) D47_20.1
theorem P47_15 : rSnd lab M47 15 B47_15 := by
  refine s_As sk5 (show 5 < 6 from by decide) (Or.inl D47_15) ?_
  refine s_ic D47_17 kc_i_1 (by decide) ?_
  exact s_Ri (Or.inl rfl) D47_18.1
theorem P47_0 : rSnd lab M47 0 B47_0 := by
  refine s_Ent ?_
  refine s_Al gk4 (Or.inl D47_0) ?_
  refine s_ic D47_2 kc_i_0 (by decide) ?_
  refine s_Al gk0 (Or.inr ⟨0, D47_3, rfl⟩) ?_
  refine s_Il gk1 (Or.inr ⟨1, D47_4, rfl⟩) ?_
  refine s_Il gk2 (Or.inr ⟨2, D47_5, rfl⟩) ?_
  refine s_Il gk3 (Or.inr ⟨3, D47_6, rfl⟩) ?_
  refine s_Ch (kd := 2) (C := "WordWright") (by decide) (by decide +kernel) rfl rfl (l_V rfl ok110 rfl wd1654 wd1655 wd1656 D47_7.1) (fun e9 h => rNth_ge _ e9 _ h) (fun e9 E hE => ?_) (?_ : rSnd _ _ 10 _)
  · match e9, hE with
    | 0, hE => cases hE; exact Or.inr ⟨"java/lang/IllegalArgumentException", [], ⟨0, 12, 15, 13⟩, [], rfl, fun z hz => absurd hz List.not_mem_nil, by decide, by decide, wd1256, ⟨32, rfl⟩, P47_15⟩
    | 1, hE => cases hE; exact Or.inl rfl
    | 2, hE => cases hE; exact Or.inl rfl
    | 3, hE => cases hE; exact Or.inl rfl
    | e9 + 4, hE => cases hE
  refine s_I2l D47_10 ?_
  refine s_Ast (t := 2) rfl q_last rfl (by decide) D47_11 ?_
  exact s_Go (pc' := 19) D47_12.1 (by decide) P47_19
theorem D48_0 : rDec M48 0 (.aload 4) 2 2 := ⟨by decide +kernel, rfl⟩
theorem D48_2 : rDec M48 2 (.iconst 0) 1 3 := ⟨by decide +kernel, rfl⟩
theorem D48_3 : rDec M48 3 (.aload_n 0) 1 4 := ⟨by decide +kernel, rfl⟩
theorem D48_4 : rDec M48 4 (.iload_n 1) 1 5 := ⟨by decide +kernel, rfl⟩
theorem D48_5 : rDec M48 5 (.iload_n 2) 1 6 := ⟨by decide +kernel, rfl⟩
theorem D48_6 : rDec M48 6 (.iload_n 3) 1 7 := ⟨by decide +kernel, rfl⟩
theorem D48_7 : rDec M48 7 (.invokevirtual 49) 3 10 := ⟨by decide +kernel, rfl⟩
theorem D48_15 : rDec M48 15 (.astore 5) 2 17 := ⟨by decide +kernel, rfl⟩
theorem D48_17 : rDec M48 17 (.iconst 1) 1 18 := ⟨by decide +kernel, rfl⟩
theorem D48_18 : rDec M48 18 (.ireturn) 1 19 := ⟨by decide +kernel, rfl⟩
theorem P48_15 : rSnd lab M48 15 B48_15 := by
  refine s_As sk5 (show 5 < 6 from by decide) (Or.inl D48_15) ?_
  refine s_ic D48_17 kc_i_1 (by decide) ?_
  exact s_Ri (Or.inl rfl) D48_18.1
theorem P48_0 : rSnd lab M48 0 B48_0 := by
  refine s_Ent ?_
  refine s_Al gk4 (Or.inl D48_0) ?_
  refine s_ic D48_2 kc_i_0 (by decide) ?_
  refine s_Al gk0 (Or.inr ⟨0, D48_3, rfl⟩) ?_
  refine s_Il gk1 (Or.inr ⟨1, D48_4, rfl⟩) ?_
  refine s_Il gk2 (Or.inr ⟨2, D48_5, rfl⟩) ?_
  refine s_Il gk3 (Or.inr ⟨3, D48_6, rfl⟩) ?_
  refine s_Ch (kd := 2) (C := "WordWright") (by decide) (by decide +kernel) rfl rfl (l_V rfl ok111 rfl wd1452 wd1453 wd1454 D48_7.1) (fun e9 h => rNth_ge _ e9 _ h) (fun e9 E hE => ?_) (?_ : rSnd _ _ 10 _)
  · match e9, hE with
    | 0, hE => cases hE; exact Or.inl rfl
    | 1, hE => cases hE; exact Or.inl rfl
    | 2, hE => cases hE; exact Or.inr ⟨"java/lang/IndexOutOfBoundsException", [], ⟨0, 12, 15, 21⟩, [⟨0, 12, 19, 13⟩], rfl, fun z hz => absurd hz List.not_mem_nil, by decide, by decide, wd1344, ⟨44, rfl⟩, P48_15⟩
    | 3, hE => cases hE; exact Or.inl rfl
    | e9 + 4, hE => cases hE
  exact rSnd_none
theorem D49_0 : rDec M49 0 (.aload_n 0) 1 1 := ⟨by decide +kernel, rfl⟩
theorem D49_1 : rDec M49 1 (.dup) 1 2 := ⟨by decide +kernel, rfl⟩
theorem D49_2 : rDec M49 2 (.getfield 45) 3 5 := ⟨by decide +kernel, rfl⟩
theorem D49_5 : rDec M49 5 (.aload_n 0) 1 6 := ⟨by decide +kernel, rfl⟩
theorem D49_6 : rDec M49 6 (.getfield 49) 3 9 := ⟨by decide +kernel, rfl⟩
theorem D49_9 : rDec M49 9 (.iadd) 1 10 := ⟨by decide +kernel, rfl⟩
theorem D49_10 : rDec M49 10 (.putfield 45) 3 13 := ⟨by decide +kernel, rfl⟩
theorem D49_13 : rDec M49 13 (.aload_n 0) 1 14 := ⟨by decide +kernel, rfl⟩
theorem D49_14 : rDec M49 14 (.getfield 45) 3 17 := ⟨by decide +kernel, rfl⟩
theorem D49_17 : rDec M49 17 (.ldc 52) 2 19 := ⟨by decide +kernel, rfl⟩
theorem D49_19 : rDec M49 19 (.if_icmp .le 16) 3 22 := ⟨by decide +kernel, rfl⟩
theorem D49_35 : rDec M49 35 (.aload_n 0) 1 36 := ⟨by decide +kernel, rfl⟩
theorem D49_36 : rDec M49 36 (.iconst 0) 1 37 := ⟨by decide +kernel, rfl⟩
theorem D49_37 : rDec M49 37 (.putfield 49) 3 40 := ⟨by decide +kernel, rfl⟩
theorem D49_40 : rDec M49 40 (.aload_n 0) 1 41 := ⟨by decide +kernel, rfl⟩
theorem D49_41 : rDec M49 41 (.lload_n 1) 1 42 := ⟨by decide +kernel, rfl⟩
theorem D49_42 : rDec M49 42 (.invokevirtual 59) 3 45 := ⟨by decide +kernel, rfl⟩
theorem D49_45 : rDec M49 45 (.pop) 1 46 := ⟨by decide +kernel, rfl⟩
theorem D49_46 : rDec M49 46 (.return_) 1 47 := ⟨by decide +kernel, rfl⟩
theorem P49_35 : rSnd lab M49 35 B49_35 := by
  refine s_Al gk0 (Or.inr ⟨0, D49_35, rfl⟩) ?_
  refine s_ic D49_36 kc_i_0 (by decide) ?_
  refine s_Pf (ci := 1) (r := ("WordWright$Draft", kT1, 12)) rfl (show 0 < 12 from by decide) rfl (Or.inl ⟨rfl, Or.inl wd105⟩) (Or.inl rfl) rfl (by decide) D49_37 ?_
  refine s_Al gk0 (Or.inr ⟨0, D49_40, rfl⟩) ?_
  refine s_Ll gk1 (Or.inr ⟨1, D49_41, rfl⟩) ?_
  refine s_Cv (ln := 3) (kd := 4) (C := "WordWright$Draft") (by decide) (by decide +kernel) rfl (l_V rfl ok55 rfl wd641 wd642 wd643 D49_42.1) (?_ : rSnd _ _ 45 _)
  refine s_Pop D49_45 ?_
  exact s_Rv rfl D49_46.1
theorem P49_0 : rSnd lab M49 0 B49_0 := by
  refine s_Ent ?_
  refine s_Al gk0 (Or.inr ⟨0, D49_0, rfl⟩) ?_
  refine s_Dup D49_1 ?_
  refine s_Gf (ci := 1) (r := ("WordWright$Draft", kT1, 12)) rfl (show 5 < 12 from by decide) rfl (Or.inl wd114) (Or.inl rfl) rfl D49_2 ?_
  refine s_Al gk0 (Or.inr ⟨0, D49_5, rfl⟩) ?_
  refine s_Gf (ci := 1) (r := ("WordWright$Draft", kT1, 12)) rfl (show 0 < 12 from by decide) rfl (Or.inl wd105) (Or.inl rfl) rfl D49_6 ?_
  refine s_Bin q_iadd n_add rG2_x e_add D49_9 ?_
  refine s_Pf (ci := 1) (r := ("WordWright$Draft", kT1, 12)) rfl (show 5 < 12 from by decide) rfl (Or.inl ⟨rfl, Or.inl wd114⟩) (Or.inl rfl) rfl (by decide) D49_10 ?_
  refine s_Al gk0 (Or.inr ⟨0, D49_13, rfl⟩) ?_
  refine s_Gf (ci := 1) (r := ("WordWright$Draft", kT1, 12)) rfl (show 5 < 12 from by decide) rfl (Or.inl wd114) (Or.inl rfl) rfl D49_14 ?_
  refine s_ld rfl wd639 D49_17 kc_I_1073741824 (by decide) ?_
  refine s_Ic c_le (i_le (tg := 35) (by decide)) D49_19.1 P49_35 (?_ : rSnd _ _ 22 _)
  exact rSnd_none
theorem D50_0 : rDec M50 0 (.aload_n 0) 1 1 := ⟨by decide +kernel, rfl⟩
theorem D50_1 : rDec M50 1 (.invokespecial 5) 3 4 := ⟨by decide +kernel, rfl⟩
theorem D50_4 : rDec M50 4 (.aload_n 0) 1 5 := ⟨by decide +kernel, rfl⟩
theorem D50_5 : rDec M50 5 (.sipush 10240) 3 8 := ⟨by decide +kernel, rfl⟩
theorem D50_8 : rDec M50 8 (.newarray .long) 2 10 := ⟨by decide +kernel, rfl⟩
theorem D50_10 : rDec M50 10 (.putfield 11) 3 13 := ⟨by decide +kernel, rfl⟩
theorem D50_13 : rDec M50 13 (.aload_n 0) 1 14 := ⟨by decide +kernel, rfl⟩
theorem D50_14 : rDec M50 14 (.sipush 10240) 3 17 := ⟨by decide +kernel, rfl⟩
theorem D50_17 : rDec M50 17 (.newarray .boolean) 2 19 := ⟨by decide +kernel, rfl⟩
theorem D50_19 : rDec M50 19 (.putfield 15) 3 22 := ⟨by decide +kernel, rfl⟩
theorem D50_22 : rDec M50 22 (.aload_n 0) 1 23 := ⟨by decide +kernel, rfl⟩
theorem D50_23 : rDec M50 23 (.ldc 19) 2 25 := ⟨by decide +kernel, rfl⟩
theorem D50_25 : rDec M50 25 (.newarray .int) 2 27 := ⟨by decide +kernel, rfl⟩
theorem D50_27 : rDec M50 27 (.putfield 20) 3 30 := ⟨by decide +kernel, rfl⟩
theorem D50_30 : rDec M50 30 (.aload_n 0) 1 31 := ⟨by decide +kernel, rfl⟩
theorem D50_31 : rDec M50 31 (.sipush 16384) 3 34 := ⟨by decide +kernel, rfl⟩
theorem D50_34 : rDec M50 34 (.newarray .int) 2 36 := ⟨by decide +kernel, rfl⟩
theorem D50_36 : rDec M50 36 (.putfield 24) 3 39 := ⟨by decide +kernel, rfl⟩
theorem D50_39 : rDec M50 39 (.aload_n 0) 1 40 := ⟨by decide +kernel, rfl⟩
theorem D50_40 : rDec M50 40 (.sipush 10240) 3 43 := ⟨by decide +kernel, rfl⟩
theorem D50_43 : rDec M50 43 (.newarray .int) 2 45 := ⟨by decide +kernel, rfl⟩
theorem D50_45 : rDec M50 45 (.putfield 27) 3 48 := ⟨by decide +kernel, rfl⟩
theorem D50_48 : rDec M50 48 (.aload_n 0) 1 49 := ⟨by decide +kernel, rfl⟩
theorem D50_49 : rDec M50 49 (.sipush 10240) 3 52 := ⟨by decide +kernel, rfl⟩
theorem D50_52 : rDec M50 52 (.newarray .int) 2 54 := ⟨by decide +kernel, rfl⟩
theorem D50_54 : rDec M50 54 (.putfield 30) 3 57 := ⟨by decide +kernel, rfl⟩
theorem D50_57 : rDec M50 57 (.aload_n 0) 1 58 := ⟨by decide +kernel, rfl⟩
theorem D50_58 : rDec M50 58 (.bipush 10) 2 60 := ⟨by decide +kernel, rfl⟩
theorem D50_60 : rDec M50 60 (.newarray .int) 2 62 := ⟨by decide +kernel, rfl⟩
theorem D50_62 : rDec M50 62 (.putfield 33) 3 65 := ⟨by decide +kernel, rfl⟩
theorem D50_65 : rDec M50 65 (.aload_n 0) 1 66 := ⟨by decide +kernel, rfl⟩
theorem D50_66 : rDec M50 66 (.bipush 10) 2 68 := ⟨by decide +kernel, rfl⟩
theorem D50_68 : rDec M50 68 (.newarray .int) 2 70 := ⟨by decide +kernel, rfl⟩
theorem D50_70 : rDec M50 70 (.putfield 36) 3 73 := ⟨by decide +kernel, rfl⟩
theorem D50_73 : rDec M50 73 (.aload_n 0) 1 74 := ⟨by decide +kernel, rfl⟩
theorem D50_74 : rDec M50 74 (.bipush 10) 2 76 := ⟨by decide +kernel, rfl⟩
theorem D50_76 : rDec M50 76 (.newarray .int) 2 78 := ⟨by decide +kernel, rfl⟩
theorem D50_78 : rDec M50 78 (.putfield 39) 3 81 := ⟨by decide +kernel, rfl⟩
theorem D50_81 : rDec M50 81 (.aload_n 0) 1 82 := ⟨by decide +kernel, rfl⟩
theorem D50_82 : rDec M50 82 (.bipush 10) 2 84 := ⟨by decide +kernel, rfl⟩
theorem D50_84 : rDec M50 84 (.newarray .int) 2 86 := ⟨by decide +kernel, rfl⟩
theorem D50_86 : rDec M50 86 (.putfield 42) 3 89 := ⟨by decide +kernel, rfl⟩
theorem D50_89 : rDec M50 89 (.return_) 1 90 := ⟨by decide +kernel, rfl⟩
theorem P50_0 : rSnd lab M50 0 B50_0 := by
  refine s_Ent ?_
  refine s_Al gk0 (Or.inr ⟨0, D50_0, rfl⟩) ?_
  refine s_Oi rfl wd103 wd62 wd63 D50_1 ?_
  refine s_Al gk0 (Or.inr ⟨0, D50_4, rfl⟩) ?_
  refine s_si D50_5 kc_s_10240 (by decide) ?_
  refine s_Nwa (t := 2) rfl (q_newa (at_ := .long) (Or.inr (Or.inl rfl))) (fun ht _ => ht _ wd146) D50_8 ?_
  refine s_Pf (ci := 1) (r := ("WordWright$Draft", kT1, 12)) rfl (show 1 < 12 from by decide) rfl (Or.inr ⟨rfl, wd107, rfl, rfl⟩) (Or.inl rfl) rfl (by decide) D50_10 ?_
  refine s_Al gk0 (Or.inr ⟨0, D50_13, rfl⟩) ?_
  refine s_si D50_14 kc_s_10240 (by decide) ?_
  refine s_Nwa (t := 1) rfl (q_newa (at_ := .boolean) (Or.inr (Or.inr rfl))) (fun ht _ => ht _ wd147) D50_17 ?_
  refine s_Pf (ci := 1) (r := ("WordWright$Draft", kT1, 12)) rfl (show 2 < 12 from by decide) rfl (Or.inr ⟨rfl, wd109, rfl, rfl⟩) (Or.inl rfl) rfl (by decide) D50_19 ?_
  refine s_Al gk0 (Or.inr ⟨0, D50_22, rfl⟩) ?_
  refine s_ld rfl wd104 D50_23 kc_I_40960 (by decide) ?_
  refine s_Nwa (t := 0) rfl (q_newa (at_ := .int) (Or.inl rfl)) (fun ht _ => ht _ wd91) D50_25 ?_
  refine s_Pf (ci := 1) (r := ("WordWright$Draft", kT1, 12)) rfl (show 3 < 12 from by decide) rfl (Or.inr ⟨rfl, wd111, rfl, rfl⟩) (Or.inl rfl) rfl (by decide) D50_27 ?_
  refine s_Al gk0 (Or.inr ⟨0, D50_30, rfl⟩) ?_
  refine s_si D50_31 kc_s_16384 (by decide) ?_
  refine s_Nwa (t := 0) rfl (q_newa (at_ := .int) (Or.inl rfl)) (fun ht _ => ht _ wd91) D50_34 ?_
  refine s_Pf (ci := 1) (r := ("WordWright$Draft", kT1, 12)) rfl (show 4 < 12 from by decide) rfl (Or.inr ⟨rfl, wd113, rfl, rfl⟩) (Or.inl rfl) rfl (by decide) D50_36 ?_
  refine s_Al gk0 (Or.inr ⟨0, D50_39, rfl⟩) ?_
  refine s_si D50_40 kc_s_10240 (by decide) ?_
  refine s_Nwa (t := 0) rfl (q_newa (at_ := .int) (Or.inl rfl)) (fun ht _ => ht _ wd91) D50_43 ?_
  refine s_Pf (ci := 1) (r := ("WordWright$Draft", kT1, 12)) rfl (show 6 < 12 from by decide) rfl (Or.inl ⟨rfl, Or.inl wd115⟩) (Or.inl rfl) rfl (by decide) D50_45 ?_
  refine s_Al gk0 (Or.inr ⟨0, D50_48, rfl⟩) ?_
  refine s_si D50_49 kc_s_10240 (by decide) ?_
  refine s_Nwa (t := 0) rfl (q_newa (at_ := .int) (Or.inl rfl)) (fun ht _ => ht _ wd91) D50_52 ?_
  refine s_Pf (ci := 1) (r := ("WordWright$Draft", kT1, 12)) rfl (show 7 < 12 from by decide) rfl (Or.inl ⟨rfl, Or.inl wd116⟩) (Or.inl rfl) rfl (by decide) D50_54 ?_
  refine s_Al gk0 (Or.inr ⟨0, D50_57, rfl⟩) ?_
  refine s_bi D50_58 kc_b_10 (by decide) ?_
  refine s_Nwa (t := 0) rfl (q_newa (at_ := .int) (Or.inl rfl)) (fun ht _ => ht _ wd91) D50_60 ?_
  refine s_Pf (ci := 1) (r := ("WordWright$Draft", kT1, 12)) rfl (show 8 < 12 from by decide) rfl (Or.inr ⟨rfl, wd117, rfl, rfl⟩) (Or.inl rfl) rfl (by decide) D50_62 ?_
  refine s_Al gk0 (Or.inr ⟨0, D50_65, rfl⟩) ?_
  refine s_bi D50_66 kc_b_10 (by decide) ?_
  refine s_Nwa (t := 0) rfl (q_newa (at_ := .int) (Or.inl rfl)) (fun ht _ => ht _ wd91) D50_68 ?_
  refine s_Pf (ci := 1) (r := ("WordWright$Draft", kT1, 12)) rfl (show 9 < 12 from by decide) rfl (Or.inr ⟨rfl, wd118, rfl, rfl⟩) (Or.inl rfl) rfl (by decide) D50_70 ?_
  refine s_Al gk0 (Or.inr ⟨0, D50_73, rfl⟩) ?_
  refine s_bi D50_74 kc_b_10 (by decide) ?_
  refine s_Nwa (t := 0) rfl (q_newa (at_ := .int) (Or.inl rfl)) (fun ht _ => ht _ wd91) D50_76 ?_
  refine s_Pf (ci := 1) (r := ("WordWright$Draft", kT1, 12)) rfl (show 10 < 12 from by decide) rfl (Or.inr ⟨rfl, wd119, rfl, rfl⟩) (Or.inl rfl) rfl (by decide) D50_78 ?_
  refine s_Al gk0 (Or.inr ⟨0, D50_81, rfl⟩) ?_
  refine s_bi D50_82 kc_b_10 (by decide) ?_
  refine s_Nwa (t := 0) rfl (q_newa (at_ := .int) (Or.inl rfl)) (fun ht _ => ht _ wd91) D50_84 ?_
  refine s_Pf (ci := 1) (r := ("WordWright$Draft", kT1, 12)) rfl (show 11 < 12 from by decide) rfl (Or.inr ⟨rfl, wd120, rfl, rfl⟩) (Or.inl rfl) rfl (by decide) D50_86 ?_
  exact s_Rv rfl D50_89.1
theorem D51_0 : rDec M51 0 (.aload_n 0) 1 1 := ⟨by decide +kernel, rfl⟩
theorem D51_1 : rDec M51 1 (.getfield 42) 3 4 := ⟨by decide +kernel, rfl⟩
theorem D51_4 : rDec M51 4 (.iconst (-1)) 1 5 := ⟨by decide +kernel, rfl⟩
theorem D51_5 : rDec M51 5 (.invokestatic 53) 3 8 := ⟨by decide +kernel, rfl⟩
theorem D51_8 : rDec M51 8 (.aload_n 0) 1 9 := ⟨by decide +kernel, rfl⟩
theorem D51_9 : rDec M51 9 (.getfield 39) 3 12 := ⟨by decide +kernel, rfl⟩
theorem D51_12 : rDec M51 12 (.iconst 0) 1 13 := ⟨by decide +kernel, rfl⟩
theorem D51_13 : rDec M51 13 (.aload_n 0) 1 14 := ⟨by decide +kernel, rfl⟩
theorem D51_14 : rDec M51 14 (.getfield 27) 3 17 := ⟨by decide +kernel, rfl⟩
theorem D51_17 : rDec M51 17 (.iconst 0) 1 18 := ⟨by decide +kernel, rfl⟩
theorem D51_18 : rDec M51 18 (.iaload) 1 19 := ⟨by decide +kernel, rfl⟩
theorem D51_19 : rDec M51 19 (.iastore) 1 20 := ⟨by decide +kernel, rfl⟩
theorem D51_20 : rDec M51 20 (.aload_n 0) 1 21 := ⟨by decide +kernel, rfl⟩
theorem D51_21 : rDec M51 21 (.getfield 42) 3 24 := ⟨by decide +kernel, rfl⟩
theorem D51_24 : rDec M51 24 (.aload_n 0) 1 25 := ⟨by decide +kernel, rfl⟩
theorem D51_25 : rDec M51 25 (.getfield 27) 3 28 := ⟨by decide +kernel, rfl⟩
theorem D51_28 : rDec M51 28 (.iconst 0) 1 29 := ⟨by decide +kernel, rfl⟩
theorem D51_29 : rDec M51 29 (.iaload) 1 30 := ⟨by decide +kernel, rfl⟩
theorem D51_30 : rDec M51 30 (.iconst 0) 1 31 := ⟨by decide +kernel, rfl⟩
theorem D51_31 : rDec M51 31 (.iastore) 1 32 := ⟨by decide +kernel, rfl⟩
theorem D51_32 : rDec M51 32 (.iconst 1) 1 33 := ⟨by decide +kernel, rfl⟩
theorem D51_33 : rDec M51 33 (.istore_n 2) 1 34 := ⟨by decide +kernel, rfl⟩
theorem D51_34 : rDec M51 34 (.iconst 0) 1 35 := ⟨by decide +kernel, rfl⟩
theorem D51_35 : rDec M51 35 (.istore_n 3) 1 36 := ⟨by decide +kernel, rfl⟩
theorem D51_36 : rDec M51 36 (.iconst 0) 1 37 := ⟨by decide +kernel, rfl⟩
theorem D51_37 : rDec M51 37 (.istore 4) 2 39 := ⟨by decide +kernel, rfl⟩
theorem D51_39 : rDec M51 39 (.iload 4) 2 41 := ⟨by decide +kernel, rfl⟩
theorem D51_41 : rDec M51 41 (.iload_n 2) 1 42 := ⟨by decide +kernel, rfl⟩
theorem D51_42 : rDec M51 42 (.if_icmp .ge 130) 3 45 := ⟨by decide +kernel, rfl⟩
theorem D51_45 : rDec M51 45 (.iload 4) 2 47 := ⟨by decide +kernel, rfl⟩
theorem D51_47 : rDec M51 47 (.bipush 10) 2 49 := ⟨by decide +kernel, rfl⟩
theorem D51_49 : rDec M51 49 (.if_icmp .ge 123) 3 52 := ⟨by decide +kernel, rfl⟩
theorem D51_52 : rDec M51 52 (.aload_n 0) 1 53 := ⟨by decide +kernel, rfl⟩
theorem D51_53 : rDec M51 53 (.getfield 36) 3 56 := ⟨by decide +kernel, rfl⟩
theorem D51_56 : rDec M51 56 (.aload_n 0) 1 57 := ⟨by decide +kernel, rfl⟩
theorem D51_57 : rDec M51 57 (.getfield 39) 3 60 := ⟨by decide +kernel, rfl⟩
theorem D51_60 : rDec M51 60 (.iload 4) 2 62 := ⟨by decide +kernel, rfl⟩
theorem D51_62 : rDec M51 62 (.iaload) 1 63 := ⟨by decide +kernel, rfl⟩
theorem D51_63 : rDec M51 63 (.iaload) 1 64 := ⟨by decide +kernel, rfl⟩
theorem D51_64 : rDec M51 64 (.istore 5) 2 66 := ⟨by decide +kernel, rfl⟩
theorem D51_66 : rDec M51 66 (.aload_n 0) 1 67 := ⟨by decide +kernel, rfl⟩
theorem D51_67 : rDec M51 67 (.getfield 15) 3 70 := ⟨by decide +kernel, rfl⟩
theorem D51_70 : rDec M51 70 (.iload 5) 2 72 := ⟨by decide +kernel, rfl⟩
theorem D51_72 : rDec M51 72 (.baload) 1 73 := ⟨by decide +kernel, rfl⟩
theorem D51_73 : rDec M51 73 (.ifCond .eq 10) 3 76 := ⟨by decide +kernel, rfl⟩
theorem D51_76 : rDec M51 76 (.iload_n 3) 1 77 := ⟨by decide +kernel, rfl⟩
theorem D51_77 : rDec M51 77 (.iconst 1) 1 78 := ⟨by decide +kernel, rfl⟩
theorem D51_78 : rDec M51 78 (.iload 4) 2 80 := ⟨by decide +kernel, rfl⟩
theorem D51_80 : rDec M51 80 (.ishl) 1 81 := ⟨by decide +kernel, rfl⟩
theorem D51_81 : rDec M51 81 (.ior) 1 82 := ⟨by decide +kernel, rfl⟩
theorem D51_82 : rDec M51 82 (.istore_n 3) 1 83 := ⟨by decide +kernel, rfl⟩
theorem D51_83 : rDec M51 83 (.iconst 0) 1 84 := ⟨by decide +kernel, rfl⟩
theorem D51_84 : rDec M51 84 (.istore 6) 2 86 := ⟨by decide +kernel, rfl⟩
theorem D51_86 : rDec M51 86 (.iload 6) 2 88 := ⟨by decide +kernel, rfl⟩
theorem D51_88 : rDec M51 88 (.iconst 4) 1 89 := ⟨by decide +kernel, rfl⟩
theorem D51_89 : rDec M51 89 (.if_icmp .ge 77) 3 92 := ⟨by decide +kernel, rfl⟩
theorem D51_92 : rDec M51 92 (.aload_n 0) 1 93 := ⟨by decide +kernel, rfl⟩
theorem D51_93 : rDec M51 93 (.getfield 27) 3 96 := ⟨by decide +kernel, rfl⟩
theorem D51_96 : rDec M51 96 (.aload_n 0) 1 97 := ⟨by decide +kernel, rfl⟩
theorem D51_97 : rDec M51 97 (.getfield 20) 3 100 := ⟨by decide +kernel, rfl⟩
theorem D51_100 : rDec M51 100 (.iload 5) 2 102 := ⟨by decide +kernel, rfl⟩
theorem D51_102 : rDec M51 102 (.iconst 4) 1 103 := ⟨by decide +kernel, rfl⟩
theorem D51_103 : rDec M51 103 (.imul) 1 104 := ⟨by decide +kernel, rfl⟩
theorem D51_104 : rDec M51 104 (.iload 6) 2 106 := ⟨by decide +kernel, rfl⟩
theorem D51_106 : rDec M51 106 (.iadd) 1 107 := ⟨by decide +kernel, rfl⟩
theorem D51_107 : rDec M51 107 (.iaload) 1 108 := ⟨by decide +kernel, rfl⟩
theorem D51_108 : rDec M51 108 (.iaload) 1 109 := ⟨by decide +kernel, rfl⟩
theorem D51_109 : rDec M51 109 (.istore 7) 2 111 := ⟨by decide +kernel, rfl⟩
theorem D51_111 : rDec M51 111 (.aload_n 0) 1 112 := ⟨by decide +kernel, rfl⟩
theorem D51_112 : rDec M51 112 (.getfield 42) 3 115 := ⟨by decide +kernel, rfl⟩
theorem D51_115 : rDec M51 115 (.iload 7) 2 117 := ⟨by decide +kernel, rfl⟩
theorem D51_117 : rDec M51 117 (.iaload) 1 118 := ⟨by decide +kernel, rfl⟩
theorem D51_118 : rDec M51 118 (.iconst (-1)) 1 119 := ⟨by decide +kernel, rfl⟩
theorem D51_119 : rDec M51 119 (.if_icmp .ne 22) 3 122 := ⟨by decide +kernel, rfl⟩
theorem D51_122 : rDec M51 122 (.aload_n 0) 1 123 := ⟨by decide +kernel, rfl⟩
theorem D51_123 : rDec M51 123 (.getfield 42) 3 126 := ⟨by decide +kernel, rfl⟩
theorem D51_126 : rDec M51 126 (.iload 7) 2 128 := ⟨by decide +kernel, rfl⟩
theorem D51_128 : rDec M51 128 (.iload_n 2) 1 129 := ⟨by decide +kernel, rfl⟩
theorem D51_129 : rDec M51 129 (.iastore) 1 130 := ⟨by decide +kernel, rfl⟩
theorem D51_130 : rDec M51 130 (.aload_n 0) 1 131 := ⟨by decide +kernel, rfl⟩
theorem D51_131 : rDec M51 131 (.getfield 39) 3 134 := ⟨by decide +kernel, rfl⟩
theorem D51_134 : rDec M51 134 (.iload_n 2) 1 135 := ⟨by decide +kernel, rfl⟩
theorem D51_135 : rDec M51 135 (.iload 7) 2 137 := ⟨by decide +kernel, rfl⟩
theorem D51_137 : rDec M51 137 (.iastore) 1 138 := ⟨by decide +kernel, rfl⟩
theorem D51_138 : rDec M51 138 (.iinc 2 1) 3 141 := ⟨by decide +kernel, rfl⟩
theorem D51_141 : rDec M51 141 (.aload_n 1) 1 142 := ⟨by decide +kernel, rfl⟩
theorem D51_142 : rDec M51 142 (.getfield 77) 3 145 := ⟨by decide +kernel, rfl⟩
theorem D51_145 : rDec M51 145 (.iload 4) 2 147 := ⟨by decide +kernel, rfl⟩
theorem D51_147 : rDec M51 147 (.iconst 4) 1 148 := ⟨by decide +kernel, rfl⟩
theorem D51_148 : rDec M51 148 (.imul) 1 149 := ⟨by decide +kernel, rfl⟩
theorem D51_149 : rDec M51 149 (.iload 6) 2 151 := ⟨by decide +kernel, rfl⟩
theorem D51_151 : rDec M51 151 (.iadd) 1 152 := ⟨by decide +kernel, rfl⟩
theorem D51_152 : rDec M51 152 (.aload_n 0) 1 153 := ⟨by decide +kernel, rfl⟩
theorem D51_153 : rDec M51 153 (.getfield 42) 3 156 := ⟨by decide +kernel, rfl⟩
theorem D51_156 : rDec M51 156 (.iload 7) 2 158 := ⟨by decide +kernel, rfl⟩
theorem D51_158 : rDec M51 158 (.iaload) 1 159 := ⟨by decide +kernel, rfl⟩
theorem D51_159 : rDec M51 159 (.iastore) 1 160 := ⟨by decide +kernel, rfl⟩
theorem D51_160 : rDec M51 160 (.iinc 6 1) 3 163 := ⟨by decide +kernel, rfl⟩
theorem D51_163 : rDec M51 163 (.goto (-77)) 3 166 := ⟨by decide +kernel, rfl⟩
theorem D51_166 : rDec M51 166 (.iinc 4 1) 3 169 := ⟨by decide +kernel, rfl⟩
theorem D51_169 : rDec M51 169 (.goto (-130)) 3 172 := ⟨by decide +kernel, rfl⟩
theorem D51_172 : rDec M51 172 (.aload_n 1) 1 173 := ⟨by decide +kernel, rfl⟩
theorem D51_173 : rDec M51 173 (.iload_n 2) 1 174 := ⟨by decide +kernel, rfl⟩
theorem D51_174 : rDec M51 174 (.putfield 80) 3 177 := ⟨by decide +kernel, rfl⟩
theorem D51_177 : rDec M51 177 (.aload_n 1) 1 178 := ⟨by decide +kernel, rfl⟩
theorem D51_178 : rDec M51 178 (.iload_n 3) 1 179 := ⟨by decide +kernel, rfl⟩
theorem D51_179 : rDec M51 179 (.putfield 83) 3 182 := ⟨by decide +kernel, rfl⟩
theorem D51_182 : rDec M51 182 (.return_) 1 183 := ⟨by decide +kernel, rfl⟩
theorem P51_172 : rSnd lab M51 172 B51_172 := by
  refine s_Al gk1 (Or.inr ⟨1, D51_172, rfl⟩) ?_
  refine s_Il gk2 (Or.inr ⟨2, D51_173, rfl⟩) ?_
  refine s_Pf (ci := 3) (r := ("WordWright$Language", kT3, 3)) rfl (show 0 < 3 from by decide) rfl (Or.inl ⟨rfl, Or.inl wd76⟩) (Or.inl rfl) rfl (by decide) D51_174 ?_
  refine s_Al gk1 (Or.inr ⟨1, D51_177, rfl⟩) ?_
  refine s_Il gk3 (Or.inr ⟨3, D51_178, rfl⟩) ?_
  refine s_Pf (ci := 3) (r := ("WordWright$Language", kT3, 3)) rfl (show 1 < 3 from by decide) rfl (Or.inl ⟨rfl, Or.inl wd79⟩) (Or.inl rfl) rfl (by decide) D51_179 ?_
  exact s_Rv rfl D51_182.1
theorem P51_166 : rSnd lab M51 166 B51_166 := by
  refine s_Inc gk4 sk4 (show 4 < 8 from by decide) kc_i_1 D51_166 ?_
  exact s_Go (pc' := 39) D51_169.1 (by decide) (s_Jb rfl)
theorem P51_141 : rSnd lab M51 141 B51_141 := by
  refine s_Al gk1 (Or.inr ⟨1, D51_141, rfl⟩) ?_
  refine s_Gf (ci := 3) (r := ("WordWright$Language", kT3, 3)) rfl (show 2 < 3 from by decide) rfl (Or.inl wd82) (Or.inl rfl) rfl D51_142 ?_
  refine s_Il gk4 (Or.inl D51_145) ?_
  refine s_ic D51_147 kc_i_4 (by decide) ?_
  refine s_Bin q_imul n_mul rG2_x rE2_x D51_148 ?_
  refine s_Il gk6 (Or.inl D51_149) ?_
  refine s_Bin q_iadd n_add rG2_x e_add D51_151 ?_
  refine s_Al gk0 (Or.inr ⟨0, D51_152, rfl⟩) ?_
  refine s_Gf (ci := 1) (r := ("WordWright$Draft", kT1, 12)) rfl (show 11 < 12 from by decide) rfl (Or.inl wd120) (Or.inl rfl) rfl D51_153 ?_
  refine s_Il gk7 (Or.inl D51_156) ?_
  refine s_Ial D51_158 ?_
  refine s_Ast (t := 0) rfl q_iast rfl (by decide) D51_159 ?_
  refine s_Inc gk6 sk6 (show 6 < 8 from by decide) kc_i_1 D51_160 ?_
  exact s_Go (pc' := 86) D51_163.1 (by decide) (s_Jb rfl)
theorem P51_86 : rSnd lab M51 86 B51_86 := by
  refine s_Il gk6 (Or.inl D51_86) ?_
  refine s_ic D51_88 kc_i_4 (by decide) ?_
  refine s_Ic c_ge (i_ge (tg := 166) (by decide)) D51_89.1 P51_166 (?_ : rSnd _ _ 92 _)
  refine s_Al gk0 (Or.inr ⟨0, D51_92, rfl⟩) ?_
  refine s_Gf (ci := 1) (r := ("WordWright$Draft", kT1, 12)) rfl (show 6 < 12 from by decide) rfl (Or.inl wd115) (Or.inl rfl) rfl D51_93 ?_
  refine s_Al gk0 (Or.inr ⟨0, D51_96, rfl⟩) ?_
  refine s_Gf (ci := 1) (r := ("WordWright$Draft", kT1, 12)) rfl (show 3 < 12 from by decide) rfl (Or.inl wd111) (Or.inl rfl) rfl D51_97 ?_
  refine s_Il gk5 (Or.inl D51_100) ?_
  refine s_ic D51_102 kc_i_4 (by decide) ?_
  refine s_Bin q_imul n_mul rG2_x rE2_x D51_103 ?_
  refine s_Il gk6 (Or.inl D51_104) ?_
  refine s_Bin q_iadd n_add rG2_x e_add D51_106 ?_
  refine s_Ial D51_107 ?_
  refine s_Ial D51_108 ?_
  refine s_Is sk7 (show 7 < 8 from by decide) (Or.inl D51_109) ?_
  refine s_Al gk0 (Or.inr ⟨0, D51_111, rfl⟩) ?_
  refine s_Gf (ci := 1) (r := ("WordWright$Draft", kT1, 12)) rfl (show 11 < 12 from by decide) rfl (Or.inl wd120) (Or.inl rfl) rfl D51_112 ?_
  refine s_Il gk7 (Or.inl D51_115) ?_
  refine s_Ial D51_117 ?_
  refine s_ic D51_118 kc_i_m1 (by decide) ?_
  refine s_Ic c_ne (i_ne (tg := 141) (by decide)) D51_119.1 P51_141 (?_ : rSnd _ _ 122 _)
  refine s_Al gk0 (Or.inr ⟨0, D51_122, rfl⟩) ?_
  refine s_Gf (ci := 1) (r := ("WordWright$Draft", kT1, 12)) rfl (show 11 < 12 from by decide) rfl (Or.inl wd120) (Or.inl rfl) rfl D51_123 ?_
  refine s_Il gk7 (Or.inl D51_126) ?_
  refine s_Il gk2 (Or.inr ⟨2, D51_128, rfl⟩) ?_
  refine s_Ast (t := 0) rfl q_iast rfl (by decide) D51_129 ?_
  refine s_Al gk0 (Or.inr ⟨0, D51_130, rfl⟩) ?_
  refine s_Gf (ci := 1) (r := ("WordWright$Draft", kT1, 12)) rfl (show 10 < 12 from by decide) rfl (Or.inl wd119) (Or.inl rfl) rfl D51_131 ?_
  refine s_Il gk2 (Or.inr ⟨2, D51_134, rfl⟩) ?_
  refine s_Il gk7 (Or.inl D51_135) ?_
  refine s_Ast (t := 0) rfl q_iast rfl (by decide) D51_137 ?_
  refine s_Inc gk2 sk2 (show 2 < 8 from by decide) kc_i_1 D51_138 ?_
  exact P51_141
theorem P51_83 : rSnd lab M51 83 B51_83 := by
  refine s_ic D51_83 kc_i_0 (by decide) ?_
  refine s_Is sk6 (show 6 < 8 from by decide) (Or.inl D51_84) ?_
  exact P51_86
theorem P51_39 : rSnd lab M51 39 B51_39 := by
  refine s_Il gk4 (Or.inl D51_39) ?_
  refine s_Il gk2 (Or.inr ⟨2, D51_41, rfl⟩) ?_
  refine s_Ic c_ge (i_ge (tg := 172) (by decide)) D51_42.1 P51_172 (?_ : rSnd _ _ 45 _)
  refine s_Il gk4 (Or.inl D51_45) ?_
  refine s_bi D51_47 kc_b_10 (by decide) ?_
  refine s_Ic c_ge (i_ge (tg := 172) (by decide)) D51_49.1 P51_172 (?_ : rSnd _ _ 52 _)
  refine s_Al gk0 (Or.inr ⟨0, D51_52, rfl⟩) ?_
  refine s_Gf (ci := 1) (r := ("WordWright$Draft", kT1, 12)) rfl (show 9 < 12 from by decide) rfl (Or.inl wd118) (Or.inl rfl) rfl D51_53 ?_
  refine s_Al gk0 (Or.inr ⟨0, D51_56, rfl⟩) ?_
  refine s_Gf (ci := 1) (r := ("WordWright$Draft", kT1, 12)) rfl (show 10 < 12 from by decide) rfl (Or.inl wd119) (Or.inl rfl) rfl D51_57 ?_
  refine s_Il gk4 (Or.inl D51_60) ?_
  refine s_Ial D51_62 ?_
  refine s_Ial D51_63 ?_
  refine s_Is sk5 (show 5 < 8 from by decide) (Or.inl D51_64) ?_
  refine s_Al gk0 (Or.inr ⟨0, D51_66, rfl⟩) ?_
  refine s_Gf (ci := 1) (r := ("WordWright$Draft", kT1, 12)) rfl (show 2 < 12 from by decide) rfl (Or.inl wd109) (Or.inl rfl) rfl D51_67 ?_
  refine s_Il gk5 (Or.inl D51_70) ?_
  refine s_Ald (t := 1) (ty := .boolean) rfl q_zald rfl D51_72 ?_
  refine s_If c_eq (fun _ => rfl) (fun _ _ => rfl) (b_eq (tg := 83) (by decide)) D51_73.1 P51_83 (?_ : rSnd _ _ 76 _)
  refine s_Il gk3 (Or.inr ⟨3, D51_76, rfl⟩) ?_
  refine s_ic D51_77 kc_i_1 (by decide) ?_
  refine s_Il gk4 (Or.inl D51_78) ?_
  refine s_Bin q_ishl n_shl rG2_x rE2_x D51_80 ?_
  refine s_Bin q_ior n_or rG2_x rE2_x D51_81 ?_
  refine s_Is sk3 (show 3 < 8 from by decide) (Or.inr ⟨3, D51_82, rfl⟩) ?_
  exact P51_83
theorem P51_0 : rSnd lab M51 0 B51_0 := by
  refine s_Ent ?_
  refine s_Al gk0 (Or.inr ⟨0, D51_0, rfl⟩) ?_
  refine s_Gf (ci := 1) (r := ("WordWright$Draft", kT1, 12)) rfl (show 11 < 12 from by decide) rfl (Or.inl wd120) (Or.inl rfl) rfl D51_1 ?_
  refine s_ic D51_4 kc_i_m1 (by decide) ?_
  refine s_Cs (id := 3) rfl (l_S rfl ok3 rfl wd640 wd257 D51_5.1) (?_ : rSnd _ _ 8 _)
  refine s_Al gk0 (Or.inr ⟨0, D51_8, rfl⟩) ?_
  refine s_Gf (ci := 1) (r := ("WordWright$Draft", kT1, 12)) rfl (show 10 < 12 from by decide) rfl (Or.inl wd119) (Or.inl rfl) rfl D51_9 ?_
  refine s_ic D51_12 kc_i_0 (by decide) ?_
  refine s_Al gk0 (Or.inr ⟨0, D51_13, rfl⟩) ?_
  refine s_Gf (ci := 1) (r := ("WordWright$Draft", kT1, 12)) rfl (show 6 < 12 from by decide) rfl (Or.inl wd115) (Or.inl rfl) rfl D51_14 ?_
  refine s_ic D51_17 kc_i_0 (by decide) ?_
  refine s_Ial D51_18 ?_
  refine s_Ast (t := 0) rfl q_iast rfl (by decide) D51_19 ?_
  refine s_Al gk0 (Or.inr ⟨0, D51_20, rfl⟩) ?_
  refine s_Gf (ci := 1) (r := ("WordWright$Draft", kT1, 12)) rfl (show 11 < 12 from by decide) rfl (Or.inl wd120) (Or.inl rfl) rfl D51_21 ?_
  refine s_Al gk0 (Or.inr ⟨0, D51_24, rfl⟩) ?_
  refine s_Gf (ci := 1) (r := ("WordWright$Draft", kT1, 12)) rfl (show 6 < 12 from by decide) rfl (Or.inl wd115) (Or.inl rfl) rfl D51_25 ?_
  refine s_ic D51_28 kc_i_0 (by decide) ?_
  refine s_Ial D51_29 ?_
  refine s_ic D51_30 kc_i_0 (by decide) ?_
  refine s_Ast (t := 0) rfl q_iast rfl (by decide) D51_31 ?_
  refine s_ic D51_32 kc_i_1 (by decide) ?_
  refine s_Is sk2 (show 2 < 8 from by decide) (Or.inr ⟨2, D51_33, rfl⟩) ?_
  refine s_ic D51_34 kc_i_0 (by decide) ?_
  refine s_Is sk3 (show 3 < 8 from by decide) (Or.inr ⟨3, D51_35, rfl⟩) ?_
  refine s_ic D51_36 kc_i_0 (by decide) ?_
  refine s_Is sk4 (show 4 < 8 from by decide) (Or.inl D51_37) ?_
  exact P51_39
theorem D52_0 : rDec M52 0 (.iconst 0) 1 1 := ⟨by decide +kernel, rfl⟩
theorem D52_1 : rDec M52 1 (.istore_n 2) 1 2 := ⟨by decide +kernel, rfl⟩
theorem D52_2 : rDec M52 2 (.iload_n 2) 1 3 := ⟨by decide +kernel, rfl⟩
theorem D52_3 : rDec M52 3 (.aload_n 0) 1 4 := ⟨by decide +kernel, rfl⟩
theorem D52_4 : rDec M52 4 (.getfield 49) 3 7 := ⟨by decide +kernel, rfl⟩
theorem D52_7 : rDec M52 7 (.if_icmp .ge 29) 3 10 := ⟨by decide +kernel, rfl⟩
theorem D52_10 : rDec M52 10 (.aload_n 0) 1 11 := ⟨by decide +kernel, rfl⟩
theorem D52_11 : rDec M52 11 (.getfield 27) 3 14 := ⟨by decide +kernel, rfl⟩
theorem D52_14 : rDec M52 14 (.iload_n 2) 1 15 := ⟨by decide +kernel, rfl⟩
theorem D52_15 : rDec M52 15 (.aload_n 0) 1 16 := ⟨by decide +kernel, rfl⟩
theorem D52_16 : rDec M52 16 (.getfield 15) 3 19 := ⟨by decide +kernel, rfl⟩
theorem D52_19 : rDec M52 19 (.iload_n 2) 1 20 := ⟨by decide +kernel, rfl⟩
theorem D52_20 : rDec M52 20 (.baload) 1 21 := ⟨by decide +kernel, rfl⟩
theorem D52_21 : rDec M52 21 (.ifCond .eq 7) 3 24 := ⟨by decide +kernel, rfl⟩
theorem D52_24 : rDec M52 24 (.iconst 1) 1 25 := ⟨by decide +kernel, rfl⟩
theorem D52_25 : rDec M52 25 (.goto 4) 3 28 := ⟨by decide +kernel, rfl⟩
theorem D52_28 : rDec M52 28 (.iconst 0) 1 29 := ⟨by decide +kernel, rfl⟩
theorem D52_29 : rDec M52 29 (.iastore) 1 30 := ⟨by decide +kernel, rfl⟩
theorem D52_30 : rDec M52 30 (.iinc 2 1) 3 33 := ⟨by decide +kernel, rfl⟩
theorem D52_33 : rDec M52 33 (.goto (-31)) 3 36 := ⟨by decide +kernel, rfl⟩
theorem D52_36 : rDec M52 36 (.iconst 0) 1 37 := ⟨by decide +kernel, rfl⟩
theorem D52_37 : rDec M52 37 (.istore_n 2) 1 38 := ⟨by decide +kernel, rfl⟩
theorem D52_38 : rDec M52 38 (.iconst 0) 1 39 := ⟨by decide +kernel, rfl⟩
theorem D52_39 : rDec M52 39 (.istore_n 3) 1 40 := ⟨by decide +kernel, rfl⟩
theorem D52_40 : rDec M52 40 (.iload_n 3) 1 41 := ⟨by decide +kernel, rfl⟩
theorem D52_41 : rDec M52 41 (.bipush 10) 2 43 := ⟨by decide +kernel, rfl⟩
theorem D52_43 : rDec M52 43 (.if_icmp .gt 40) 3 46 := ⟨by decide +kernel, rfl⟩
theorem D52_46 : rDec M52 46 (.aload_n 0) 1 47 := ⟨by decide +kernel, rfl⟩
theorem D52_47 : rDec M52 47 (.invokevirtual 65) 3 50 := ⟨by decide +kernel, rfl⟩
theorem D52_50 : rDec M52 50 (.istore 4) 2 52 := ⟨by decide +kernel, rfl⟩
theorem D52_52 : rDec M52 52 (.iload 4) 2 54 := ⟨by decide +kernel, rfl⟩
theorem D52_54 : rDec M52 54 (.bipush 10) 2 56 := ⟨by decide +kernel, rfl⟩
theorem D52_56 : rDec M52 56 (.if_icmp .le 5) 3 59 := ⟨by decide +kernel, rfl⟩
theorem D52_61 : rDec M52 61 (.iload 4) 2 63 := ⟨by decide +kernel, rfl⟩
theorem D52_63 : rDec M52 63 (.iload_n 2) 1 64 := ⟨by decide +kernel, rfl⟩
theorem D52_64 : rDec M52 64 (.if_icmp .ne 10) 3 67 := ⟨by decide +kernel, rfl⟩
theorem D52_67 : rDec M52 67 (.aload_n 0) 1 68 := ⟨by decide +kernel, rfl⟩
theorem D52_68 : rDec M52 68 (.aload_n 1) 1 69 := ⟨by decide +kernel, rfl⟩
theorem D52_69 : rDec M52 69 (.invokevirtual 69) 3 72 := ⟨by decide +kernel, rfl⟩
theorem D52_72 : rDec M52 72 (.iconst 1) 1 73 := ⟨by decide +kernel, rfl⟩
theorem D52_73 : rDec M52 73 (.ireturn) 1 74 := ⟨by decide +kernel, rfl⟩
theorem D52_74 : rDec M52 74 (.iload 4) 2 76 := ⟨by decide +kernel, rfl⟩
theorem D52_76 : rDec M52 76 (.istore_n 2) 1 77 := ⟨by decide +kernel, rfl⟩
theorem D52_77 : rDec M52 77 (.iinc 3 1) 3 80 := ⟨by decide +kernel, rfl⟩
theorem D52_80 : rDec M52 80 (.goto (-40)) 3 83 := ⟨by decide +kernel, rfl⟩
theorem P52_74 : rSnd lab M52 74 B52_74 := by
  refine s_Il gk4 (Or.inl D52_74) ?_
  refine s_Is sk2 (show 2 < 5 from by decide) (Or.inr ⟨2, D52_76, rfl⟩) ?_
  refine s_Inc gk3 sk3 (show 3 < 5 from by decide) kc_i_1 D52_77 ?_
  exact s_Go (pc' := 40) D52_80.1 (by decide) (s_Jb rfl)
theorem P52_61 : rSnd lab M52 61 B52_61 := by
  refine s_Il gk4 (Or.inl D52_61) ?_
  refine s_Il gk2 (Or.inr ⟨2, D52_63, rfl⟩) ?_
  refine s_Ic c_ne (i_ne (tg := 74) (by decide)) D52_64.1 P52_74 (?_ : rSnd _ _ 67 _)
  refine s_Al gk0 (Or.inr ⟨0, D52_67, rfl⟩) ?_
  refine s_Al gk1 (Or.inr ⟨1, D52_68, rfl⟩) ?_
  refine s_Cv (ln := 3) (kd := 4) (C := "WordWright$Draft") (by decide) (by decide +kernel) rfl (l_V rfl ok51 rfl wd664 wd666 ws23 D52_69.1) (?_ : rSnd _ _ 72 _)
  refine s_ic D52_72 kc_i_1 (by decide) ?_
  exact s_Ri (Or.inr ⟨rfl, by decide⟩) D52_73.1
theorem P52_40 : rSnd lab M52 40 B52_40 := by
  refine s_Il gk3 (Or.inr ⟨3, D52_40, rfl⟩) ?_
  refine s_bi D52_41 kc_b_10 (by decide) ?_
  refine s_Ic c_gt (i_gt (tg := 83) (by decide)) D52_43.1 rSnd_none (?_ : rSnd _ _ 46 _)
  refine s_Al gk0 (Or.inr ⟨0, D52_46, rfl⟩) ?_
  refine s_Cv (ln := 3) (kd := 4) (C := "WordWright$Draft") (by decide) (by decide +kernel) rfl (l_V rfl ok54 rfl wd656 wd658 ws21 D52_47.1) (?_ : rSnd _ _ 50 _)
  refine s_Is sk4 (show 4 < 5 from by decide) (Or.inl D52_50) ?_
  refine s_Il gk4 (Or.inl D52_52) ?_
  refine s_bi D52_54 kc_b_10 (by decide) ?_
  refine s_Ic c_le (i_le (tg := 61) (by decide)) D52_56.1 P52_61 (?_ : rSnd _ _ 59 _)
  exact rSnd_none
theorem P52_36 : rSnd lab M52 36 B52_36 := by
  refine s_ic D52_36 kc_i_0 (by decide) ?_
  refine s_Is sk2 (show 2 < 5 from by decide) (Or.inr ⟨2, D52_37, rfl⟩) ?_
  refine s_ic D52_38 kc_i_0 (by decide) ?_
  refine s_Is sk3 (show 3 < 5 from by decide) (Or.inr ⟨3, D52_39, rfl⟩) ?_
  exact P52_40
theorem P52_29 : rSnd lab M52 29 B52_29 := by
  refine s_Ast (t := 0) rfl q_iast rfl (by decide) D52_29 ?_
  refine s_Inc gk2 sk2 (show 2 < 5 from by decide) kc_i_1 D52_30 ?_
  exact s_Go (pc' := 2) D52_33.1 (by decide) (s_Jb rfl)
theorem P52_28 : rSnd lab M52 28 B52_28 := by
  refine s_ic D52_28 kc_i_0 (by decide) ?_
  exact P52_29
theorem P52_2 : rSnd lab M52 2 B52_2 := by
  refine s_Il gk2 (Or.inr ⟨2, D52_2, rfl⟩) ?_
  refine s_Al gk0 (Or.inr ⟨0, D52_3, rfl⟩) ?_
  refine s_Gf (ci := 1) (r := ("WordWright$Draft", kT1, 12)) rfl (show 0 < 12 from by decide) rfl (Or.inl wd105) (Or.inl rfl) rfl D52_4 ?_
  refine s_Ic c_ge (i_ge (tg := 36) (by decide)) D52_7.1 P52_36 (?_ : rSnd _ _ 10 _)
  refine s_Al gk0 (Or.inr ⟨0, D52_10, rfl⟩) ?_
  refine s_Gf (ci := 1) (r := ("WordWright$Draft", kT1, 12)) rfl (show 6 < 12 from by decide) rfl (Or.inl wd115) (Or.inl rfl) rfl D52_11 ?_
  refine s_Il gk2 (Or.inr ⟨2, D52_14, rfl⟩) ?_
  refine s_Al gk0 (Or.inr ⟨0, D52_15, rfl⟩) ?_
  refine s_Gf (ci := 1) (r := ("WordWright$Draft", kT1, 12)) rfl (show 2 < 12 from by decide) rfl (Or.inl wd109) (Or.inl rfl) rfl D52_16 ?_
  refine s_Il gk2 (Or.inr ⟨2, D52_19, rfl⟩) ?_
  refine s_Ald (t := 1) (ty := .boolean) rfl q_zald rfl D52_20 ?_
  refine s_If c_eq (fun _ => rfl) (fun _ _ => rfl) (b_eq (tg := 28) (by decide)) D52_21.1 P52_28 (?_ : rSnd _ _ 24 _)
  refine s_ic D52_24 kc_i_1 (by decide) ?_
  exact s_Go (pc' := 29) D52_25.1 (by decide) P52_29
theorem P52_0 : rSnd lab M52 0 B52_0 := by
  refine s_Ent ?_
  refine s_ic D52_0 kc_i_0 (by decide) ?_
  refine s_Is sk2 (show 2 < 5 from by decide) (Or.inr ⟨2, D52_1, rfl⟩) ?_
  exact P52_2
theorem D53_0 : rDec M53 0 (.aload_n 0) 1 1 := ⟨by decide +kernel, rfl⟩
theorem D53_1 : rDec M53 1 (.getfield 27) 3 4 := ⟨by decide +kernel, rfl⟩
theorem D53_4 : rDec M53 4 (.iload_n 1) 1 5 := ⟨by decide +kernel, rfl⟩
theorem D53_5 : rDec M53 5 (.iaload) 1 6 := ⟨by decide +kernel, rfl⟩
theorem D53_6 : rDec M53 6 (.istore_n 2) 1 7 := ⟨by decide +kernel, rfl⟩
theorem D53_7 : rDec M53 7 (.iconst 0) 1 8 := ⟨by decide +kernel, rfl⟩
theorem D53_8 : rDec M53 8 (.istore_n 3) 1 9 := ⟨by decide +kernel, rfl⟩
theorem D53_9 : rDec M53 9 (.iload_n 3) 1 10 := ⟨by decide +kernel, rfl⟩
theorem D53_10 : rDec M53 10 (.iconst 4) 1 11 := ⟨by decide +kernel, rfl⟩
theorem D53_11 : rDec M53 11 (.if_icmp .ge 29) 3 14 := ⟨by decide +kernel, rfl⟩
theorem D53_14 : rDec M53 14 (.iload_n 2) 1 15 := ⟨by decide +kernel, rfl⟩
theorem D53_15 : rDec M53 15 (.iconst 4) 1 16 := ⟨by decide +kernel, rfl⟩
theorem D53_16 : rDec M53 16 (.ishl) 1 17 := ⟨by decide +kernel, rfl⟩
theorem D53_17 : rDec M53 17 (.aload_n 0) 1 18 := ⟨by decide +kernel, rfl⟩
theorem D53_18 : rDec M53 18 (.getfield 27) 3 21 := ⟨by decide +kernel, rfl⟩
theorem D53_21 : rDec M53 21 (.aload_n 0) 1 22 := ⟨by decide +kernel, rfl⟩
theorem D53_22 : rDec M53 22 (.getfield 20) 3 25 := ⟨by decide +kernel, rfl⟩
theorem D53_25 : rDec M53 25 (.iload_n 1) 1 26 := ⟨by decide +kernel, rfl⟩
theorem D53_26 : rDec M53 26 (.iconst 4) 1 27 := ⟨by decide +kernel, rfl⟩
theorem D53_27 : rDec M53 27 (.imul) 1 28 := ⟨by decide +kernel, rfl⟩
theorem D53_28 : rDec M53 28 (.iload_n 3) 1 29 := ⟨by decide +kernel, rfl⟩
theorem D53_29 : rDec M53 29 (.iadd) 1 30 := ⟨by decide +kernel, rfl⟩
theorem D53_30 : rDec M53 30 (.iaload) 1 31 := ⟨by decide +kernel, rfl⟩
theorem D53_31 : rDec M53 31 (.iaload) 1 32 := ⟨by decide +kernel, rfl⟩
theorem D53_32 : rDec M53 32 (.ior) 1 33 := ⟨by decide +kernel, rfl⟩
theorem D53_33 : rDec M53 33 (.istore_n 2) 1 34 := ⟨by decide +kernel, rfl⟩
theorem D53_34 : rDec M53 34 (.iinc 3 1) 3 37 := ⟨by decide +kernel, rfl⟩
theorem D53_37 : rDec M53 37 (.goto (-28)) 3 40 := ⟨by decide +kernel, rfl⟩
theorem D53_40 : rDec M53 40 (.iload_n 2) 1 41 := ⟨by decide +kernel, rfl⟩
theorem D53_41 : rDec M53 41 (.ireturn) 1 42 := ⟨by decide +kernel, rfl⟩
theorem P53_40 : rSnd lab M53 40 B53_40 := by
  refine s_Il gk2 (Or.inr ⟨2, D53_40, rfl⟩) ?_
  exact s_Ri (Or.inl rfl) D53_41.1
theorem P53_9 : rSnd lab M53 9 B53_9 := by
  refine s_Il gk3 (Or.inr ⟨3, D53_9, rfl⟩) ?_
  refine s_ic D53_10 kc_i_4 (by decide) ?_
  refine s_Ic c_ge (i_ge (tg := 40) (by decide)) D53_11.1 P53_40 (?_ : rSnd _ _ 14 _)
  refine s_Il gk2 (Or.inr ⟨2, D53_14, rfl⟩) ?_
  refine s_ic D53_15 kc_i_4 (by decide) ?_
  refine s_Bin q_ishl n_shl rG2_x rE2_x D53_16 ?_
  refine s_Al gk0 (Or.inr ⟨0, D53_17, rfl⟩) ?_
  refine s_Gf (ci := 1) (r := ("WordWright$Draft", kT1, 12)) rfl (show 6 < 12 from by decide) rfl (Or.inl wd115) (Or.inl rfl) rfl D53_18 ?_
  refine s_Al gk0 (Or.inr ⟨0, D53_21, rfl⟩) ?_
  refine s_Gf (ci := 1) (r := ("WordWright$Draft", kT1, 12)) rfl (show 3 < 12 from by decide) rfl (Or.inl wd111) (Or.inl rfl) rfl D53_22 ?_
  refine s_Il gk1 (Or.inr ⟨1, D53_25, rfl⟩) ?_
  refine s_ic D53_26 kc_i_4 (by decide) ?_
  refine s_Bin q_imul n_mul rG2_x rE2_x D53_27 ?_
  refine s_Il gk3 (Or.inr ⟨3, D53_28, rfl⟩) ?_
  refine s_Bin q_iadd n_add rG2_x e_add D53_29 ?_
  refine s_Ial D53_30 ?_
  refine s_Ial D53_31 ?_
  refine s_Bin q_ior n_or rG2_x rE2_x D53_32 ?_
  refine s_Is sk2 (show 2 < 4 from by decide) (Or.inr ⟨2, D53_33, rfl⟩) ?_
  refine s_Inc gk3 sk3 (show 3 < 4 from by decide) kc_i_1 D53_34 ?_
  exact s_Go (pc' := 9) D53_37.1 (by decide) (s_Jb rfl)
theorem P53_0 : rSnd lab M53 0 B53_0 := by
  refine s_Ent ?_
  refine s_Al gk0 (Or.inr ⟨0, D53_0, rfl⟩) ?_
  refine s_Gf (ci := 1) (r := ("WordWright$Draft", kT1, 12)) rfl (show 6 < 12 from by decide) rfl (Or.inl wd115) (Or.inl rfl) rfl D53_1 ?_
  refine s_Il gk1 (Or.inr ⟨1, D53_4, rfl⟩) ?_
  refine s_Ial D53_5 ?_
  refine s_Is sk2 (show 2 < 4 from by decide) (Or.inr ⟨2, D53_6, rfl⟩) ?_
  refine s_ic D53_7 kc_i_0 (by decide) ?_
  refine s_Is sk3 (show 3 < 4 from by decide) (Or.inr ⟨3, D53_8, rfl⟩) ?_
  exact P53_9
theorem D54_0 : rDec M54 0 (.iconst 0) 1 1 := ⟨by decide +kernel, rfl⟩
theorem D54_1 : rDec M54 1 (.istore_n 1) 1 2 := ⟨by decide +kernel, rfl⟩
theorem D54_2 : rDec M54 2 (.iconst 0) 1 3 := ⟨by decide +kernel, rfl⟩
theorem D54_3 : rDec M54 3 (.istore_n 2) 1 4 := ⟨by decide +kernel, rfl⟩
theorem D54_4 : rDec M54 4 (.iload_n 2) 1 5 := ⟨by decide +kernel, rfl⟩
theorem D54_5 : rDec M54 5 (.aload_n 0) 1 6 := ⟨by decide +kernel, rfl⟩
theorem D54_6 : rDec M54 6 (.getfield 49) 3 9 := ⟨by decide +kernel, rfl⟩
theorem D54_9 : rDec M54 9 (.if_icmp .ge 84) 3 12 := ⟨by decide +kernel, rfl⟩
theorem D54_12 : rDec M54 12 (.aload_n 0) 1 13 := ⟨by decide +kernel, rfl⟩
theorem D54_13 : rDec M54 13 (.iload_n 2) 1 14 := ⟨by decide +kernel, rfl⟩
theorem D54_14 : rDec M54 14 (.invokevirtual 73) 3 17 := ⟨by decide +kernel, rfl⟩
theorem D54_17 : rDec M54 17 (.istore_n 3) 1 18 := ⟨by decide +kernel, rfl⟩
theorem D54_18 : rDec M54 18 (.iconst 0) 1 19 := ⟨by decide +kernel, rfl⟩
theorem D54_19 : rDec M54 19 (.istore 4) 2 21 := ⟨by decide +kernel, rfl⟩
theorem D54_21 : rDec M54 21 (.iload 4) 2 23 := ⟨by decide +kernel, rfl⟩
theorem D54_23 : rDec M54 23 (.iload_n 1) 1 24 := ⟨by decide +kernel, rfl⟩
theorem D54_24 : rDec M54 24 (.if_icmp .ge 20) 3 27 := ⟨by decide +kernel, rfl⟩
theorem D54_27 : rDec M54 27 (.aload_n 0) 1 28 := ⟨by decide +kernel, rfl⟩
theorem D54_28 : rDec M54 28 (.getfield 33) 3 31 := ⟨by decide +kernel, rfl⟩
theorem D54_31 : rDec M54 31 (.iload 4) 2 33 := ⟨by decide +kernel, rfl⟩
theorem D54_33 : rDec M54 33 (.iaload) 1 34 := ⟨by decide +kernel, rfl⟩
theorem D54_34 : rDec M54 34 (.iload_n 3) 1 35 := ⟨by decide +kernel, rfl⟩
theorem D54_35 : rDec M54 35 (.if_icmp .eq 9) 3 38 := ⟨by decide +kernel, rfl⟩
theorem D54_38 : rDec M54 38 (.iinc 4 1) 3 41 := ⟨by decide +kernel, rfl⟩
theorem D54_41 : rDec M54 41 (.goto (-20)) 3 44 := ⟨by decide +kernel, rfl⟩
theorem D54_44 : rDec M54 44 (.iload 4) 2 46 := ⟨by decide +kernel, rfl⟩
theorem D54_46 : rDec M54 46 (.bipush 10) 2 48 := ⟨by decide +kernel, rfl⟩
theorem D54_48 : rDec M54 48 (.if_icmp .ne 6) 3 51 := ⟨by decide +kernel, rfl⟩
theorem D54_54 : rDec M54 54 (.iload 4) 2 56 := ⟨by decide +kernel, rfl⟩
theorem D54_56 : rDec M54 56 (.iload_n 1) 1 57 := ⟨by decide +kernel, rfl⟩
theorem D54_57 : rDec M54 57 (.if_icmp .ne 22) 3 60 := ⟨by decide +kernel, rfl⟩
theorem D54_60 : rDec M54 60 (.aload_n 0) 1 61 := ⟨by decide +kernel, rfl⟩
theorem D54_61 : rDec M54 61 (.getfield 33) 3 64 := ⟨by decide +kernel, rfl⟩
theorem D54_64 : rDec M54 64 (.iload 4) 2 66 := ⟨by decide +kernel, rfl⟩
theorem D54_66 : rDec M54 66 (.iload_n 3) 1 67 := ⟨by decide +kernel, rfl⟩
theorem D54_67 : rDec M54 67 (.iastore) 1 68 := ⟨by decide +kernel, rfl⟩
theorem D54_68 : rDec M54 68 (.aload_n 0) 1 69 := ⟨by decide +kernel, rfl⟩
theorem D54_69 : rDec M54 69 (.getfield 36) 3 72 := ⟨by decide +kernel, rfl⟩
theorem D54_72 : rDec M54 72 (.iload 4) 2 74 := ⟨by decide +kernel, rfl⟩
theorem D54_74 : rDec M54 74 (.iload_n 2) 1 75 := ⟨by decide +kernel, rfl⟩
theorem D54_75 : rDec M54 75 (.iastore) 1 76 := ⟨by decide +kernel, rfl⟩
theorem D54_76 : rDec M54 76 (.iinc 1 1) 3 79 := ⟨by decide +kernel, rfl⟩
theorem D54_79 : rDec M54 79 (.aload_n 0) 1 80 := ⟨by decide +kernel, rfl⟩
theorem D54_80 : rDec M54 80 (.getfield 30) 3 83 := ⟨by decide +kernel, rfl⟩
theorem D54_83 : rDec M54 83 (.iload_n 2) 1 84 := ⟨by decide +kernel, rfl⟩
theorem D54_84 : rDec M54 84 (.iload 4) 2 86 := ⟨by decide +kernel, rfl⟩
theorem D54_86 : rDec M54 86 (.iastore) 1 87 := ⟨by decide +kernel, rfl⟩
theorem D54_87 : rDec M54 87 (.iinc 2 1) 3 90 := ⟨by decide +kernel, rfl⟩
theorem D54_90 : rDec M54 90 (.goto (-86)) 3 93 := ⟨by decide +kernel, rfl⟩
theorem D54_93 : rDec M54 93 (.aload_n 0) 1 94 := ⟨by decide +kernel, rfl⟩
theorem D54_94 : rDec M54 94 (.getfield 27) 3 97 := ⟨by decide +kernel, rfl⟩
theorem D54_97 : rDec M54 97 (.astore_n 2) 1 98 := ⟨by decide +kernel, rfl⟩
theorem D54_98 : rDec M54 98 (.aload_n 0) 1 99 := ⟨by decide +kernel, rfl⟩
theorem D54_99 : rDec M54 99 (.aload_n 0) 1 100 := ⟨by decide +kernel, rfl⟩
theorem D54_100 : rDec M54 100 (.getfield 30) 3 103 := ⟨by decide +kernel, rfl⟩
theorem D54_103 : rDec M54 103 (.putfield 27) 3 106 := ⟨by decide +kernel, rfl⟩
theorem D54_106 : rDec M54 106 (.aload_n 0) 1 107 := ⟨by decide +kernel, rfl⟩
theorem D54_107 : rDec M54 107 (.aload_n 2) 1 108 := ⟨by decide +kernel, rfl⟩
theorem D54_108 : rDec M54 108 (.putfield 30) 3 111 := ⟨by decide +kernel, rfl⟩
theorem D54_111 : rDec M54 111 (.iload_n 1) 1 112 := ⟨by decide +kernel, rfl⟩
theorem D54_112 : rDec M54 112 (.ireturn) 1 113 := ⟨by decide +kernel, rfl⟩
theorem P54_93 : rSnd lab M54 93 B54_93 := by
  refine s_Al gk0 (Or.inr ⟨0, D54_93, rfl⟩) ?_
  refine s_Gf (ci := 1) (r := ("WordWright$Draft", kT1, 12)) rfl (show 6 < 12 from by decide) rfl (Or.inl wd115) (Or.inl rfl) rfl D54_94 ?_
  refine s_As sk2 (show 2 < 5 from by decide) (Or.inr ⟨2, D54_97, rfl⟩) ?_
  refine s_Al gk0 (Or.inr ⟨0, D54_98, rfl⟩) ?_
  refine s_Al gk0 (Or.inr ⟨0, D54_99, rfl⟩) ?_
  refine s_Gf (ci := 1) (r := ("WordWright$Draft", kT1, 12)) rfl (show 7 < 12 from by decide) rfl (Or.inl wd116) (Or.inl rfl) rfl D54_100 ?_
  refine s_Pf (ci := 1) (r := ("WordWright$Draft", kT1, 12)) rfl (show 6 < 12 from by decide) rfl (Or.inl ⟨rfl, Or.inl wd115⟩) (Or.inl rfl) rfl (by decide) D54_103 ?_
  refine s_Al gk0 (Or.inr ⟨0, D54_106, rfl⟩) ?_
  refine s_Al gk2 (Or.inr ⟨2, D54_107, rfl⟩) ?_
  refine s_Pf (ci := 1) (r := ("WordWright$Draft", kT1, 12)) rfl (show 7 < 12 from by decide) rfl (Or.inl ⟨rfl, Or.inl wd116⟩) (Or.inl rfl) rfl (by decide) D54_108 ?_
  refine s_Il gk1 (Or.inr ⟨1, D54_111, rfl⟩) ?_
  exact s_Ri (Or.inl rfl) D54_112.1
theorem P54_79 : rSnd lab M54 79 B54_79 := by
  refine s_Al gk0 (Or.inr ⟨0, D54_79, rfl⟩) ?_
  refine s_Gf (ci := 1) (r := ("WordWright$Draft", kT1, 12)) rfl (show 7 < 12 from by decide) rfl (Or.inl wd116) (Or.inl rfl) rfl D54_80 ?_
  refine s_Il gk2 (Or.inr ⟨2, D54_83, rfl⟩) ?_
  refine s_Il gk4 (Or.inl D54_84) ?_
  refine s_Ast (t := 0) rfl q_iast rfl (by decide) D54_86 ?_
  refine s_Inc gk2 sk2 (show 2 < 5 from by decide) kc_i_1 D54_87 ?_
  exact s_Go (pc' := 4) D54_90.1 (by decide) (s_Jb rfl)
theorem P54_54 : rSnd lab M54 54 B54_54 := by
  refine s_Il gk4 (Or.inl D54_54) ?_
  refine s_Il gk1 (Or.inr ⟨1, D54_56, rfl⟩) ?_
  refine s_Ic c_ne (i_ne (tg := 79) (by decide)) D54_57.1 P54_79 (?_ : rSnd _ _ 60 _)
  refine s_Al gk0 (Or.inr ⟨0, D54_60, rfl⟩) ?_
  refine s_Gf (ci := 1) (r := ("WordWright$Draft", kT1, 12)) rfl (show 8 < 12 from by decide) rfl (Or.inl wd117) (Or.inl rfl) rfl D54_61 ?_
  refine s_Il gk4 (Or.inl D54_64) ?_
  refine s_Il gk3 (Or.inr ⟨3, D54_66, rfl⟩) ?_
  refine s_Ast (t := 0) rfl q_iast rfl (by decide) D54_67 ?_
  refine s_Al gk0 (Or.inr ⟨0, D54_68, rfl⟩) ?_
  refine s_Gf (ci := 1) (r := ("WordWright$Draft", kT1, 12)) rfl (show 9 < 12 from by decide) rfl (Or.inl wd118) (Or.inl rfl) rfl D54_69 ?_
  refine s_Il gk4 (Or.inl D54_72) ?_
  refine s_Il gk2 (Or.inr ⟨2, D54_74, rfl⟩) ?_
  refine s_Ast (t := 0) rfl q_iast rfl (by decide) D54_75 ?_
  refine s_Inc gk1 sk1 (show 1 < 5 from by decide) kc_i_1 D54_76 ?_
  exact P54_79
theorem P54_44 : rSnd lab M54 44 B54_44 := by
  refine s_Il gk4 (Or.inl D54_44) ?_
  refine s_bi D54_46 kc_b_10 (by decide) ?_
  refine s_Ic c_ne (i_ne (tg := 54) (by decide)) D54_48.1 P54_54 (?_ : rSnd _ _ 51 _)
  exact rSnd_none
theorem P54_21 : rSnd lab M54 21 B54_21 := by
  refine s_Il gk4 (Or.inl D54_21) ?_
  refine s_Il gk1 (Or.inr ⟨1, D54_23, rfl⟩) ?_
  refine s_Ic c_ge (i_ge (tg := 44) (by decide)) D54_24.1 P54_44 (?_ : rSnd _ _ 27 _)
  refine s_Al gk0 (Or.inr ⟨0, D54_27, rfl⟩) ?_
  refine s_Gf (ci := 1) (r := ("WordWright$Draft", kT1, 12)) rfl (show 8 < 12 from by decide) rfl (Or.inl wd117) (Or.inl rfl) rfl D54_28 ?_
  refine s_Il gk4 (Or.inl D54_31) ?_
  refine s_Ial D54_33 ?_
  refine s_Il gk3 (Or.inr ⟨3, D54_34, rfl⟩) ?_
  refine s_Ic c_eq (i_eq (tg := 44) (by decide)) D54_35.1 P54_44 (?_ : rSnd _ _ 38 _)
  refine s_Inc gk4 sk4 (show 4 < 5 from by decide) kc_i_1 D54_38 ?_
  exact s_Go (pc' := 21) D54_41.1 (by decide) (s_Jb rfl)
theorem P54_4 : rSnd lab M54 4 B54_4 := by
  refine s_Il gk2 (Or.inr ⟨2, D54_4, rfl⟩) ?_
  refine s_Al gk0 (Or.inr ⟨0, D54_5, rfl⟩) ?_
  refine s_Gf (ci := 1) (r := ("WordWright$Draft", kT1, 12)) rfl (show 0 < 12 from by decide) rfl (Or.inl wd105) (Or.inl rfl) rfl D54_6 ?_
  refine s_Ic c_ge (i_ge (tg := 93) (by decide)) D54_9.1 P54_93 (?_ : rSnd _ _ 12 _)
  refine s_Al gk0 (Or.inr ⟨0, D54_12, rfl⟩) ?_
  refine s_Il gk2 (Or.inr ⟨2, D54_13, rfl⟩) ?_
  refine s_Cv (ln := 3) (kd := 4) (C := "WordWright$Draft") (by decide) (by decide +kernel) rfl (l_V rfl ok53 rfl wd660 wd662 ws22 D54_14.1) (?_ : rSnd _ _ 17 _)
  refine s_Is sk3 (show 3 < 5 from by decide) (Or.inr ⟨3, D54_17, rfl⟩) ?_
  refine s_ic D54_18 kc_i_0 (by decide) ?_
  refine s_Is sk4 (show 4 < 5 from by decide) (Or.inl D54_19) ?_
  exact P54_21
theorem P54_0 : rSnd lab M54 0 B54_0 := by
  refine s_Ent ?_
  refine s_ic D54_0 kc_i_0 (by decide) ?_
  refine s_Is sk1 (show 1 < 5 from by decide) (Or.inr ⟨1, D54_1, rfl⟩) ?_
  refine s_ic D54_2 kc_i_0 (by decide) ?_
  refine s_Is sk2 (show 2 < 5 from by decide) (Or.inr ⟨2, D54_3, rfl⟩) ?_
  exact P54_4
theorem D55_0 : rDec M55 0 (.lload_n 1) 1 1 := ⟨by decide +kernel, rfl⟩
theorem D55_1 : rDec M55 1 (.ldc2_w 63) 3 4 := ⟨by decide +kernel, rfl⟩
theorem D55_4 : rDec M55 4 (.lmul) 1 5 := ⟨by decide +kernel, rfl⟩
theorem D55_5 : rDec M55 5 (.bipush 50) 2 7 := ⟨by decide +kernel, rfl⟩
theorem D55_7 : rDec M55 7 (.lushr) 1 8 := ⟨by decide +kernel, rfl⟩
theorem D55_8 : rDec M55 8 (.l2i) 1 9 := ⟨by decide +kernel, rfl⟩
theorem D55_9 : rDec M55 9 (.istore_n 3) 1 10 := ⟨by decide +kernel, rfl⟩
theorem D55_10 : rDec M55 10 (.iconst 0) 1 11 := ⟨by decide +kernel, rfl⟩
theorem D55_11 : rDec M55 11 (.istore 4) 2 13 := ⟨by decide +kernel, rfl⟩
theorem D55_13 : rDec M55 13 (.iload 4) 2 15 := ⟨by decide +kernel, rfl⟩
theorem D55_15 : rDec M55 15 (.sipush 16384) 3 18 := ⟨by decide +kernel, rfl⟩
theorem D55_18 : rDec M55 18 (.if_icmp .ge 55) 3 21 := ⟨by decide +kernel, rfl⟩
theorem D55_21 : rDec M55 21 (.aload_n 0) 1 22 := ⟨by decide +kernel, rfl⟩
theorem D55_22 : rDec M55 22 (.getfield 24) 3 25 := ⟨by decide +kernel, rfl⟩
theorem D55_25 : rDec M55 25 (.iload_n 3) 1 26 := ⟨by decide +kernel, rfl⟩
theorem D55_26 : rDec M55 26 (.iaload) 1 27 := ⟨by decide +kernel, rfl⟩
theorem D55_27 : rDec M55 27 (.aload_n 0) 1 28 := ⟨by decide +kernel, rfl⟩
theorem D55_28 : rDec M55 28 (.getfield 45) 3 31 := ⟨by decide +kernel, rfl⟩
theorem D55_31 : rDec M55 31 (.isub) 1 32 := ⟨by decide +kernel, rfl⟩
theorem D55_32 : rDec M55 32 (.iconst 1) 1 33 := ⟨by decide +kernel, rfl⟩
theorem D55_33 : rDec M55 33 (.isub) 1 34 := ⟨by decide +kernel, rfl⟩
theorem D55_34 : rDec M55 34 (.istore 5) 2 36 := ⟨by decide +kernel, rfl⟩
theorem D55_36 : rDec M55 36 (.iload 5) 2 38 := ⟨by decide +kernel, rfl⟩
theorem D55_38 : rDec M55 38 (.ifCond .ge 6) 3 41 := ⟨by decide +kernel, rfl⟩
theorem D55_41 : rDec M55 41 (.goto 32) 3 44 := ⟨by decide +kernel, rfl⟩
theorem D55_44 : rDec M55 44 (.aload_n 0) 1 45 := ⟨by decide +kernel, rfl⟩
theorem D55_45 : rDec M55 45 (.getfield 11) 3 48 := ⟨by decide +kernel, rfl⟩
theorem D55_48 : rDec M55 48 (.iload 5) 2 50 := ⟨by decide +kernel, rfl⟩
theorem D55_50 : rDec M55 50 (.laload) 1 51 := ⟨by decide +kernel, rfl⟩
theorem D55_51 : rDec M55 51 (.lload_n 1) 1 52 := ⟨by decide +kernel, rfl⟩
theorem D55_52 : rDec M55 52 (.lcmp) 1 53 := ⟨by decide +kernel, rfl⟩
theorem D55_53 : rDec M55 53 (.ifCond .ne 6) 3 56 := ⟨by decide +kernel, rfl⟩
theorem D55_56 : rDec M55 56 (.iload 5) 2 58 := ⟨by decide +kernel, rfl⟩
theorem D55_58 : rDec M55 58 (.ireturn) 1 59 := ⟨by decide +kernel, rfl⟩
theorem D55_73 : rDec M55 73 (.aload_n 0) 1 74 := ⟨by decide +kernel, rfl⟩
theorem D55_74 : rDec M55 74 (.getfield 49) 3 77 := ⟨by decide +kernel, rfl⟩
theorem D55_77 : rDec M55 77 (.sipush 10240) 3 80 := ⟨by decide +kernel, rfl⟩
theorem D55_80 : rDec M55 80 (.if_icmp .lt 5) 3 83 := ⟨by decide +kernel, rfl⟩
theorem D55_85 : rDec M55 85 (.aload_n 0) 1 86 := ⟨by decide +kernel, rfl⟩
theorem D55_86 : rDec M55 86 (.getfield 11) 3 89 := ⟨by decide +kernel, rfl⟩
theorem D55_89 : rDec M55 89 (.aload_n 0) 1 90 := ⟨by decide +kernel, rfl⟩
theorem D55_90 : rDec M55 90 (.getfield 49) 3 93 := ⟨by decide +kernel, rfl⟩
theorem D55_93 : rDec M55 93 (.lload_n 1) 1 94 := ⟨by decide +kernel, rfl⟩
theorem D55_94 : rDec M55 94 (.lastore) 1 95 := ⟨by decide +kernel, rfl⟩
theorem D55_95 : rDec M55 95 (.aload_n 0) 1 96 := ⟨by decide +kernel, rfl⟩
theorem D55_96 : rDec M55 96 (.dup) 1 97 := ⟨by decide +kernel, rfl⟩
theorem D55_97 : rDec M55 97 (.getfield 49) 3 100 := ⟨by decide +kernel, rfl⟩
theorem D55_100 : rDec M55 100 (.iconst 1) 1 101 := ⟨by decide +kernel, rfl⟩
theorem D55_101 : rDec M55 101 (.iadd) 1 102 := ⟨by decide +kernel, rfl⟩
theorem D55_102 : rDec M55 102 (.putfield 49) 3 105 := ⟨by decide +kernel, rfl⟩
theorem D55_105 : rDec M55 105 (.aload_n 0) 1 106 := ⟨by decide +kernel, rfl⟩
theorem D55_106 : rDec M55 106 (.getfield 24) 3 109 := ⟨by decide +kernel, rfl⟩
theorem D55_109 : rDec M55 109 (.iload_n 3) 1 110 := ⟨by decide +kernel, rfl⟩
theorem D55_110 : rDec M55 110 (.aload_n 0) 1 111 := ⟨by decide +kernel, rfl⟩
theorem D55_111 : rDec M55 111 (.getfield 45) 3 114 := ⟨by decide +kernel, rfl⟩
theorem D55_114 : rDec M55 114 (.aload_n 0) 1 115 := ⟨by decide +kernel, rfl⟩
theorem D55_115 : rDec M55 115 (.getfield 49) 3 118 := ⟨by decide +kernel, rfl⟩
theorem D55_118 : rDec M55 118 (.iadd) 1 119 := ⟨by decide +kernel, rfl⟩
theorem D55_119 : rDec M55 119 (.iastore) 1 120 := ⟨by decide +kernel, rfl⟩
theorem D55_120 : rDec M55 120 (.aload_n 0) 1 121 := ⟨by decide +kernel, rfl⟩
theorem D55_121 : rDec M55 121 (.getfield 49) 3 124 := ⟨by decide +kernel, rfl⟩
theorem D55_124 : rDec M55 124 (.iconst 1) 1 125 := ⟨by decide +kernel, rfl⟩
theorem D55_125 : rDec M55 125 (.isub) 1 126 := ⟨by decide +kernel, rfl⟩
theorem D55_126 : rDec M55 126 (.ireturn) 1 127 := ⟨by decide +kernel, rfl⟩
theorem P55_85 : rSnd lab M55 85 B55_85 := by
  refine s_Al gk0 (Or.inr ⟨0, D55_85, rfl⟩) ?_
  refine s_Gf (ci := 1) (r := ("WordWright$Draft", kT1, 12)) rfl (show 1 < 12 from by decide) rfl (Or.inl wd107) (Or.inl rfl) rfl D55_86 ?_
  refine s_Al gk0 (Or.inr ⟨0, D55_89, rfl⟩) ?_
  refine s_Gf (ci := 1) (r := ("WordWright$Draft", kT1, 12)) rfl (show 0 < 12 from by decide) rfl (Or.inl wd105) (Or.inl rfl) rfl D55_90 ?_
  refine s_Ll gk1 (Or.inr ⟨1, D55_93, rfl⟩) ?_
  refine s_Ast (t := 2) rfl q_last rfl (by decide) D55_94 ?_
  refine s_Al gk0 (Or.inr ⟨0, D55_95, rfl⟩) ?_
  refine s_Dup D55_96 ?_
  refine s_Gf (ci := 1) (r := ("WordWright$Draft", kT1, 12)) rfl (show 0 < 12 from by decide) rfl (Or.inl wd105) (Or.inl rfl) rfl D55_97 ?_
  refine s_ic D55_100 kc_i_1 (by decide) ?_
  refine s_Bin q_iadd n_add rG2_x e_add D55_101 ?_
  refine s_Pf (ci := 1) (r := ("WordWright$Draft", kT1, 12)) rfl (show 0 < 12 from by decide) rfl (Or.inl ⟨rfl, Or.inl wd105⟩) (Or.inl rfl) rfl (by decide) D55_102 ?_
  refine s_Al gk0 (Or.inr ⟨0, D55_105, rfl⟩) ?_
  refine s_Gf (ci := 1) (r := ("WordWright$Draft", kT1, 12)) rfl (show 4 < 12 from by decide) rfl (Or.inl wd113) (Or.inl rfl) rfl D55_106 ?_
  refine s_Il gk3 (Or.inr ⟨3, D55_109, rfl⟩) ?_
  refine s_Al gk0 (Or.inr ⟨0, D55_110, rfl⟩) ?_
  refine s_Gf (ci := 1) (r := ("WordWright$Draft", kT1, 12)) rfl (show 5 < 12 from by decide) rfl (Or.inl wd114) (Or.inl rfl) rfl D55_111 ?_
  refine s_Al gk0 (Or.inr ⟨0, D55_114, rfl⟩) ?_
  refine s_Gf (ci := 1) (r := ("WordWright$Draft", kT1, 12)) rfl (show 0 < 12 from by decide) rfl (Or.inl wd105) (Or.inl rfl) rfl D55_115 ?_
  refine s_Bin q_iadd n_add rG2_x e_add D55_118 ?_
  refine s_Ast (t := 0) rfl q_iast rfl (by decide) D55_119 ?_
  refine s_Al gk0 (Or.inr ⟨0, D55_120, rfl⟩) ?_
  refine s_Gf (ci := 1) (r := ("WordWright$Draft", kT1, 12)) rfl (show 0 < 12 from by decide) rfl (Or.inl wd105) (Or.inl rfl) rfl D55_121 ?_
  refine s_ic D55_124 kc_i_1 (by decide) ?_
  refine s_Bin q_isub n_sub rG2_x rE2_x D55_125 ?_
  exact s_Ri (Or.inl rfl) D55_126.1
theorem P55_73 : rSnd lab M55 73 B55_73 := by
  refine s_Al gk0 (Or.inr ⟨0, D55_73, rfl⟩) ?_
  refine s_Gf (ci := 1) (r := ("WordWright$Draft", kT1, 12)) rfl (show 0 < 12 from by decide) rfl (Or.inl wd105) (Or.inl rfl) rfl D55_74 ?_
  refine s_si D55_77 kc_s_10240 (by decide) ?_
  refine s_Ic c_lt (i_lt (tg := 85) (by decide)) D55_80.1 P55_85 (?_ : rSnd _ _ 83 _)
  exact rSnd_none
theorem P55_44 : rSnd lab M55 44 B55_44 := by
  refine s_Al gk0 (Or.inr ⟨0, D55_44, rfl⟩) ?_
  refine s_Gf (ci := 1) (r := ("WordWright$Draft", kT1, 12)) rfl (show 1 < 12 from by decide) rfl (Or.inl wd107) (Or.inl rfl) rfl D55_45 ?_
  refine s_Il gk5 (Or.inl D55_48) ?_
  refine s_Ald (t := 2) (ty := .long) rfl q_lald rfl D55_50 ?_
  refine s_Ll gk1 (Or.inr ⟨1, D55_51, rfl⟩) ?_
  refine s_Lcmp D55_52 ?_
  refine s_If c_ne (fun _ => rfl) (fun _ _ => rfl) (b_ne (tg := 59) (by decide)) D55_53.1 rSnd_none (?_ : rSnd _ _ 56 _)
  refine s_Il gk5 (Or.inl D55_56) ?_
  exact s_Ri (Or.inl rfl) D55_58.1
theorem P55_0 : rSnd lab M55 0 B55_0 := by
  refine s_Ent ?_
  refine s_Ll gk1 (Or.inr ⟨1, D55_0, rfl⟩) ?_
  refine s_ld2 rfl wd645 D55_1 kc_J_m7046029254386353131 (by decide) ?_
  refine s_BinL q_lmul nl_mul D55_4 ?_
  refine s_bi D55_5 kc_b_50 (by decide) ?_
  refine s_ShL q_lushr nl_ush D55_7 ?_
  refine s_L2i D55_8 ?_
  refine s_Is sk3 (show 3 < 6 from by decide) (Or.inr ⟨3, D55_9, rfl⟩) ?_
  refine s_ic D55_10 kc_i_0 (by decide) ?_
  refine s_Is sk4 (show 4 < 6 from by decide) (Or.inl D55_11) ?_
  refine s_Il gk4 (Or.inl D55_13) ?_
  refine s_si D55_15 kc_s_16384 (by decide) ?_
  refine s_Ic c_ge (i_ge (tg := 73) (by decide)) D55_18.1 P55_73 (?_ : rSnd _ _ 21 _)
  refine s_Al gk0 (Or.inr ⟨0, D55_21, rfl⟩) ?_
  refine s_Gf (ci := 1) (r := ("WordWright$Draft", kT1, 12)) rfl (show 4 < 12 from by decide) rfl (Or.inl wd113) (Or.inl rfl) rfl D55_22 ?_
  refine s_Il gk3 (Or.inr ⟨3, D55_25, rfl⟩) ?_
  refine s_Ial D55_26 ?_
  refine s_Al gk0 (Or.inr ⟨0, D55_27, rfl⟩) ?_
  refine s_Gf (ci := 1) (r := ("WordWright$Draft", kT1, 12)) rfl (show 5 < 12 from by decide) rfl (Or.inl wd114) (Or.inl rfl) rfl D55_28 ?_
  refine s_Bin q_isub n_sub rG2_x rE2_x D55_31 ?_
  refine s_ic D55_32 kc_i_1 (by decide) ?_
  refine s_Bin q_isub n_sub rG2_x rE2_x D55_33 ?_
  refine s_Is sk5 (show 5 < 6 from by decide) (Or.inl D55_34) ?_
  refine s_Il gk5 (Or.inl D55_36) ?_
  refine s_If c_ge (fun _ => rfl) (fun _ _ => rfl) (b_ge (tg := 44) (by decide)) D55_38.1 P55_44 (?_ : rSnd _ _ 41 _)
  exact s_Go (pc' := 73) D55_41.1 (by decide) P55_73
