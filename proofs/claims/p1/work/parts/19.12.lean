-- ===== rows and blocks, 12 =====
theorem D271_0 : rDec M271 0 (.aload_n 0) 1 1 := ⟨by decide +kernel, rfl⟩
theorem D271_1 : rDec M271 1 (.iload_n 1) 1 2 := ⟨by decide +kernel, rfl⟩
theorem D271_2 : rDec M271 2 (.invokevirtual 132) 3 5 := ⟨by decide +kernel, rfl⟩
theorem D271_5 : rDec M271 5 (.iconst 0) 1 6 := ⟨by decide +kernel, rfl⟩
theorem D271_6 : rDec M271 6 (.istore_n 2) 1 7 := ⟨by decide +kernel, rfl⟩
theorem D271_7 : rDec M271 7 (.iconst 0) 1 8 := ⟨by decide +kernel, rfl⟩
theorem D271_8 : rDec M271 8 (.istore_n 3) 1 9 := ⟨by decide +kernel, rfl⟩
theorem D271_9 : rDec M271 9 (.iload_n 3) 1 10 := ⟨by decide +kernel, rfl⟩
theorem D271_10 : rDec M271 10 (.iconst 1) 1 11 := ⟨by decide +kernel, rfl⟩
theorem D271_11 : rDec M271 11 (.iconst 2) 1 12 := ⟨by decide +kernel, rfl⟩
theorem D271_12 : rDec M271 12 (.aload_n 0) 1 13 := ⟨by decide +kernel, rfl⟩
theorem D271_13 : rDec M271 13 (.getfield 135) 3 16 := ⟨by decide +kernel, rfl⟩
theorem D271_16 : rDec M271 16 (.imul) 1 17 := ⟨by decide +kernel, rfl⟩
theorem D271_17 : rDec M271 17 (.ishl) 1 18 := ⟨by decide +kernel, rfl⟩
theorem D271_18 : rDec M271 18 (.if_icmp .ge 74) 3 21 := ⟨by decide +kernel, rfl⟩
theorem D271_21 : rDec M271 21 (.iconst 0) 1 22 := ⟨by decide +kernel, rfl⟩
theorem D271_22 : rDec M271 22 (.istore 4) 2 24 := ⟨by decide +kernel, rfl⟩
theorem D271_24 : rDec M271 24 (.iload 4) 2 26 := ⟨by decide +kernel, rfl⟩
theorem D271_26 : rDec M271 26 (.aload_n 0) 1 27 := ⟨by decide +kernel, rfl⟩
theorem D271_27 : rDec M271 27 (.getfield 135) 3 30 := ⟨by decide +kernel, rfl⟩
theorem D271_30 : rDec M271 30 (.if_icmp .ge 36) 3 33 := ⟨by decide +kernel, rfl⟩
theorem D271_33 : rDec M271 33 (.aload_n 0) 1 34 := ⟨by decide +kernel, rfl⟩
theorem D271_34 : rDec M271 34 (.getfield 33) 3 37 := ⟨by decide +kernel, rfl⟩
theorem D271_37 : rDec M271 37 (.aload_n 0) 1 38 := ⟨by decide +kernel, rfl⟩
theorem D271_38 : rDec M271 38 (.getfield 30) 3 41 := ⟨by decide +kernel, rfl⟩
theorem D271_41 : rDec M271 41 (.iload 4) 2 43 := ⟨by decide +kernel, rfl⟩
theorem D271_43 : rDec M271 43 (.iaload) 1 44 := ⟨by decide +kernel, rfl⟩
theorem D271_44 : rDec M271 44 (.iload_n 3) 1 45 := ⟨by decide +kernel, rfl⟩
theorem D271_45 : rDec M271 45 (.iconst 2) 1 46 := ⟨by decide +kernel, rfl⟩
theorem D271_46 : rDec M271 46 (.aload_n 0) 1 47 := ⟨by decide +kernel, rfl⟩
theorem D271_47 : rDec M271 47 (.getfield 135) 3 50 := ⟨by decide +kernel, rfl⟩
theorem D271_50 : rDec M271 50 (.iconst 1) 1 51 := ⟨by decide +kernel, rfl⟩
theorem D271_51 : rDec M271 51 (.isub) 1 52 := ⟨by decide +kernel, rfl⟩
theorem D271_52 : rDec M271 52 (.iload 4) 2 54 := ⟨by decide +kernel, rfl⟩
theorem D271_54 : rDec M271 54 (.isub) 1 55 := ⟨by decide +kernel, rfl⟩
theorem D271_55 : rDec M271 55 (.imul) 1 56 := ⟨by decide +kernel, rfl⟩
theorem D271_56 : rDec M271 56 (.ishr) 1 57 := ⟨by decide +kernel, rfl⟩
theorem D271_57 : rDec M271 57 (.iconst 3) 1 58 := ⟨by decide +kernel, rfl⟩
theorem D271_58 : rDec M271 58 (.iand) 1 59 := ⟨by decide +kernel, rfl⟩
theorem D271_59 : rDec M271 59 (.iastore) 1 60 := ⟨by decide +kernel, rfl⟩
theorem D271_60 : rDec M271 60 (.iinc 4 1) 3 63 := ⟨by decide +kernel, rfl⟩
theorem D271_63 : rDec M271 63 (.goto (-39)) 3 66 := ⟨by decide +kernel, rfl⟩
theorem D271_66 : rDec M271 66 (.aload_n 0) 1 67 := ⟨by decide +kernel, rfl⟩
theorem D271_67 : rDec M271 67 (.iload_n 1) 1 68 := ⟨by decide +kernel, rfl⟩
theorem D271_68 : rDec M271 68 (.invokevirtual 138) 3 71 := ⟨by decide +kernel, rfl⟩
theorem D271_71 : rDec M271 71 (.ifCond .eq 15) 3 74 := ⟨by decide +kernel, rfl⟩
theorem D271_74 : rDec M271 74 (.iload_n 2) 1 75 := ⟨by decide +kernel, rfl⟩
theorem D271_75 : rDec M271 75 (.ifCond .ne 8) 3 78 := ⟨by decide +kernel, rfl⟩
theorem D271_78 : rDec M271 78 (.aload_n 0) 1 79 := ⟨by decide +kernel, rfl⟩
theorem D271_79 : rDec M271 79 (.iload_n 1) 1 80 := ⟨by decide +kernel, rfl⟩
theorem D271_80 : rDec M271 80 (.invokevirtual 141) 3 83 := ⟨by decide +kernel, rfl⟩
theorem D271_83 : rDec M271 83 (.iinc 2 1) 3 86 := ⟨by decide +kernel, rfl⟩
theorem D271_86 : rDec M271 86 (.iinc 3 1) 3 89 := ⟨by decide +kernel, rfl⟩
theorem D271_89 : rDec M271 89 (.goto (-80)) 3 92 := ⟨by decide +kernel, rfl⟩
theorem D271_92 : rDec M271 92 (.iload_n 2) 1 93 := ⟨by decide +kernel, rfl⟩
theorem D271_93 : rDec M271 93 (.ireturn) 1 94 := ⟨by decide +kernel, rfl⟩
theorem P271_92 : rSnd lab M271 92 B271_92 := by
  refine s_Il gk2 (Or.inr ⟨2, D271_92, rfl⟩) ?_
  exact s_Ri (Or.inl rfl) D271_93.1
theorem P271_86 : rSnd lab M271 86 B271_86 := by
  refine s_Inc gk3 sk3 (show 3 < 5 from by decide) kc_i_1 D271_86 ?_
  exact s_Go (pc' := 9) D271_89.1 (by decide) (s_Jb rfl)
theorem P271_83 : rSnd lab M271 83 B271_83 := by
  refine s_Inc gk2 sk2 (show 2 < 5 from by decide) kc_i_1 D271_83 ?_
  exact P271_86
theorem P271_66 : rSnd lab M271 66 B271_66 := by
  refine s_Al gk0 (Or.inr ⟨0, D271_66, rfl⟩) ?_
  refine s_Il gk1 (Or.inr ⟨1, D271_67, rfl⟩) ?_
  refine s_Cv (ln := 3) (kd := 18) (C := "WordWright$Solver") (by decide) (by decide +kernel) rfl (l_V rfl ok276 rfl wd566 wd568 ws14 D271_68.1) (?_ : rSnd _ _ 71 _)
  refine s_If c_eq (fun _ => rfl) (fun _ _ => rfl) (b_eq (tg := 86) (by decide)) D271_71.1 P271_86 (?_ : rSnd _ _ 74 _)
  refine s_Il gk2 (Or.inr ⟨2, D271_74, rfl⟩) ?_
  refine s_If c_ne (fun _ => rfl) (fun _ _ => rfl) (b_ne (tg := 83) (by decide)) D271_75.1 P271_83 (?_ : rSnd _ _ 78 _)
  refine s_Al gk0 (Or.inr ⟨0, D271_78, rfl⟩) ?_
  refine s_Il gk1 (Or.inr ⟨1, D271_79, rfl⟩) ?_
  refine s_Cv (ln := 3) (kd := 18) (C := "WordWright$Solver") (by decide) (by decide +kernel) rfl (l_V rfl ok277 rfl wd574 wd576 ws16 D271_80.1) (?_ : rSnd _ _ 83 _)
  exact P271_83
theorem P271_24 : rSnd lab M271 24 B271_24 := by
  refine s_Il gk4 (Or.inl D271_24) ?_
  refine s_Al gk0 (Or.inr ⟨0, D271_26, rfl⟩) ?_
  refine s_Gf (ci := 8) (r := ("WordWright$Solver", kT8, 11)) rfl (show 8 < 11 from by decide) rfl (Or.inl wd312) (Or.inl rfl) rfl D271_27 ?_
  refine s_Ic c_ge (i_ge (tg := 66) (by decide)) D271_30.1 P271_66 (?_ : rSnd _ _ 33 _)
  refine s_Al gk0 (Or.inr ⟨0, D271_33, rfl⟩) ?_
  refine s_Gf (ci := 8) (r := ("WordWright$Solver", kT8, 11)) rfl (show 9 < 11 from by decide) rfl (Or.inl wd313) (Or.inl rfl) rfl D271_34 ?_
  refine s_Al gk0 (Or.inr ⟨0, D271_37, rfl⟩) ?_
  refine s_Gf (ci := 8) (r := ("WordWright$Solver", kT8, 11)) rfl (show 7 < 11 from by decide) rfl (Or.inl wd311) (Or.inl rfl) rfl D271_38 ?_
  refine s_Il gk4 (Or.inl D271_41) ?_
  refine s_Ial D271_43 ?_
  refine s_Il gk3 (Or.inr ⟨3, D271_44, rfl⟩) ?_
  refine s_ic D271_45 kc_i_2 (by decide) ?_
  refine s_Al gk0 (Or.inr ⟨0, D271_46, rfl⟩) ?_
  refine s_Gf (ci := 8) (r := ("WordWright$Solver", kT8, 11)) rfl (show 8 < 11 from by decide) rfl (Or.inl wd312) (Or.inl rfl) rfl D271_47 ?_
  refine s_ic D271_50 kc_i_1 (by decide) ?_
  refine s_Bin q_isub n_sub rG2_x rE2_x D271_51 ?_
  refine s_Il gk4 (Or.inl D271_52) ?_
  refine s_Bin q_isub n_sub rG2_x rE2_x D271_54 ?_
  refine s_Bin q_imul n_mul rG2_x rE2_x D271_55 ?_
  refine s_Bin q_ishr n_shr g_shr rE2_x D271_56 ?_
  refine s_ic D271_57 kc_i_3 (by decide) ?_
  refine s_Bin q_iand n_and g_and rE2_x D271_58 ?_
  refine s_Ast (t := 0) rfl q_iast rfl (by decide) D271_59 ?_
  refine s_Inc gk4 sk4 (show 4 < 5 from by decide) kc_i_1 D271_60 ?_
  exact s_Go (pc' := 24) D271_63.1 (by decide) (s_Jb rfl)
theorem P271_9 : rSnd lab M271 9 B271_9 := by
  refine s_Il gk3 (Or.inr ⟨3, D271_9, rfl⟩) ?_
  refine s_ic D271_10 kc_i_1 (by decide) ?_
  refine s_ic D271_11 kc_i_2 (by decide) ?_
  refine s_Al gk0 (Or.inr ⟨0, D271_12, rfl⟩) ?_
  refine s_Gf (ci := 8) (r := ("WordWright$Solver", kT8, 11)) rfl (show 8 < 11 from by decide) rfl (Or.inl wd312) (Or.inl rfl) rfl D271_13 ?_
  refine s_Bin q_imul n_mul rG2_x rE2_x D271_16 ?_
  refine s_Bin q_ishl n_shl rG2_x rE2_x D271_17 ?_
  refine s_Ic c_ge (i_ge (tg := 92) (by decide)) D271_18.1 P271_92 (?_ : rSnd _ _ 21 _)
  refine s_ic D271_21 kc_i_0 (by decide) ?_
  refine s_Is sk4 (show 4 < 5 from by decide) (Or.inl D271_22) ?_
  exact P271_24
theorem P271_0 : rSnd lab M271 0 B271_0 := by
  refine s_Ent ?_
  refine s_Al gk0 (Or.inr ⟨0, D271_0, rfl⟩) ?_
  refine s_Il gk1 (Or.inr ⟨1, D271_1, rfl⟩) ?_
  refine s_Cv (ln := 3) (kd := 18) (C := "WordWright$Solver") (by decide) (by decide +kernel) rfl (l_V rfl ok278 rfl wd558 wd560 ws12 D271_2.1) (?_ : rSnd _ _ 5 _)
  refine s_ic D271_5 kc_i_0 (by decide) ?_
  refine s_Is sk2 (show 2 < 5 from by decide) (Or.inr ⟨2, D271_6, rfl⟩) ?_
  refine s_ic D271_7 kc_i_0 (by decide) ?_
  refine s_Is sk3 (show 3 < 5 from by decide) (Or.inr ⟨3, D271_8, rfl⟩) ?_
  exact P271_9
theorem D272_0 : rDec M272 0 (.iconst 0) 1 1 := ⟨by decide +kernel, rfl⟩
theorem D272_1 : rDec M272 1 (.istore_n 1) 1 2 := ⟨by decide +kernel, rfl⟩
theorem D272_2 : rDec M272 2 (.iload_n 1) 1 3 := ⟨by decide +kernel, rfl⟩
theorem D272_3 : rDec M272 3 (.iconst 4) 1 4 := ⟨by decide +kernel, rfl⟩
theorem D272_4 : rDec M272 4 (.if_icmp .ge 59) 3 7 := ⟨by decide +kernel, rfl⟩
theorem D272_7 : rDec M272 7 (.aload_n 0) 1 8 := ⟨by decide +kernel, rfl⟩
theorem D272_8 : rDec M272 8 (.getfield 27) 3 11 := ⟨by decide +kernel, rfl⟩
theorem D272_11 : rDec M272 11 (.iload_n 1) 1 12 := ⟨by decide +kernel, rfl⟩
theorem D272_12 : rDec M272 12 (.iload_n 1) 1 13 := ⟨by decide +kernel, rfl⟩
theorem D272_13 : rDec M272 13 (.iastore) 1 14 := ⟨by decide +kernel, rfl⟩
theorem D272_14 : rDec M272 14 (.iconst 0) 1 15 := ⟨by decide +kernel, rfl⟩
theorem D272_15 : rDec M272 15 (.istore_n 2) 1 16 := ⟨by decide +kernel, rfl⟩
theorem D272_16 : rDec M272 16 (.iload_n 2) 1 17 := ⟨by decide +kernel, rfl⟩
theorem D272_17 : rDec M272 17 (.iload_n 1) 1 18 := ⟨by decide +kernel, rfl⟩
theorem D272_18 : rDec M272 18 (.if_icmp .ge 39) 3 21 := ⟨by decide +kernel, rfl⟩
theorem D272_21 : rDec M272 21 (.aload_n 0) 1 22 := ⟨by decide +kernel, rfl⟩
theorem D272_22 : rDec M272 22 (.getfield 27) 3 25 := ⟨by decide +kernel, rfl⟩
theorem D272_25 : rDec M272 25 (.iload_n 2) 1 26 := ⟨by decide +kernel, rfl⟩
theorem D272_26 : rDec M272 26 (.iaload) 1 27 := ⟨by decide +kernel, rfl⟩
theorem D272_27 : rDec M272 27 (.iload_n 1) 1 28 := ⟨by decide +kernel, rfl⟩
theorem D272_28 : rDec M272 28 (.if_icmp .eq 23) 3 31 := ⟨by decide +kernel, rfl⟩
theorem D272_31 : rDec M272 31 (.aload_n 0) 1 32 := ⟨by decide +kernel, rfl⟩
theorem D272_32 : rDec M272 32 (.iload_n 2) 1 33 := ⟨by decide +kernel, rfl⟩
theorem D272_33 : rDec M272 33 (.iload_n 1) 1 34 := ⟨by decide +kernel, rfl⟩
theorem D272_34 : rDec M272 34 (.invokevirtual 125) 3 37 := ⟨by decide +kernel, rfl⟩
theorem D272_37 : rDec M272 37 (.ifCond .eq 14) 3 40 := ⟨by decide +kernel, rfl⟩
theorem D272_51 : rDec M272 51 (.iinc 2 1) 3 54 := ⟨by decide +kernel, rfl⟩
theorem D272_54 : rDec M272 54 (.goto (-38)) 3 57 := ⟨by decide +kernel, rfl⟩
theorem D272_57 : rDec M272 57 (.iinc 1 1) 3 60 := ⟨by decide +kernel, rfl⟩
theorem D272_60 : rDec M272 60 (.goto (-58)) 3 63 := ⟨by decide +kernel, rfl⟩
theorem D272_63 : rDec M272 63 (.return_) 1 64 := ⟨by decide +kernel, rfl⟩
theorem P272_63 : rSnd lab M272 63 B272_63 := by
  exact s_Rv rfl D272_63.1
theorem P272_57 : rSnd lab M272 57 B272_57 := by
  refine s_Inc gk1 sk1 (show 1 < 3 from by decide) kc_i_1 D272_57 ?_
  exact s_Go (pc' := 2) D272_60.1 (by decide) (s_Jb rfl)
theorem P272_51 : rSnd lab M272 51 B272_51 := by
  refine s_Inc gk2 sk2 (show 2 < 3 from by decide) kc_i_1 D272_51 ?_
  exact s_Go (pc' := 16) D272_54.1 (by decide) (s_Jb rfl)
theorem P272_16 : rSnd lab M272 16 B272_16 := by
  refine s_Il gk2 (Or.inr ⟨2, D272_16, rfl⟩) ?_
  refine s_Il gk1 (Or.inr ⟨1, D272_17, rfl⟩) ?_
  refine s_Ic c_ge (i_ge (tg := 57) (by decide)) D272_18.1 P272_57 (?_ : rSnd _ _ 21 _)
  refine s_Al gk0 (Or.inr ⟨0, D272_21, rfl⟩) ?_
  refine s_Gf (ci := 8) (r := ("WordWright$Solver", kT8, 11)) rfl (show 6 < 11 from by decide) rfl (Or.inl wd310) (Or.inl rfl) rfl D272_22 ?_
  refine s_Il gk2 (Or.inr ⟨2, D272_25, rfl⟩) ?_
  refine s_Ial D272_26 ?_
  refine s_Il gk1 (Or.inr ⟨1, D272_27, rfl⟩) ?_
  refine s_Ic c_eq (i_eq (tg := 51) (by decide)) D272_28.1 P272_51 (?_ : rSnd _ _ 31 _)
  refine s_Al gk0 (Or.inr ⟨0, D272_31, rfl⟩) ?_
  refine s_Il gk2 (Or.inr ⟨2, D272_32, rfl⟩) ?_
  refine s_Il gk1 (Or.inr ⟨1, D272_33, rfl⟩) ?_
  refine s_Cv (ln := 3) (kd := 18) (C := "WordWright$Solver") (by decide) (by decide +kernel) rfl (l_V rfl ok279 rfl wd546 wd548 ws9 D272_34.1) (?_ : rSnd _ _ 37 _)
  refine s_If c_eq (fun _ => rfl) (fun _ _ => rfl) (b_eq (tg := 51) (by decide)) D272_37.1 P272_51 (?_ : rSnd _ _ 40 _)
  exact rSnd_none
theorem P272_2 : rSnd lab M272 2 B272_2 := by
  refine s_Il gk1 (Or.inr ⟨1, D272_2, rfl⟩) ?_
  refine s_ic D272_3 kc_i_4 (by decide) ?_
  refine s_Ic c_ge (i_ge (tg := 63) (by decide)) D272_4.1 P272_63 (?_ : rSnd _ _ 7 _)
  refine s_Al gk0 (Or.inr ⟨0, D272_7, rfl⟩) ?_
  refine s_Gf (ci := 8) (r := ("WordWright$Solver", kT8, 11)) rfl (show 6 < 11 from by decide) rfl (Or.inl wd310) (Or.inl rfl) rfl D272_8 ?_
  refine s_Il gk1 (Or.inr ⟨1, D272_11, rfl⟩) ?_
  refine s_Il gk1 (Or.inr ⟨1, D272_12, rfl⟩) ?_
  refine s_Ast (t := 0) rfl q_iast rfl (by decide) D272_13 ?_
  refine s_ic D272_14 kc_i_0 (by decide) ?_
  refine s_Is sk2 (show 2 < 3 from by decide) (Or.inr ⟨2, D272_15, rfl⟩) ?_
  exact P272_16
theorem P272_0 : rSnd lab M272 0 B272_0 := by
  refine s_Ent ?_
  refine s_ic D272_0 kc_i_0 (by decide) ?_
  refine s_Is sk1 (show 1 < 3 from by decide) (Or.inr ⟨1, D272_1, rfl⟩) ?_
  exact P272_2
theorem D273_0 : rDec M273 0 (.aload_n 0) 1 1 := ⟨by decide +kernel, rfl⟩
theorem D273_1 : rDec M273 1 (.invokespecial 5) 3 4 := ⟨by decide +kernel, rfl⟩
theorem D273_4 : rDec M273 4 (.aload_n 0) 1 5 := ⟨by decide +kernel, rfl⟩
theorem D273_5 : rDec M273 5 (.iconst 4) 1 6 := ⟨by decide +kernel, rfl⟩
theorem D273_6 : rDec M273 6 (.newarray .int) 2 8 := ⟨by decide +kernel, rfl⟩
theorem D273_8 : rDec M273 8 (.putfield 11) 3 11 := ⟨by decide +kernel, rfl⟩
theorem D273_11 : rDec M273 11 (.aload_n 0) 1 12 := ⟨by decide +kernel, rfl⟩
theorem D273_12 : rDec M273 12 (.bipush 12) 2 14 := ⟨by decide +kernel, rfl⟩
theorem D273_14 : rDec M273 14 (.newarray .int) 2 16 := ⟨by decide +kernel, rfl⟩
theorem D273_16 : rDec M273 16 (.putfield 15) 3 19 := ⟨by decide +kernel, rfl⟩
theorem D273_19 : rDec M273 19 (.aload_n 0) 1 20 := ⟨by decide +kernel, rfl⟩
theorem D273_20 : rDec M273 20 (.iconst 4) 1 21 := ⟨by decide +kernel, rfl⟩
theorem D273_21 : rDec M273 21 (.newarray .int) 2 23 := ⟨by decide +kernel, rfl⟩
theorem D273_23 : rDec M273 23 (.putfield 18) 3 26 := ⟨by decide +kernel, rfl⟩
theorem D273_26 : rDec M273 26 (.aload_n 0) 1 27 := ⟨by decide +kernel, rfl⟩
theorem D273_27 : rDec M273 27 (.bipush 12) 2 29 := ⟨by decide +kernel, rfl⟩
theorem D273_29 : rDec M273 29 (.newarray .int) 2 31 := ⟨by decide +kernel, rfl⟩
theorem D273_31 : rDec M273 31 (.putfield 21) 3 34 := ⟨by decide +kernel, rfl⟩
theorem D273_34 : rDec M273 34 (.aload_n 0) 1 35 := ⟨by decide +kernel, rfl⟩
theorem D273_35 : rDec M273 35 (.bipush 24) 2 37 := ⟨by decide +kernel, rfl⟩
theorem D273_37 : rDec M273 37 (.newarray .int) 2 39 := ⟨by decide +kernel, rfl⟩
theorem D273_39 : rDec M273 39 (.putfield 24) 3 42 := ⟨by decide +kernel, rfl⟩
theorem D273_42 : rDec M273 42 (.aload_n 0) 1 43 := ⟨by decide +kernel, rfl⟩
theorem D273_43 : rDec M273 43 (.iconst 4) 1 44 := ⟨by decide +kernel, rfl⟩
theorem D273_44 : rDec M273 44 (.newarray .int) 2 46 := ⟨by decide +kernel, rfl⟩
theorem D273_46 : rDec M273 46 (.putfield 27) 3 49 := ⟨by decide +kernel, rfl⟩
theorem D273_49 : rDec M273 49 (.aload_n 0) 1 50 := ⟨by decide +kernel, rfl⟩
theorem D273_50 : rDec M273 50 (.bipush 8) 2 52 := ⟨by decide +kernel, rfl⟩
theorem D273_52 : rDec M273 52 (.newarray .int) 2 54 := ⟨by decide +kernel, rfl⟩
theorem D273_54 : rDec M273 54 (.putfield 30) 3 57 := ⟨by decide +kernel, rfl⟩
theorem D273_57 : rDec M273 57 (.aload_n 0) 1 58 := ⟨by decide +kernel, rfl⟩
theorem D273_58 : rDec M273 58 (.bipush 12) 2 60 := ⟨by decide +kernel, rfl⟩
theorem D273_60 : rDec M273 60 (.newarray .int) 2 62 := ⟨by decide +kernel, rfl⟩
theorem D273_62 : rDec M273 62 (.putfield 33) 3 65 := ⟨by decide +kernel, rfl⟩
theorem D273_65 : rDec M273 65 (.aload_n 0) 1 66 := ⟨by decide +kernel, rfl⟩
theorem D273_66 : rDec M273 66 (.iconst 4) 1 67 := ⟨by decide +kernel, rfl⟩
theorem D273_67 : rDec M273 67 (.newarray .int) 2 69 := ⟨by decide +kernel, rfl⟩
theorem D273_69 : rDec M273 69 (.putfield 36) 3 72 := ⟨by decide +kernel, rfl⟩
theorem D273_72 : rDec M273 72 (.return_) 1 73 := ⟨by decide +kernel, rfl⟩
theorem P273_0 : rSnd lab M273 0 B273_0 := by
  refine s_Ent ?_
  refine s_Al gk0 (Or.inr ⟨0, D273_0, rfl⟩) ?_
  refine s_Oi rfl wd300 wd62 wd63 D273_1 ?_
  refine s_Al gk0 (Or.inr ⟨0, D273_4, rfl⟩) ?_
  refine s_ic D273_5 kc_i_4 (by decide) ?_
  refine s_Nwa (t := 0) rfl (q_newa (at_ := .int) (Or.inl rfl)) (fun ht _ => ht _ wd91) D273_6 ?_
  refine s_Pf (ci := 8) (r := ("WordWright$Solver", kT8, 11)) rfl (show 1 < 11 from by decide) rfl (Or.inr ⟨rfl, wd304, rfl, rfl⟩) (Or.inl rfl) rfl (by decide) D273_8 ?_
  refine s_Al gk0 (Or.inr ⟨0, D273_11, rfl⟩) ?_
  refine s_bi D273_12 kc_b_12 (by decide) ?_
  refine s_Nwa (t := 0) rfl (q_newa (at_ := .int) (Or.inl rfl)) (fun ht _ => ht _ wd91) D273_14 ?_
  refine s_Pf (ci := 8) (r := ("WordWright$Solver", kT8, 11)) rfl (show 2 < 11 from by decide) rfl (Or.inr ⟨rfl, wd306, rfl, rfl⟩) (Or.inl rfl) rfl (by decide) D273_16 ?_
  refine s_Al gk0 (Or.inr ⟨0, D273_19, rfl⟩) ?_
  refine s_ic D273_20 kc_i_4 (by decide) ?_
  refine s_Nwa (t := 0) rfl (q_newa (at_ := .int) (Or.inl rfl)) (fun ht _ => ht _ wd91) D273_21 ?_
  refine s_Pf (ci := 8) (r := ("WordWright$Solver", kT8, 11)) rfl (show 3 < 11 from by decide) rfl (Or.inr ⟨rfl, wd307, rfl, rfl⟩) (Or.inl rfl) rfl (by decide) D273_23 ?_
  refine s_Al gk0 (Or.inr ⟨0, D273_26, rfl⟩) ?_
  refine s_bi D273_27 kc_b_12 (by decide) ?_
  refine s_Nwa (t := 0) rfl (q_newa (at_ := .int) (Or.inl rfl)) (fun ht _ => ht _ wd91) D273_29 ?_
  refine s_Pf (ci := 8) (r := ("WordWright$Solver", kT8, 11)) rfl (show 4 < 11 from by decide) rfl (Or.inr ⟨rfl, wd308, rfl, rfl⟩) (Or.inl rfl) rfl (by decide) D273_31 ?_
  refine s_Al gk0 (Or.inr ⟨0, D273_34, rfl⟩) ?_
  refine s_bi D273_35 kc_b_24 (by decide) ?_
  refine s_Nwa (t := 0) rfl (q_newa (at_ := .int) (Or.inl rfl)) (fun ht _ => ht _ wd91) D273_37 ?_
  refine s_Pf (ci := 8) (r := ("WordWright$Solver", kT8, 11)) rfl (show 5 < 11 from by decide) rfl (Or.inr ⟨rfl, wd309, rfl, rfl⟩) (Or.inl rfl) rfl (by decide) D273_39 ?_
  refine s_Al gk0 (Or.inr ⟨0, D273_42, rfl⟩) ?_
  refine s_ic D273_43 kc_i_4 (by decide) ?_
  refine s_Nwa (t := 0) rfl (q_newa (at_ := .int) (Or.inl rfl)) (fun ht _ => ht _ wd91) D273_44 ?_
  refine s_Pf (ci := 8) (r := ("WordWright$Solver", kT8, 11)) rfl (show 6 < 11 from by decide) rfl (Or.inr ⟨rfl, wd310, rfl, rfl⟩) (Or.inl rfl) rfl (by decide) D273_46 ?_
  refine s_Al gk0 (Or.inr ⟨0, D273_49, rfl⟩) ?_
  refine s_bi D273_50 kc_b_8 (by decide) ?_
  refine s_Nwa (t := 0) rfl (q_newa (at_ := .int) (Or.inl rfl)) (fun ht _ => ht _ wd91) D273_52 ?_
  refine s_Pf (ci := 8) (r := ("WordWright$Solver", kT8, 11)) rfl (show 7 < 11 from by decide) rfl (Or.inr ⟨rfl, wd311, rfl, rfl⟩) (Or.inl rfl) rfl (by decide) D273_54 ?_
  refine s_Al gk0 (Or.inr ⟨0, D273_57, rfl⟩) ?_
  refine s_bi D273_58 kc_b_12 (by decide) ?_
  refine s_Nwa (t := 0) rfl (q_newa (at_ := .int) (Or.inl rfl)) (fun ht _ => ht _ wd91) D273_60 ?_
  refine s_Pf (ci := 8) (r := ("WordWright$Solver", kT8, 11)) rfl (show 9 < 11 from by decide) rfl (Or.inr ⟨rfl, wd313, rfl, rfl⟩) (Or.inl rfl) rfl (by decide) D273_62 ?_
  refine s_Al gk0 (Or.inr ⟨0, D273_65, rfl⟩) ?_
  refine s_ic D273_66 kc_i_4 (by decide) ?_
  refine s_Nwa (t := 0) rfl (q_newa (at_ := .int) (Or.inl rfl)) (fun ht _ => ht _ wd91) D273_67 ?_
  refine s_Pf (ci := 8) (r := ("WordWright$Solver", kT8, 11)) rfl (show 10 < 11 from by decide) rfl (Or.inr ⟨rfl, wd314, rfl, rfl⟩) (Or.inl rfl) rfl (by decide) D273_69 ?_
  exact s_Rv rfl D273_72.1
theorem D274_0 : rDec M274 0 (.iconst 0) 1 1 := ⟨by decide +kernel, rfl⟩
theorem D274_1 : rDec M274 1 (.istore_n 1) 1 2 := ⟨by decide +kernel, rfl⟩
theorem D274_2 : rDec M274 2 (.iload_n 1) 1 3 := ⟨by decide +kernel, rfl⟩
theorem D274_3 : rDec M274 3 (.iconst 4) 1 4 := ⟨by decide +kernel, rfl⟩
theorem D274_4 : rDec M274 4 (.if_icmp .ge 29) 3 7 := ⟨by decide +kernel, rfl⟩
theorem D274_7 : rDec M274 7 (.aload_n 0) 1 8 := ⟨by decide +kernel, rfl⟩
theorem D274_8 : rDec M274 8 (.getfield 15) 3 11 := ⟨by decide +kernel, rfl⟩
theorem D274_11 : rDec M274 11 (.iload_n 1) 1 12 := ⟨by decide +kernel, rfl⟩
theorem D274_12 : rDec M274 12 (.iconst 3) 1 13 := ⟨by decide +kernel, rfl⟩
theorem D274_13 : rDec M274 13 (.imul) 1 14 := ⟨by decide +kernel, rfl⟩
theorem D274_14 : rDec M274 14 (.aload_n 0) 1 15 := ⟨by decide +kernel, rfl⟩
theorem D274_15 : rDec M274 15 (.getfield 18) 3 18 := ⟨by decide +kernel, rfl⟩
theorem D274_18 : rDec M274 18 (.iload_n 1) 1 19 := ⟨by decide +kernel, rfl⟩
theorem D274_19 : rDec M274 19 (.iaload) 1 20 := ⟨by decide +kernel, rfl⟩
theorem D274_20 : rDec M274 20 (.iadd) 1 21 := ⟨by decide +kernel, rfl⟩
theorem D274_21 : rDec M274 21 (.iaload) 1 22 := ⟨by decide +kernel, rfl⟩
theorem D274_22 : rDec M274 22 (.ifCond .ne 5) 3 25 := ⟨by decide +kernel, rfl⟩
theorem D274_25 : rDec M274 25 (.iconst 0) 1 26 := ⟨by decide +kernel, rfl⟩
theorem D274_26 : rDec M274 26 (.ireturn) 1 27 := ⟨by decide +kernel, rfl⟩
theorem D274_27 : rDec M274 27 (.iinc 1 1) 3 30 := ⟨by decide +kernel, rfl⟩
theorem D274_30 : rDec M274 30 (.goto (-28)) 3 33 := ⟨by decide +kernel, rfl⟩
theorem D274_33 : rDec M274 33 (.iconst 1) 1 34 := ⟨by decide +kernel, rfl⟩
theorem D274_34 : rDec M274 34 (.ireturn) 1 35 := ⟨by decide +kernel, rfl⟩
theorem P274_33 : rSnd lab M274 33 B274_33 := by
  refine s_ic D274_33 kc_i_1 (by decide) ?_
  exact s_Ri (Or.inr ⟨rfl, by decide⟩) D274_34.1
theorem P274_27 : rSnd lab M274 27 B274_27 := by
  refine s_Inc gk1 sk1 (show 1 < 2 from by decide) kc_i_1 D274_27 ?_
  exact s_Go (pc' := 2) D274_30.1 (by decide) (s_Jb rfl)
theorem P274_2 : rSnd lab M274 2 B274_2 := by
  refine s_Il gk1 (Or.inr ⟨1, D274_2, rfl⟩) ?_
  refine s_ic D274_3 kc_i_4 (by decide) ?_
  refine s_Ic c_ge (i_ge (tg := 33) (by decide)) D274_4.1 P274_33 (?_ : rSnd _ _ 7 _)
  refine s_Al gk0 (Or.inr ⟨0, D274_7, rfl⟩) ?_
  refine s_Gf (ci := 8) (r := ("WordWright$Solver", kT8, 11)) rfl (show 2 < 11 from by decide) rfl (Or.inl wd306) (Or.inl rfl) rfl D274_8 ?_
  refine s_Il gk1 (Or.inr ⟨1, D274_11, rfl⟩) ?_
  refine s_ic D274_12 kc_i_3 (by decide) ?_
  refine s_Bin q_imul n_mul rG2_x rE2_x D274_13 ?_
  refine s_Al gk0 (Or.inr ⟨0, D274_14, rfl⟩) ?_
  refine s_Gf (ci := 8) (r := ("WordWright$Solver", kT8, 11)) rfl (show 3 < 11 from by decide) rfl (Or.inl wd307) (Or.inl rfl) rfl D274_15 ?_
  refine s_Il gk1 (Or.inr ⟨1, D274_18, rfl⟩) ?_
  refine s_Ial D274_19 ?_
  refine s_Bin q_iadd n_add rG2_x e_add D274_20 ?_
  refine s_Ial D274_21 ?_
  refine s_If c_ne (fun _ => rfl) (fun _ _ => rfl) (b_ne (tg := 27) (by decide)) D274_22.1 P274_27 (?_ : rSnd _ _ 25 _)
  refine s_ic D274_25 kc_i_0 (by decide) ?_
  exact s_Ri (Or.inr ⟨rfl, by decide⟩) D274_26.1
theorem P274_0 : rSnd lab M274 0 B274_0 := by
  refine s_Ent ?_
  refine s_ic D274_0 kc_i_0 (by decide) ?_
  refine s_Is sk1 (show 1 < 2 from by decide) (Or.inr ⟨1, D274_1, rfl⟩) ?_
  exact P274_2
theorem D275_0 : rDec M275 0 (.iconst 0) 1 1 := ⟨by decide +kernel, rfl⟩
theorem D275_1 : rDec M275 1 (.istore_n 2) 1 2 := ⟨by decide +kernel, rfl⟩
theorem D275_2 : rDec M275 2 (.iload_n 2) 1 3 := ⟨by decide +kernel, rfl⟩
theorem D275_3 : rDec M275 3 (.aload_n 0) 1 4 := ⟨by decide +kernel, rfl⟩
theorem D275_4 : rDec M275 4 (.getfield 135) 3 7 := ⟨by decide +kernel, rfl⟩
theorem D275_7 : rDec M275 7 (.if_icmp .ge 21) 3 10 := ⟨by decide +kernel, rfl⟩
theorem D275_10 : rDec M275 10 (.aload_n 0) 1 11 := ⟨by decide +kernel, rfl⟩
theorem D275_11 : rDec M275 11 (.getfield 30) 3 14 := ⟨by decide +kernel, rfl⟩
theorem D275_14 : rDec M275 14 (.iload_n 2) 1 15 := ⟨by decide +kernel, rfl⟩
theorem D275_15 : rDec M275 15 (.iaload) 1 16 := ⟨by decide +kernel, rfl⟩
theorem D275_16 : rDec M275 16 (.iload_n 1) 1 17 := ⟨by decide +kernel, rfl⟩
theorem D275_17 : rDec M275 17 (.if_icmp .ne 5) 3 20 := ⟨by decide +kernel, rfl⟩
theorem D275_22 : rDec M275 22 (.iinc 2 1) 3 25 := ⟨by decide +kernel, rfl⟩
theorem D275_25 : rDec M275 25 (.goto (-23)) 3 28 := ⟨by decide +kernel, rfl⟩
theorem D275_28 : rDec M275 28 (.iconst 0) 1 29 := ⟨by decide +kernel, rfl⟩
theorem D275_29 : rDec M275 29 (.ireturn) 1 30 := ⟨by decide +kernel, rfl⟩
theorem P275_28 : rSnd lab M275 28 B275_28 := by
  refine s_ic D275_28 kc_i_0 (by decide) ?_
  exact s_Ri (Or.inr ⟨rfl, by decide⟩) D275_29.1
theorem P275_22 : rSnd lab M275 22 B275_22 := by
  refine s_Inc gk2 sk2 (show 2 < 3 from by decide) kc_i_1 D275_22 ?_
  exact s_Go (pc' := 2) D275_25.1 (by decide) (s_Jb rfl)
theorem P275_2 : rSnd lab M275 2 B275_2 := by
  refine s_Il gk2 (Or.inr ⟨2, D275_2, rfl⟩) ?_
  refine s_Al gk0 (Or.inr ⟨0, D275_3, rfl⟩) ?_
  refine s_Gf (ci := 8) (r := ("WordWright$Solver", kT8, 11)) rfl (show 8 < 11 from by decide) rfl (Or.inl wd312) (Or.inl rfl) rfl D275_4 ?_
  refine s_Ic c_ge (i_ge (tg := 28) (by decide)) D275_7.1 P275_28 (?_ : rSnd _ _ 10 _)
  refine s_Al gk0 (Or.inr ⟨0, D275_10, rfl⟩) ?_
  refine s_Gf (ci := 8) (r := ("WordWright$Solver", kT8, 11)) rfl (show 7 < 11 from by decide) rfl (Or.inl wd311) (Or.inl rfl) rfl D275_11 ?_
  refine s_Il gk2 (Or.inr ⟨2, D275_14, rfl⟩) ?_
  refine s_Ial D275_15 ?_
  refine s_Il gk1 (Or.inr ⟨1, D275_16, rfl⟩) ?_
  refine s_Ic c_ne (i_ne (tg := 22) (by decide)) D275_17.1 P275_22 (?_ : rSnd _ _ 20 _)
  exact rSnd_none
theorem P275_0 : rSnd lab M275 0 B275_0 := by
  refine s_Ent ?_
  refine s_ic D275_0 kc_i_0 (by decide) ?_
  refine s_Is sk2 (show 2 < 3 from by decide) (Or.inr ⟨2, D275_1, rfl⟩) ?_
  exact P275_2
theorem D276_0 : rDec M276 0 (.iconst 0) 1 1 := ⟨by decide +kernel, rfl⟩
theorem D276_1 : rDec M276 1 (.istore_n 2) 1 2 := ⟨by decide +kernel, rfl⟩
theorem D276_2 : rDec M276 2 (.iload_n 2) 1 3 := ⟨by decide +kernel, rfl⟩
theorem D276_3 : rDec M276 3 (.iconst 4) 1 4 := ⟨by decide +kernel, rfl⟩
theorem D276_4 : rDec M276 4 (.if_icmp .ge 60) 3 7 := ⟨by decide +kernel, rfl⟩
theorem D276_7 : rDec M276 7 (.aload_n 0) 1 8 := ⟨by decide +kernel, rfl⟩
theorem D276_8 : rDec M276 8 (.getfield 27) 3 11 := ⟨by decide +kernel, rfl⟩
theorem D276_11 : rDec M276 11 (.iload_n 2) 1 12 := ⟨by decide +kernel, rfl⟩
theorem D276_12 : rDec M276 12 (.iaload) 1 13 := ⟨by decide +kernel, rfl⟩
theorem D276_13 : rDec M276 13 (.iload_n 1) 1 14 := ⟨by decide +kernel, rfl⟩
theorem D276_14 : rDec M276 14 (.if_icmp .ne 44) 3 17 := ⟨by decide +kernel, rfl⟩
theorem D276_17 : rDec M276 17 (.aload_n 0) 1 18 := ⟨by decide +kernel, rfl⟩
theorem D276_18 : rDec M276 18 (.iload_n 2) 1 19 := ⟨by decide +kernel, rfl⟩
theorem D276_19 : rDec M276 19 (.invokevirtual 147) 3 22 := ⟨by decide +kernel, rfl⟩
theorem D276_22 : rDec M276 22 (.iconst 1) 1 23 := ⟨by decide +kernel, rfl⟩
theorem D276_23 : rDec M276 23 (.iconst 2) 1 24 := ⟨by decide +kernel, rfl⟩
theorem D276_24 : rDec M276 24 (.aload_n 0) 1 25 := ⟨by decide +kernel, rfl⟩
theorem D276_25 : rDec M276 25 (.getfield 18) 3 28 := ⟨by decide +kernel, rfl⟩
theorem D276_28 : rDec M276 28 (.iload_n 2) 1 29 := ⟨by decide +kernel, rfl⟩
theorem D276_29 : rDec M276 29 (.iaload) 1 30 := ⟨by decide +kernel, rfl⟩
theorem D276_30 : rDec M276 30 (.imul) 1 31 := ⟨by decide +kernel, rfl⟩
theorem D276_31 : rDec M276 31 (.ishl) 1 32 := ⟨by decide +kernel, rfl⟩
theorem D276_32 : rDec M276 32 (.isub) 1 33 := ⟨by decide +kernel, rfl⟩
theorem D276_33 : rDec M276 33 (.istore_n 3) 1 34 := ⟨by decide +kernel, rfl⟩
theorem D276_34 : rDec M276 34 (.aload_n 0) 1 35 := ⟨by decide +kernel, rfl⟩
theorem D276_35 : rDec M276 35 (.getfield 15) 3 38 := ⟨by decide +kernel, rfl⟩
theorem D276_38 : rDec M276 38 (.iload_n 2) 1 39 := ⟨by decide +kernel, rfl⟩
theorem D276_39 : rDec M276 39 (.iconst 3) 1 40 := ⟨by decide +kernel, rfl⟩
theorem D276_40 : rDec M276 40 (.imul) 1 41 := ⟨by decide +kernel, rfl⟩
theorem D276_41 : rDec M276 41 (.aload_n 0) 1 42 := ⟨by decide +kernel, rfl⟩
theorem D276_42 : rDec M276 42 (.getfield 18) 3 45 := ⟨by decide +kernel, rfl⟩
theorem D276_45 : rDec M276 45 (.iload_n 2) 1 46 := ⟨by decide +kernel, rfl⟩
theorem D276_46 : rDec M276 46 (.iaload) 1 47 := ⟨by decide +kernel, rfl⟩
theorem D276_47 : rDec M276 47 (.iadd) 1 48 := ⟨by decide +kernel, rfl⟩
theorem D276_48 : rDec M276 48 (.iaload) 1 49 := ⟨by decide +kernel, rfl⟩
theorem D276_49 : rDec M276 49 (.iload_n 3) 1 50 := ⟨by decide +kernel, rfl⟩
theorem D276_50 : rDec M276 50 (.ishr) 1 51 := ⟨by decide +kernel, rfl⟩
theorem D276_51 : rDec M276 51 (.iconst 1) 1 52 := ⟨by decide +kernel, rfl⟩
theorem D276_52 : rDec M276 52 (.iand) 1 53 := ⟨by decide +kernel, rfl⟩
theorem D276_53 : rDec M276 53 (.ifCond .ne 5) 3 56 := ⟨by decide +kernel, rfl⟩
theorem D276_58 : rDec M276 58 (.iinc 2 1) 3 61 := ⟨by decide +kernel, rfl⟩
theorem D276_61 : rDec M276 61 (.goto (-59)) 3 64 := ⟨by decide +kernel, rfl⟩
theorem D276_64 : rDec M276 64 (.iconst 1) 1 65 := ⟨by decide +kernel, rfl⟩
theorem D276_65 : rDec M276 65 (.ireturn) 1 66 := ⟨by decide +kernel, rfl⟩
theorem P276_64 : rSnd lab M276 64 B276_64 := by
  refine s_ic D276_64 kc_i_1 (by decide) ?_
  exact s_Ri (Or.inr ⟨rfl, by decide⟩) D276_65.1
theorem P276_58 : rSnd lab M276 58 B276_58 := by
  refine s_Inc gk2 sk2 (show 2 < 4 from by decide) kc_i_1 D276_58 ?_
  exact s_Go (pc' := 2) D276_61.1 (by decide) (s_Jb rfl)
theorem P276_2 : rSnd lab M276 2 B276_2 := by
  refine s_Il gk2 (Or.inr ⟨2, D276_2, rfl⟩) ?_
  refine s_ic D276_3 kc_i_4 (by decide) ?_
  refine s_Ic c_ge (i_ge (tg := 64) (by decide)) D276_4.1 P276_64 (?_ : rSnd _ _ 7 _)
  refine s_Al gk0 (Or.inr ⟨0, D276_7, rfl⟩) ?_
  refine s_Gf (ci := 8) (r := ("WordWright$Solver", kT8, 11)) rfl (show 6 < 11 from by decide) rfl (Or.inl wd310) (Or.inl rfl) rfl D276_8 ?_
  refine s_Il gk2 (Or.inr ⟨2, D276_11, rfl⟩) ?_
  refine s_Ial D276_12 ?_
  refine s_Il gk1 (Or.inr ⟨1, D276_13, rfl⟩) ?_
  refine s_Ic c_ne (i_ne (tg := 58) (by decide)) D276_14.1 P276_58 (?_ : rSnd _ _ 17 _)
  refine s_Al gk0 (Or.inr ⟨0, D276_17, rfl⟩) ?_
  refine s_Il gk2 (Or.inr ⟨2, D276_18, rfl⟩) ?_
  refine s_Cv (ln := 3) (kd := 18) (C := "WordWright$Solver") (by decide) (by decide +kernel) rfl (l_V rfl ok282 rfl wd570 wd572 ws15 D276_19.1) (?_ : rSnd _ _ 22 _)
  refine s_ic D276_22 kc_i_1 (by decide) ?_
  refine s_ic D276_23 kc_i_2 (by decide) ?_
  refine s_Al gk0 (Or.inr ⟨0, D276_24, rfl⟩) ?_
  refine s_Gf (ci := 8) (r := ("WordWright$Solver", kT8, 11)) rfl (show 3 < 11 from by decide) rfl (Or.inl wd307) (Or.inl rfl) rfl D276_25 ?_
  refine s_Il gk2 (Or.inr ⟨2, D276_28, rfl⟩) ?_
  refine s_Ial D276_29 ?_
  refine s_Bin q_imul n_mul rG2_x rE2_x D276_30 ?_
  refine s_Bin q_ishl n_shl rG2_x rE2_x D276_31 ?_
  refine s_Bin q_isub n_sub rG2_x rE2_x D276_32 ?_
  refine s_Is sk3 (show 3 < 4 from by decide) (Or.inr ⟨3, D276_33, rfl⟩) ?_
  refine s_Al gk0 (Or.inr ⟨0, D276_34, rfl⟩) ?_
  refine s_Gf (ci := 8) (r := ("WordWright$Solver", kT8, 11)) rfl (show 2 < 11 from by decide) rfl (Or.inl wd306) (Or.inl rfl) rfl D276_35 ?_
  refine s_Il gk2 (Or.inr ⟨2, D276_38, rfl⟩) ?_
  refine s_ic D276_39 kc_i_3 (by decide) ?_
  refine s_Bin q_imul n_mul rG2_x rE2_x D276_40 ?_
  refine s_Al gk0 (Or.inr ⟨0, D276_41, rfl⟩) ?_
  refine s_Gf (ci := 8) (r := ("WordWright$Solver", kT8, 11)) rfl (show 3 < 11 from by decide) rfl (Or.inl wd307) (Or.inl rfl) rfl D276_42 ?_
  refine s_Il gk2 (Or.inr ⟨2, D276_45, rfl⟩) ?_
  refine s_Ial D276_46 ?_
  refine s_Bin q_iadd n_add rG2_x e_add D276_47 ?_
  refine s_Ial D276_48 ?_
  refine s_Il gk3 (Or.inr ⟨3, D276_49, rfl⟩) ?_
  refine s_Bin q_ishr n_shr g_shr rE2_x D276_50 ?_
  refine s_ic D276_51 kc_i_1 (by decide) ?_
  refine s_Bin q_iand n_and g_and rE2_x D276_52 ?_
  refine s_If c_ne (fun _ => rfl) (fun _ _ => rfl) (b_ne (tg := 58) (by decide)) D276_53.1 P276_58 (?_ : rSnd _ _ 56 _)
  exact rSnd_none
theorem P276_0 : rSnd lab M276 0 B276_0 := by
  refine s_Ent ?_
  refine s_ic D276_0 kc_i_0 (by decide) ?_
  refine s_Is sk2 (show 2 < 4 from by decide) (Or.inr ⟨2, D276_1, rfl⟩) ?_
  exact P276_2
theorem D277_0 : rDec M277 0 (.iconst 0) 1 1 := ⟨by decide +kernel, rfl⟩
theorem D277_1 : rDec M277 1 (.istore_n 2) 1 2 := ⟨by decide +kernel, rfl⟩
theorem D277_2 : rDec M277 2 (.iload_n 2) 1 3 := ⟨by decide +kernel, rfl⟩
theorem D277_3 : rDec M277 3 (.iconst 4) 1 4 := ⟨by decide +kernel, rfl⟩
theorem D277_4 : rDec M277 4 (.if_icmp .ge 30) 3 7 := ⟨by decide +kernel, rfl⟩
theorem D277_7 : rDec M277 7 (.aload_n 0) 1 8 := ⟨by decide +kernel, rfl⟩
theorem D277_8 : rDec M277 8 (.getfield 27) 3 11 := ⟨by decide +kernel, rfl⟩
theorem D277_11 : rDec M277 11 (.iload_n 2) 1 12 := ⟨by decide +kernel, rfl⟩
theorem D277_12 : rDec M277 12 (.iaload) 1 13 := ⟨by decide +kernel, rfl⟩
theorem D277_13 : rDec M277 13 (.iload_n 1) 1 14 := ⟨by decide +kernel, rfl⟩
theorem D277_14 : rDec M277 14 (.if_icmp .ne 14) 3 17 := ⟨by decide +kernel, rfl⟩
theorem D277_17 : rDec M277 17 (.aload_n 0) 1 18 := ⟨by decide +kernel, rfl⟩
theorem D277_18 : rDec M277 18 (.getfield 36) 3 21 := ⟨by decide +kernel, rfl⟩
theorem D277_21 : rDec M277 21 (.iload_n 2) 1 22 := ⟨by decide +kernel, rfl⟩
theorem D277_22 : rDec M277 22 (.aload_n 0) 1 23 := ⟨by decide +kernel, rfl⟩
theorem D277_23 : rDec M277 23 (.iload_n 2) 1 24 := ⟨by decide +kernel, rfl⟩
theorem D277_24 : rDec M277 24 (.invokevirtual 147) 3 27 := ⟨by decide +kernel, rfl⟩
theorem D277_27 : rDec M277 27 (.iastore) 1 28 := ⟨by decide +kernel, rfl⟩
theorem D277_28 : rDec M277 28 (.iinc 2 1) 3 31 := ⟨by decide +kernel, rfl⟩
theorem D277_31 : rDec M277 31 (.goto (-29)) 3 34 := ⟨by decide +kernel, rfl⟩
theorem D277_34 : rDec M277 34 (.return_) 1 35 := ⟨by decide +kernel, rfl⟩
theorem P277_34 : rSnd lab M277 34 B277_34 := by
  exact s_Rv rfl D277_34.1
theorem P277_28 : rSnd lab M277 28 B277_28 := by
  refine s_Inc gk2 sk2 (show 2 < 3 from by decide) kc_i_1 D277_28 ?_
  exact s_Go (pc' := 2) D277_31.1 (by decide) (s_Jb rfl)
theorem P277_2 : rSnd lab M277 2 B277_2 := by
  refine s_Il gk2 (Or.inr ⟨2, D277_2, rfl⟩) ?_
  refine s_ic D277_3 kc_i_4 (by decide) ?_
  refine s_Ic c_ge (i_ge (tg := 34) (by decide)) D277_4.1 P277_34 (?_ : rSnd _ _ 7 _)
  refine s_Al gk0 (Or.inr ⟨0, D277_7, rfl⟩) ?_
  refine s_Gf (ci := 8) (r := ("WordWright$Solver", kT8, 11)) rfl (show 6 < 11 from by decide) rfl (Or.inl wd310) (Or.inl rfl) rfl D277_8 ?_
  refine s_Il gk2 (Or.inr ⟨2, D277_11, rfl⟩) ?_
  refine s_Ial D277_12 ?_
  refine s_Il gk1 (Or.inr ⟨1, D277_13, rfl⟩) ?_
  refine s_Ic c_ne (i_ne (tg := 28) (by decide)) D277_14.1 P277_28 (?_ : rSnd _ _ 17 _)
  refine s_Al gk0 (Or.inr ⟨0, D277_17, rfl⟩) ?_
  refine s_Gf (ci := 8) (r := ("WordWright$Solver", kT8, 11)) rfl (show 10 < 11 from by decide) rfl (Or.inl wd314) (Or.inl rfl) rfl D277_18 ?_
  refine s_Il gk2 (Or.inr ⟨2, D277_21, rfl⟩) ?_
  refine s_Al gk0 (Or.inr ⟨0, D277_22, rfl⟩) ?_
  refine s_Il gk2 (Or.inr ⟨2, D277_23, rfl⟩) ?_
  refine s_Cv (ln := 3) (kd := 18) (C := "WordWright$Solver") (by decide) (by decide +kernel) rfl (l_V rfl ok282 rfl wd570 wd572 ws15 D277_24.1) (?_ : rSnd _ _ 27 _)
  refine s_Ast (t := 0) rfl q_iast rfl (by decide) D277_27 ?_
  exact P277_28
theorem P277_0 : rSnd lab M277 0 B277_0 := by
  refine s_Ent ?_
  refine s_ic D277_0 kc_i_0 (by decide) ?_
  refine s_Is sk2 (show 2 < 3 from by decide) (Or.inr ⟨2, D277_1, rfl⟩) ?_
  exact P277_2
theorem D278_0 : rDec M278 0 (.aload_n 0) 1 1 := ⟨by decide +kernel, rfl⟩
theorem D278_1 : rDec M278 1 (.iconst 0) 1 2 := ⟨by decide +kernel, rfl⟩
theorem D278_2 : rDec M278 2 (.putfield 135) 3 5 := ⟨by decide +kernel, rfl⟩
theorem D278_5 : rDec M278 5 (.iconst 0) 1 6 := ⟨by decide +kernel, rfl⟩
theorem D278_6 : rDec M278 6 (.istore_n 2) 1 7 := ⟨by decide +kernel, rfl⟩
theorem D278_7 : rDec M278 7 (.iload_n 2) 1 8 := ⟨by decide +kernel, rfl⟩
theorem D278_8 : rDec M278 8 (.iconst 4) 1 9 := ⟨by decide +kernel, rfl⟩
theorem D278_9 : rDec M278 9 (.if_icmp .ge 86) 3 12 := ⟨by decide +kernel, rfl⟩
theorem D278_12 : rDec M278 12 (.iconst 0) 1 13 := ⟨by decide +kernel, rfl⟩
theorem D278_13 : rDec M278 13 (.istore_n 3) 1 14 := ⟨by decide +kernel, rfl⟩
theorem D278_14 : rDec M278 14 (.aload_n 0) 1 15 := ⟨by decide +kernel, rfl⟩
theorem D278_15 : rDec M278 15 (.getfield 27) 3 18 := ⟨by decide +kernel, rfl⟩
theorem D278_18 : rDec M278 18 (.iload_n 2) 1 19 := ⟨by decide +kernel, rfl⟩
theorem D278_19 : rDec M278 19 (.iaload) 1 20 := ⟨by decide +kernel, rfl⟩
theorem D278_20 : rDec M278 20 (.iload_n 1) 1 21 := ⟨by decide +kernel, rfl⟩
theorem D278_21 : rDec M278 21 (.if_icmp .ne 68) 3 24 := ⟨by decide +kernel, rfl⟩
theorem D278_24 : rDec M278 24 (.iload_n 3) 1 25 := ⟨by decide +kernel, rfl⟩
theorem D278_25 : rDec M278 25 (.aload_n 0) 1 26 := ⟨by decide +kernel, rfl⟩
theorem D278_26 : rDec M278 26 (.getfield 18) 3 29 := ⟨by decide +kernel, rfl⟩
theorem D278_29 : rDec M278 29 (.iload_n 2) 1 30 := ⟨by decide +kernel, rfl⟩
theorem D278_30 : rDec M278 30 (.iaload) 1 31 := ⟨by decide +kernel, rfl⟩
theorem D278_31 : rDec M278 31 (.if_icmp .ge 58) 3 34 := ⟨by decide +kernel, rfl⟩
theorem D278_34 : rDec M278 34 (.aload_n 0) 1 35 := ⟨by decide +kernel, rfl⟩
theorem D278_35 : rDec M278 35 (.getfield 21) 3 38 := ⟨by decide +kernel, rfl⟩
theorem D278_38 : rDec M278 38 (.iload_n 2) 1 39 := ⟨by decide +kernel, rfl⟩
theorem D278_39 : rDec M278 39 (.iconst 2) 1 40 := ⟨by decide +kernel, rfl⟩
theorem D278_40 : rDec M278 40 (.imul) 1 41 := ⟨by decide +kernel, rfl⟩
theorem D278_41 : rDec M278 41 (.iload_n 3) 1 42 := ⟨by decide +kernel, rfl⟩
theorem D278_42 : rDec M278 42 (.iadd) 1 43 := ⟨by decide +kernel, rfl⟩
theorem D278_43 : rDec M278 43 (.iaload) 1 44 := ⟨by decide +kernel, rfl⟩
theorem D278_44 : rDec M278 44 (.istore 4) 2 46 := ⟨by decide +kernel, rfl⟩
theorem D278_46 : rDec M278 46 (.iload 4) 2 48 := ⟨by decide +kernel, rfl⟩
theorem D278_48 : rDec M278 48 (.bipush 8) 2 50 := ⟨by decide +kernel, rfl⟩
theorem D278_50 : rDec M278 50 (.if_icmp .ge 33) 3 53 := ⟨by decide +kernel, rfl⟩
theorem D278_53 : rDec M278 53 (.aload_n 0) 1 54 := ⟨by decide +kernel, rfl⟩
theorem D278_54 : rDec M278 54 (.iload 4) 2 56 := ⟨by decide +kernel, rfl⟩
theorem D278_56 : rDec M278 56 (.invokevirtual 144) 3 59 := ⟨by decide +kernel, rfl⟩
theorem D278_59 : rDec M278 59 (.ifCond .ne 24) 3 62 := ⟨by decide +kernel, rfl⟩
theorem D278_62 : rDec M278 62 (.aload_n 0) 1 63 := ⟨by decide +kernel, rfl⟩
theorem D278_63 : rDec M278 63 (.getfield 30) 3 66 := ⟨by decide +kernel, rfl⟩
theorem D278_66 : rDec M278 66 (.aload_n 0) 1 67 := ⟨by decide +kernel, rfl⟩
theorem D278_67 : rDec M278 67 (.getfield 135) 3 70 := ⟨by decide +kernel, rfl⟩
theorem D278_70 : rDec M278 70 (.iload 4) 2 72 := ⟨by decide +kernel, rfl⟩
theorem D278_72 : rDec M278 72 (.iastore) 1 73 := ⟨by decide +kernel, rfl⟩
theorem D278_73 : rDec M278 73 (.aload_n 0) 1 74 := ⟨by decide +kernel, rfl⟩
theorem D278_74 : rDec M278 74 (.dup) 1 75 := ⟨by decide +kernel, rfl⟩
theorem D278_75 : rDec M278 75 (.getfield 135) 3 78 := ⟨by decide +kernel, rfl⟩
theorem D278_78 : rDec M278 78 (.iconst 1) 1 79 := ⟨by decide +kernel, rfl⟩
theorem D278_79 : rDec M278 79 (.iadd) 1 80 := ⟨by decide +kernel, rfl⟩
theorem D278_80 : rDec M278 80 (.putfield 135) 3 83 := ⟨by decide +kernel, rfl⟩
theorem D278_83 : rDec M278 83 (.iinc 3 1) 3 86 := ⟨by decide +kernel, rfl⟩
theorem D278_86 : rDec M278 86 (.goto (-72)) 3 89 := ⟨by decide +kernel, rfl⟩
theorem D278_89 : rDec M278 89 (.iinc 2 1) 3 92 := ⟨by decide +kernel, rfl⟩
theorem D278_92 : rDec M278 92 (.goto (-85)) 3 95 := ⟨by decide +kernel, rfl⟩
theorem D278_95 : rDec M278 95 (.return_) 1 96 := ⟨by decide +kernel, rfl⟩
theorem P278_95 : rSnd lab M278 95 B278_95 := by
  exact s_Rv rfl D278_95.1
theorem P278_89 : rSnd lab M278 89 B278_89 := by
  refine s_Inc gk2 sk2 (show 2 < 5 from by decide) kc_i_1 D278_89 ?_
  exact s_Go (pc' := 7) D278_92.1 (by decide) (s_Jb rfl)
theorem P278_83 : rSnd lab M278 83 B278_83 := by
  refine s_Inc gk3 sk3 (show 3 < 5 from by decide) kc_i_1 D278_83 ?_
  exact s_Go (pc' := 14) D278_86.1 (by decide) (s_Jb rfl)
theorem P278_14 : rSnd lab M278 14 B278_14 := by
  refine s_Al gk0 (Or.inr ⟨0, D278_14, rfl⟩) ?_
  refine s_Gf (ci := 8) (r := ("WordWright$Solver", kT8, 11)) rfl (show 6 < 11 from by decide) rfl (Or.inl wd310) (Or.inl rfl) rfl D278_15 ?_
  refine s_Il gk2 (Or.inr ⟨2, D278_18, rfl⟩) ?_
  refine s_Ial D278_19 ?_
  refine s_Il gk1 (Or.inr ⟨1, D278_20, rfl⟩) ?_
  refine s_Ic c_ne (i_ne (tg := 89) (by decide)) D278_21.1 P278_89 (?_ : rSnd _ _ 24 _)
  refine s_Il gk3 (Or.inr ⟨3, D278_24, rfl⟩) ?_
  refine s_Al gk0 (Or.inr ⟨0, D278_25, rfl⟩) ?_
  refine s_Gf (ci := 8) (r := ("WordWright$Solver", kT8, 11)) rfl (show 3 < 11 from by decide) rfl (Or.inl wd307) (Or.inl rfl) rfl D278_26 ?_
  refine s_Il gk2 (Or.inr ⟨2, D278_29, rfl⟩) ?_
  refine s_Ial D278_30 ?_
  refine s_Ic c_ge (i_ge (tg := 89) (by decide)) D278_31.1 P278_89 (?_ : rSnd _ _ 34 _)
  refine s_Al gk0 (Or.inr ⟨0, D278_34, rfl⟩) ?_
  refine s_Gf (ci := 8) (r := ("WordWright$Solver", kT8, 11)) rfl (show 4 < 11 from by decide) rfl (Or.inl wd308) (Or.inl rfl) rfl D278_35 ?_
  refine s_Il gk2 (Or.inr ⟨2, D278_38, rfl⟩) ?_
  refine s_ic D278_39 kc_i_2 (by decide) ?_
  refine s_Bin q_imul n_mul rG2_x rE2_x D278_40 ?_
  refine s_Il gk3 (Or.inr ⟨3, D278_41, rfl⟩) ?_
  refine s_Bin q_iadd n_add rG2_x e_add D278_42 ?_
  refine s_Ial D278_43 ?_
  refine s_Is sk4 (show 4 < 5 from by decide) (Or.inl D278_44) ?_
  refine s_Il gk4 (Or.inl D278_46) ?_
  refine s_bi D278_48 kc_b_8 (by decide) ?_
  refine s_Ic c_ge (i_ge (tg := 83) (by decide)) D278_50.1 P278_83 (?_ : rSnd _ _ 53 _)
  refine s_Al gk0 (Or.inr ⟨0, D278_53, rfl⟩) ?_
  refine s_Il gk4 (Or.inl D278_54) ?_
  refine s_Cv (ln := 3) (kd := 18) (C := "WordWright$Solver") (by decide) (by decide +kernel) rfl (l_V rfl ok275 rfl wd562 wd564 ws13 D278_56.1) (?_ : rSnd _ _ 59 _)
  refine s_If c_ne (fun _ => rfl) (fun _ _ => rfl) (b_ne (tg := 83) (by decide)) D278_59.1 P278_83 (?_ : rSnd _ _ 62 _)
  refine s_Al gk0 (Or.inr ⟨0, D278_62, rfl⟩) ?_
  refine s_Gf (ci := 8) (r := ("WordWright$Solver", kT8, 11)) rfl (show 7 < 11 from by decide) rfl (Or.inl wd311) (Or.inl rfl) rfl D278_63 ?_
  refine s_Al gk0 (Or.inr ⟨0, D278_66, rfl⟩) ?_
  refine s_Gf (ci := 8) (r := ("WordWright$Solver", kT8, 11)) rfl (show 8 < 11 from by decide) rfl (Or.inl wd312) (Or.inl rfl) rfl D278_67 ?_
  refine s_Il gk4 (Or.inl D278_70) ?_
  refine s_Ast (t := 0) rfl q_iast rfl (by decide) D278_72 ?_
  refine s_Al gk0 (Or.inr ⟨0, D278_73, rfl⟩) ?_
  refine s_Dup D278_74 ?_
  refine s_Gf (ci := 8) (r := ("WordWright$Solver", kT8, 11)) rfl (show 8 < 11 from by decide) rfl (Or.inl wd312) (Or.inl rfl) rfl D278_75 ?_
  refine s_ic D278_78 kc_i_1 (by decide) ?_
  refine s_Bin q_iadd n_add rG2_x e_add D278_79 ?_
  refine s_Pf (ci := 8) (r := ("WordWright$Solver", kT8, 11)) rfl (show 8 < 11 from by decide) rfl (Or.inl ⟨rfl, Or.inl wd312⟩) (Or.inl rfl) rfl (by decide) D278_80 ?_
  exact P278_83
theorem P278_7 : rSnd lab M278 7 B278_7 := by
  refine s_Il gk2 (Or.inr ⟨2, D278_7, rfl⟩) ?_
  refine s_ic D278_8 kc_i_4 (by decide) ?_
  refine s_Ic c_ge (i_ge (tg := 95) (by decide)) D278_9.1 P278_95 (?_ : rSnd _ _ 12 _)
  refine s_ic D278_12 kc_i_0 (by decide) ?_
  refine s_Is sk3 (show 3 < 5 from by decide) (Or.inr ⟨3, D278_13, rfl⟩) ?_
  exact P278_14
theorem P278_0 : rSnd lab M278 0 B278_0 := by
  refine s_Ent ?_
  refine s_Al gk0 (Or.inr ⟨0, D278_0, rfl⟩) ?_
  refine s_ic D278_1 kc_i_0 (by decide) ?_
  refine s_Pf (ci := 8) (r := ("WordWright$Solver", kT8, 11)) rfl (show 8 < 11 from by decide) rfl (Or.inl ⟨rfl, Or.inl wd312⟩) (Or.inl rfl) rfl (by decide) D278_2 ?_
  refine s_ic D278_5 kc_i_0 (by decide) ?_
  refine s_Is sk2 (show 2 < 5 from by decide) (Or.inr ⟨2, D278_6, rfl⟩) ?_
  exact P278_7
theorem D279_0 : rDec M279 0 (.iconst 0) 1 1 := ⟨by decide +kernel, rfl⟩
theorem D279_1 : rDec M279 1 (.istore_n 3) 1 2 := ⟨by decide +kernel, rfl⟩
theorem D279_2 : rDec M279 2 (.iload_n 3) 1 3 := ⟨by decide +kernel, rfl⟩
theorem D279_3 : rDec M279 3 (.aload_n 0) 1 4 := ⟨by decide +kernel, rfl⟩
theorem D279_4 : rDec M279 4 (.getfield 18) 3 7 := ⟨by decide +kernel, rfl⟩
theorem D279_7 : rDec M279 7 (.iload_n 1) 1 8 := ⟨by decide +kernel, rfl⟩
theorem D279_8 : rDec M279 8 (.iaload) 1 9 := ⟨by decide +kernel, rfl⟩
theorem D279_9 : rDec M279 9 (.if_icmp .ge 66) 3 12 := ⟨by decide +kernel, rfl⟩
theorem D279_12 : rDec M279 12 (.iconst 0) 1 13 := ⟨by decide +kernel, rfl⟩
theorem D279_13 : rDec M279 13 (.istore 4) 2 15 := ⟨by decide +kernel, rfl⟩
theorem D279_15 : rDec M279 15 (.iload 4) 2 17 := ⟨by decide +kernel, rfl⟩
theorem D279_17 : rDec M279 17 (.aload_n 0) 1 18 := ⟨by decide +kernel, rfl⟩
theorem D279_18 : rDec M279 18 (.getfield 18) 3 21 := ⟨by decide +kernel, rfl⟩
theorem D279_21 : rDec M279 21 (.iload_n 2) 1 22 := ⟨by decide +kernel, rfl⟩
theorem D279_22 : rDec M279 22 (.iaload) 1 23 := ⟨by decide +kernel, rfl⟩
theorem D279_23 : rDec M279 23 (.if_icmp .ge 46) 3 26 := ⟨by decide +kernel, rfl⟩
theorem D279_26 : rDec M279 26 (.aload_n 0) 1 27 := ⟨by decide +kernel, rfl⟩
theorem D279_27 : rDec M279 27 (.getfield 21) 3 30 := ⟨by decide +kernel, rfl⟩
theorem D279_30 : rDec M279 30 (.iload_n 1) 1 31 := ⟨by decide +kernel, rfl⟩
theorem D279_31 : rDec M279 31 (.iconst 2) 1 32 := ⟨by decide +kernel, rfl⟩
theorem D279_32 : rDec M279 32 (.imul) 1 33 := ⟨by decide +kernel, rfl⟩
theorem D279_33 : rDec M279 33 (.iload_n 3) 1 34 := ⟨by decide +kernel, rfl⟩
theorem D279_34 : rDec M279 34 (.iadd) 1 35 := ⟨by decide +kernel, rfl⟩
theorem D279_35 : rDec M279 35 (.iaload) 1 36 := ⟨by decide +kernel, rfl⟩
theorem D279_36 : rDec M279 36 (.istore 5) 2 38 := ⟨by decide +kernel, rfl⟩
theorem D279_38 : rDec M279 38 (.iload 5) 2 40 := ⟨by decide +kernel, rfl⟩
theorem D279_40 : rDec M279 40 (.bipush 8) 2 42 := ⟨by decide +kernel, rfl⟩
theorem D279_42 : rDec M279 42 (.if_icmp .ge 21) 3 45 := ⟨by decide +kernel, rfl⟩
theorem D279_45 : rDec M279 45 (.iload 5) 2 47 := ⟨by decide +kernel, rfl⟩
theorem D279_47 : rDec M279 47 (.aload_n 0) 1 48 := ⟨by decide +kernel, rfl⟩
theorem D279_48 : rDec M279 48 (.getfield 21) 3 51 := ⟨by decide +kernel, rfl⟩
theorem D279_51 : rDec M279 51 (.iload_n 2) 1 52 := ⟨by decide +kernel, rfl⟩
theorem D279_52 : rDec M279 52 (.iconst 2) 1 53 := ⟨by decide +kernel, rfl⟩
theorem D279_53 : rDec M279 53 (.imul) 1 54 := ⟨by decide +kernel, rfl⟩
theorem D279_54 : rDec M279 54 (.iload 4) 2 56 := ⟨by decide +kernel, rfl⟩
theorem D279_56 : rDec M279 56 (.iadd) 1 57 := ⟨by decide +kernel, rfl⟩
theorem D279_57 : rDec M279 57 (.iaload) 1 58 := ⟨by decide +kernel, rfl⟩
theorem D279_58 : rDec M279 58 (.if_icmp .ne 5) 3 61 := ⟨by decide +kernel, rfl⟩
theorem D279_63 : rDec M279 63 (.iinc 4 1) 3 66 := ⟨by decide +kernel, rfl⟩
theorem D279_66 : rDec M279 66 (.goto (-51)) 3 69 := ⟨by decide +kernel, rfl⟩
theorem D279_69 : rDec M279 69 (.iinc 3 1) 3 72 := ⟨by decide +kernel, rfl⟩
theorem D279_72 : rDec M279 72 (.goto (-70)) 3 75 := ⟨by decide +kernel, rfl⟩
theorem D279_75 : rDec M279 75 (.iconst 0) 1 76 := ⟨by decide +kernel, rfl⟩
theorem D279_76 : rDec M279 76 (.ireturn) 1 77 := ⟨by decide +kernel, rfl⟩
theorem P279_75 : rSnd lab M279 75 B279_75 := by
  refine s_ic D279_75 kc_i_0 (by decide) ?_
  exact s_Ri (Or.inr ⟨rfl, by decide⟩) D279_76.1
theorem P279_69 : rSnd lab M279 69 B279_69 := by
  refine s_Inc gk3 sk3 (show 3 < 6 from by decide) kc_i_1 D279_69 ?_
  exact s_Go (pc' := 2) D279_72.1 (by decide) (s_Jb rfl)
theorem P279_63 : rSnd lab M279 63 B279_63 := by
  refine s_Inc gk4 sk4 (show 4 < 6 from by decide) kc_i_1 D279_63 ?_
  exact s_Go (pc' := 15) D279_66.1 (by decide) (s_Jb rfl)
theorem P279_15 : rSnd lab M279 15 B279_15 := by
  refine s_Il gk4 (Or.inl D279_15) ?_
  refine s_Al gk0 (Or.inr ⟨0, D279_17, rfl⟩) ?_
  refine s_Gf (ci := 8) (r := ("WordWright$Solver", kT8, 11)) rfl (show 3 < 11 from by decide) rfl (Or.inl wd307) (Or.inl rfl) rfl D279_18 ?_
  refine s_Il gk2 (Or.inr ⟨2, D279_21, rfl⟩) ?_
  refine s_Ial D279_22 ?_
  refine s_Ic c_ge (i_ge (tg := 69) (by decide)) D279_23.1 P279_69 (?_ : rSnd _ _ 26 _)
  refine s_Al gk0 (Or.inr ⟨0, D279_26, rfl⟩) ?_
  refine s_Gf (ci := 8) (r := ("WordWright$Solver", kT8, 11)) rfl (show 4 < 11 from by decide) rfl (Or.inl wd308) (Or.inl rfl) rfl D279_27 ?_
  refine s_Il gk1 (Or.inr ⟨1, D279_30, rfl⟩) ?_
  refine s_ic D279_31 kc_i_2 (by decide) ?_
  refine s_Bin q_imul n_mul rG2_x rE2_x D279_32 ?_
  refine s_Il gk3 (Or.inr ⟨3, D279_33, rfl⟩) ?_
  refine s_Bin q_iadd n_add rG2_x e_add D279_34 ?_
  refine s_Ial D279_35 ?_
  refine s_Is sk5 (show 5 < 6 from by decide) (Or.inl D279_36) ?_
  refine s_Il gk5 (Or.inl D279_38) ?_
  refine s_bi D279_40 kc_b_8 (by decide) ?_
  refine s_Ic c_ge (i_ge (tg := 63) (by decide)) D279_42.1 P279_63 (?_ : rSnd _ _ 45 _)
  refine s_Il gk5 (Or.inl D279_45) ?_
  refine s_Al gk0 (Or.inr ⟨0, D279_47, rfl⟩) ?_
  refine s_Gf (ci := 8) (r := ("WordWright$Solver", kT8, 11)) rfl (show 4 < 11 from by decide) rfl (Or.inl wd308) (Or.inl rfl) rfl D279_48 ?_
  refine s_Il gk2 (Or.inr ⟨2, D279_51, rfl⟩) ?_
  refine s_ic D279_52 kc_i_2 (by decide) ?_
  refine s_Bin q_imul n_mul rG2_x rE2_x D279_53 ?_
  refine s_Il gk4 (Or.inl D279_54) ?_
  refine s_Bin q_iadd n_add rG2_x e_add D279_56 ?_
  refine s_Ial D279_57 ?_
  refine s_Ic c_ne (i_ne (tg := 63) (by decide)) D279_58.1 P279_63 (?_ : rSnd _ _ 61 _)
  exact rSnd_none
theorem P279_2 : rSnd lab M279 2 B279_2 := by
  refine s_Il gk3 (Or.inr ⟨3, D279_2, rfl⟩) ?_
  refine s_Al gk0 (Or.inr ⟨0, D279_3, rfl⟩) ?_
  refine s_Gf (ci := 8) (r := ("WordWright$Solver", kT8, 11)) rfl (show 3 < 11 from by decide) rfl (Or.inl wd307) (Or.inl rfl) rfl D279_4 ?_
  refine s_Il gk1 (Or.inr ⟨1, D279_7, rfl⟩) ?_
  refine s_Ial D279_8 ?_
  refine s_Ic c_ge (i_ge (tg := 75) (by decide)) D279_9.1 P279_75 (?_ : rSnd _ _ 12 _)
  refine s_ic D279_12 kc_i_0 (by decide) ?_
  refine s_Is sk4 (show 4 < 6 from by decide) (Or.inl D279_13) ?_
  exact P279_15
theorem P279_0 : rSnd lab M279 0 B279_0 := by
  refine s_Ent ?_
  refine s_ic D279_0 kc_i_0 (by decide) ?_
  refine s_Is sk3 (show 3 < 6 from by decide) (Or.inr ⟨3, D279_1, rfl⟩) ?_
  exact P279_2
theorem D280_0 : rDec M280 0 (.aload_n 0) 1 1 := ⟨by decide +kernel, rfl⟩
theorem D280_1 : rDec M280 1 (.aload_n 1) 1 2 := ⟨by decide +kernel, rfl⟩
theorem D280_2 : rDec M280 2 (.aload_n 2) 1 3 := ⟨by decide +kernel, rfl⟩
theorem D280_3 : rDec M280 3 (.invokevirtual 39) 3 6 := ⟨by decide +kernel, rfl⟩
theorem D280_6 : rDec M280 6 (.aload_n 0) 1 7 := ⟨by decide +kernel, rfl⟩
theorem D280_7 : rDec M280 7 (.iconst 0) 1 8 := ⟨by decide +kernel, rfl⟩
theorem D280_8 : rDec M280 8 (.putfield 43) 3 11 := ⟨by decide +kernel, rfl⟩
theorem D280_11 : rDec M280 11 (.aload_n 0) 1 12 := ⟨by decide +kernel, rfl⟩
theorem D280_12 : rDec M280 12 (.getfield 11) 3 15 := ⟨by decide +kernel, rfl⟩
theorem D280_15 : rDec M280 15 (.iconst 0) 1 16 := ⟨by decide +kernel, rfl⟩
theorem D280_16 : rDec M280 16 (.invokestatic 47) 3 19 := ⟨by decide +kernel, rfl⟩
theorem D280_19 : rDec M280 19 (.bipush 9) 2 21 := ⟨by decide +kernel, rfl⟩
theorem D280_21 : rDec M280 21 (.istore_n 3) 1 22 := ⟨by decide +kernel, rfl⟩
theorem D280_22 : rDec M280 22 (.iconst 0) 1 23 := ⟨by decide +kernel, rfl⟩
theorem D280_23 : rDec M280 23 (.istore 4) 2 25 := ⟨by decide +kernel, rfl⟩
theorem D280_25 : rDec M280 25 (.iload 4) 2 27 := ⟨by decide +kernel, rfl⟩
theorem D280_27 : rDec M280 27 (.bipush 81) 2 29 := ⟨by decide +kernel, rfl⟩
theorem D280_29 : rDec M280 29 (.if_icmp .ge 120) 3 32 := ⟨by decide +kernel, rfl⟩
theorem D280_32 : rDec M280 32 (.aload_n 0) 1 33 := ⟨by decide +kernel, rfl⟩
theorem D280_33 : rDec M280 33 (.iload 4) 2 35 := ⟨by decide +kernel, rfl⟩
theorem D280_35 : rDec M280 35 (.invokevirtual 53) 3 38 := ⟨by decide +kernel, rfl⟩
theorem D280_38 : rDec M280 38 (.aload_n 0) 1 39 := ⟨by decide +kernel, rfl⟩
theorem D280_39 : rDec M280 39 (.invokevirtual 57) 3 42 := ⟨by decide +kernel, rfl⟩
theorem D280_42 : rDec M280 42 (.ifCond .eq 101) 3 45 := ⟨by decide +kernel, rfl⟩
theorem D280_45 : rDec M280 45 (.aload_n 0) 1 46 := ⟨by decide +kernel, rfl⟩
theorem D280_46 : rDec M280 46 (.aload_n 1) 1 47 := ⟨by decide +kernel, rfl⟩
theorem D280_47 : rDec M280 47 (.invokevirtual 61) 3 50 := ⟨by decide +kernel, rfl⟩
theorem D280_50 : rDec M280 50 (.ifCond .ne 6) 3 53 := ⟨by decide +kernel, rfl⟩
theorem D280_56 : rDec M280 56 (.aload_n 0) 1 57 := ⟨by decide +kernel, rfl⟩
theorem D280_57 : rDec M280 57 (.invokevirtual 65) 3 60 := ⟨by decide +kernel, rfl⟩
theorem D280_60 : rDec M280 60 (.istore 5) 2 62 := ⟨by decide +kernel, rfl⟩
theorem D280_62 : rDec M280 62 (.aload_n 0) 1 63 := ⟨by decide +kernel, rfl⟩
theorem D280_63 : rDec M280 63 (.dup) 1 64 := ⟨by decide +kernel, rfl⟩
theorem D280_64 : rDec M280 64 (.getfield 43) 3 67 := ⟨by decide +kernel, rfl⟩
theorem D280_67 : rDec M280 67 (.iload 5) 2 69 := ⟨by decide +kernel, rfl⟩
theorem D280_69 : rDec M280 69 (.iadd) 1 70 := ⟨by decide +kernel, rfl⟩
theorem D280_70 : rDec M280 70 (.putfield 43) 3 73 := ⟨by decide +kernel, rfl⟩
theorem D280_73 : rDec M280 73 (.aload_n 0) 1 74 := ⟨by decide +kernel, rfl⟩
theorem D280_74 : rDec M280 74 (.getfield 18) 3 77 := ⟨by decide +kernel, rfl⟩
theorem D280_77 : rDec M280 77 (.iconst 0) 1 78 := ⟨by decide +kernel, rfl⟩
theorem D280_78 : rDec M280 78 (.iaload) 1 79 := ⟨by decide +kernel, rfl⟩
theorem D280_79 : rDec M280 79 (.aload_n 0) 1 80 := ⟨by decide +kernel, rfl⟩
theorem D280_80 : rDec M280 80 (.getfield 18) 3 83 := ⟨by decide +kernel, rfl⟩
theorem D280_83 : rDec M280 83 (.iconst 1) 1 84 := ⟨by decide +kernel, rfl⟩
theorem D280_84 : rDec M280 84 (.iaload) 1 85 := ⟨by decide +kernel, rfl⟩
theorem D280_85 : rDec M280 85 (.iadd) 1 86 := ⟨by decide +kernel, rfl⟩
theorem D280_86 : rDec M280 86 (.aload_n 0) 1 87 := ⟨by decide +kernel, rfl⟩
theorem D280_87 : rDec M280 87 (.getfield 18) 3 90 := ⟨by decide +kernel, rfl⟩
theorem D280_90 : rDec M280 90 (.iconst 2) 1 91 := ⟨by decide +kernel, rfl⟩
theorem D280_91 : rDec M280 91 (.iaload) 1 92 := ⟨by decide +kernel, rfl⟩
theorem D280_92 : rDec M280 92 (.iadd) 1 93 := ⟨by decide +kernel, rfl⟩
theorem D280_93 : rDec M280 93 (.aload_n 0) 1 94 := ⟨by decide +kernel, rfl⟩
theorem D280_94 : rDec M280 94 (.getfield 18) 3 97 := ⟨by decide +kernel, rfl⟩
theorem D280_97 : rDec M280 97 (.iconst 3) 1 98 := ⟨by decide +kernel, rfl⟩
theorem D280_98 : rDec M280 98 (.iaload) 1 99 := ⟨by decide +kernel, rfl⟩
theorem D280_99 : rDec M280 99 (.iadd) 1 100 := ⟨by decide +kernel, rfl⟩
theorem D280_100 : rDec M280 100 (.istore 6) 2 102 := ⟨by decide +kernel, rfl⟩
theorem D280_102 : rDec M280 102 (.iload 5) 2 104 := ⟨by decide +kernel, rfl⟩
theorem D280_104 : rDec M280 104 (.ifCond .le 39) 3 107 := ⟨by decide +kernel, rfl⟩
theorem D280_107 : rDec M280 107 (.iload 6) 2 109 := ⟨by decide +kernel, rfl⟩
theorem D280_109 : rDec M280 109 (.iload_n 3) 1 110 := ⟨by decide +kernel, rfl⟩
theorem D280_110 : rDec M280 110 (.if_icmp .lt 16) 3 113 := ⟨by decide +kernel, rfl⟩
theorem D280_113 : rDec M280 113 (.iload 6) 2 115 := ⟨by decide +kernel, rfl⟩
theorem D280_115 : rDec M280 115 (.iload_n 3) 1 116 := ⟨by decide +kernel, rfl⟩
theorem D280_116 : rDec M280 116 (.if_icmp .ne 27) 3 119 := ⟨by decide +kernel, rfl⟩
theorem D280_126 : rDec M280 126 (.iload 6) 2 128 := ⟨by decide +kernel, rfl⟩
theorem D280_128 : rDec M280 128 (.istore_n 3) 1 129 := ⟨by decide +kernel, rfl⟩
theorem D280_129 : rDec M280 129 (.aload_n 0) 1 130 := ⟨by decide +kernel, rfl⟩
theorem D280_130 : rDec M280 130 (.getfield 36) 3 133 := ⟨by decide +kernel, rfl⟩
theorem D280_133 : rDec M280 133 (.iconst 0) 1 134 := ⟨by decide +kernel, rfl⟩
theorem D280_134 : rDec M280 134 (.aload_n 0) 1 135 := ⟨by decide +kernel, rfl⟩
theorem D280_135 : rDec M280 135 (.getfield 11) 3 138 := ⟨by decide +kernel, rfl⟩
theorem D280_138 : rDec M280 138 (.iconst 0) 1 139 := ⟨by decide +kernel, rfl⟩
theorem D280_139 : rDec M280 139 (.iconst 4) 1 140 := ⟨by decide +kernel, rfl⟩
theorem D280_140 : rDec M280 140 (.invokestatic 72) 3 143 := ⟨by decide +kernel, rfl⟩
theorem D280_143 : rDec M280 143 (.iinc 4 1) 3 146 := ⟨by decide +kernel, rfl⟩
theorem D280_146 : rDec M280 146 (.goto (-121)) 3 149 := ⟨by decide +kernel, rfl⟩
theorem D280_149 : rDec M280 149 (.return_) 1 150 := ⟨by decide +kernel, rfl⟩
theorem P280_149 : rSnd lab M280 149 B280_149 := by
  exact s_Rv rfl D280_149.1
theorem P280_143 : rSnd lab M280 143 B280_143 := by
  refine s_Inc gk4 sk4 (show 4 < 7 from by decide) kc_i_1 D280_143 ?_
  exact s_Go (pc' := 25) D280_146.1 (by decide) (s_Jb rfl)
theorem P280_126 : rSnd lab M280 126 B280_126 := by
  refine s_Il gk6 (Or.inl D280_126) ?_
  refine s_Is sk3 (show 3 < 7 from by decide) (Or.inr ⟨3, D280_128, rfl⟩) ?_
  refine s_Al gk0 (Or.inr ⟨0, D280_129, rfl⟩) ?_
  refine s_Gf (ci := 8) (r := ("WordWright$Solver", kT8, 11)) rfl (show 10 < 11 from by decide) rfl (Or.inl wd314) (Or.inl rfl) rfl D280_130 ?_
  refine s_ic D280_133 kc_i_0 (by decide) ?_
  refine s_Al gk0 (Or.inr ⟨0, D280_134, rfl⟩) ?_
  refine s_Gf (ci := 8) (r := ("WordWright$Solver", kT8, 11)) rfl (show 1 < 11 from by decide) rfl (Or.inl wd304) (Or.inl rfl) rfl D280_135 ?_
  refine s_ic D280_138 kc_i_0 (by decide) ?_
  refine s_ic D280_139 kc_i_4 (by decide) ?_
  refine s_Cpy rfl wd582 wd584 wd583 wd17 D280_140 ?_
  exact P280_143
theorem P280_56 : rSnd lab M280 56 B280_56 := by
  refine s_Al gk0 (Or.inr ⟨0, D280_56, rfl⟩) ?_
  refine s_Cv (ln := 3) (kd := 18) (C := "WordWright$Solver") (by decide) (by decide +kernel) rfl (l_V rfl ok270 rfl wd538 wd540 ws7 D280_57.1) (?_ : rSnd _ _ 60 _)
  refine s_Is sk5 (show 5 < 7 from by decide) (Or.inl D280_60) ?_
  refine s_Al gk0 (Or.inr ⟨0, D280_62, rfl⟩) ?_
  refine s_Dup D280_63 ?_
  refine s_Gf (ci := 8) (r := ("WordWright$Solver", kT8, 11)) rfl (show 0 < 11 from by decide) rfl (Or.inl wd301) (Or.inl rfl) rfl D280_64 ?_
  refine s_Il gk5 (Or.inl D280_67) ?_
  refine s_Bin q_iadd n_add rG2_x e_add D280_69 ?_
  refine s_Pf (ci := 8) (r := ("WordWright$Solver", kT8, 11)) rfl (show 0 < 11 from by decide) rfl (Or.inl ⟨rfl, Or.inl wd301⟩) (Or.inl rfl) rfl (by decide) D280_70 ?_
  refine s_Al gk0 (Or.inr ⟨0, D280_73, rfl⟩) ?_
  refine s_Gf (ci := 8) (r := ("WordWright$Solver", kT8, 11)) rfl (show 3 < 11 from by decide) rfl (Or.inl wd307) (Or.inl rfl) rfl D280_74 ?_
  refine s_ic D280_77 kc_i_0 (by decide) ?_
  refine s_Ial D280_78 ?_
  refine s_Al gk0 (Or.inr ⟨0, D280_79, rfl⟩) ?_
  refine s_Gf (ci := 8) (r := ("WordWright$Solver", kT8, 11)) rfl (show 3 < 11 from by decide) rfl (Or.inl wd307) (Or.inl rfl) rfl D280_80 ?_
  refine s_ic D280_83 kc_i_1 (by decide) ?_
  refine s_Ial D280_84 ?_
  refine s_Bin q_iadd n_add rG2_x e_add D280_85 ?_
  refine s_Al gk0 (Or.inr ⟨0, D280_86, rfl⟩) ?_
  refine s_Gf (ci := 8) (r := ("WordWright$Solver", kT8, 11)) rfl (show 3 < 11 from by decide) rfl (Or.inl wd307) (Or.inl rfl) rfl D280_87 ?_
  refine s_ic D280_90 kc_i_2 (by decide) ?_
  refine s_Ial D280_91 ?_
  refine s_Bin q_iadd n_add rG2_x e_add D280_92 ?_
  refine s_Al gk0 (Or.inr ⟨0, D280_93, rfl⟩) ?_
  refine s_Gf (ci := 8) (r := ("WordWright$Solver", kT8, 11)) rfl (show 3 < 11 from by decide) rfl (Or.inl wd307) (Or.inl rfl) rfl D280_94 ?_
  refine s_ic D280_97 kc_i_3 (by decide) ?_
  refine s_Ial D280_98 ?_
  refine s_Bin q_iadd n_add rG2_x e_add D280_99 ?_
  refine s_Is sk6 (show 6 < 7 from by decide) (Or.inl D280_100) ?_
  refine s_Il gk5 (Or.inl D280_102) ?_
  refine s_If c_le (fun _ => rfl) (fun _ _ => rfl) (b_le (tg := 143) (by decide)) D280_104.1 P280_143 (?_ : rSnd _ _ 107 _)
  refine s_Il gk6 (Or.inl D280_107) ?_
  refine s_Il gk3 (Or.inr ⟨3, D280_109, rfl⟩) ?_
  refine s_Ic c_lt (i_lt (tg := 126) (by decide)) D280_110.1 P280_126 (?_ : rSnd _ _ 113 _)
  refine s_Il gk6 (Or.inl D280_113) ?_
  refine s_Il gk3 (Or.inr ⟨3, D280_115, rfl⟩) ?_
  refine s_Ic c_ne (i_ne (tg := 143) (by decide)) D280_116.1 P280_143 (?_ : rSnd _ _ 119 _)
  exact rSnd_none
theorem P280_25 : rSnd lab M280 25 B280_25 := by
  refine s_Il gk4 (Or.inl D280_25) ?_
  refine s_bi D280_27 kc_b_81 (by decide) ?_
  refine s_Ic c_ge (i_ge (tg := 149) (by decide)) D280_29.1 P280_149 (?_ : rSnd _ _ 32 _)
  refine s_Al gk0 (Or.inr ⟨0, D280_32, rfl⟩) ?_
  refine s_Il gk4 (Or.inl D280_33) ?_
  refine s_Cv (ln := 3) (kd := 18) (C := "WordWright$Solver") (by decide) (by decide +kernel) rfl (l_V rfl ok269 rfl wd512 wd514 ws2 D280_35.1) (?_ : rSnd _ _ 38 _)
  refine s_Al gk0 (Or.inr ⟨0, D280_38, rfl⟩) ?_
  refine s_Cv (ln := 3) (kd := 18) (C := "WordWright$Solver") (by decide) (by decide +kernel) rfl (l_V rfl ok274 rfl wd516 wd518 ws3 D280_39.1) (?_ : rSnd _ _ 42 _)
  refine s_If c_eq (fun _ => rfl) (fun _ _ => rfl) (b_eq (tg := 143) (by decide)) D280_42.1 P280_143 (?_ : rSnd _ _ 45 _)
  refine s_Al gk0 (Or.inr ⟨0, D280_45, rfl⟩) ?_
  refine s_Al gk1 (Or.inr ⟨1, D280_46, rfl⟩) ?_
  refine s_Cv (ln := 3) (kd := 18) (C := "WordWright$Solver") (by decide) (by decide +kernel) rfl (l_V rfl ok281 rfl wd520 wd522 ws4 D280_47.1) (?_ : rSnd _ _ 50 _)
  refine s_If c_ne (fun _ => rfl) (fun _ _ => rfl) (b_ne (tg := 56) (by decide)) D280_50.1 P280_56 (?_ : rSnd _ _ 53 _)
  exact rSnd_none
theorem P280_0 : rSnd lab M280 0 B280_0 := by
  refine s_Ent ?_
  refine s_Al gk0 (Or.inr ⟨0, D280_0, rfl⟩) ?_
  refine s_Al gk1 (Or.inr ⟨1, D280_1, rfl⟩) ?_
  refine s_Al gk2 (Or.inr ⟨2, D280_2, rfl⟩) ?_
  refine s_Cv (ln := 3) (kd := 18) (C := "WordWright$Solver") (by decide) (by decide +kernel) rfl (l_V rfl ok268 rfl wd488 wd490 ws1 D280_3.1) (?_ : rSnd _ _ 6 _)
  refine s_Al gk0 (Or.inr ⟨0, D280_6, rfl⟩) ?_
  refine s_ic D280_7 kc_i_0 (by decide) ?_
  refine s_Pf (ci := 8) (r := ("WordWright$Solver", kT8, 11)) rfl (show 0 < 11 from by decide) rfl (Or.inl ⟨rfl, Or.inl wd301⟩) (Or.inl rfl) rfl (by decide) D280_8 ?_
  refine s_Al gk0 (Or.inr ⟨0, D280_11, rfl⟩) ?_
  refine s_Gf (ci := 8) (r := ("WordWright$Solver", kT8, 11)) rfl (show 1 < 11 from by decide) rfl (Or.inl wd304) (Or.inl rfl) rfl D280_12 ?_
  refine s_ic D280_15 kc_i_0 (by decide) ?_
  refine s_Cs (id := 3) rfl (l_S rfl ok3 rfl wd492 wd257 D280_16.1) (?_ : rSnd _ _ 19 _)
  refine s_bi D280_19 kc_b_9 (by decide) ?_
  refine s_Is sk3 (show 3 < 7 from by decide) (Or.inr ⟨3, D280_21, rfl⟩) ?_
  refine s_ic D280_22 kc_i_0 (by decide) ?_
  refine s_Is sk4 (show 4 < 7 from by decide) (Or.inl D280_23) ?_
  exact P280_25
theorem D281_0 : rDec M281 0 (.iconst 0) 1 1 := ⟨by decide +kernel, rfl⟩
theorem D281_1 : rDec M281 1 (.istore_n 2) 1 2 := ⟨by decide +kernel, rfl⟩
theorem D281_2 : rDec M281 2 (.iload_n 2) 1 3 := ⟨by decide +kernel, rfl⟩
theorem D281_3 : rDec M281 3 (.aload_n 1) 1 4 := ⟨by decide +kernel, rfl⟩
theorem D281_4 : rDec M281 4 (.getfield 92) 3 7 := ⟨by decide +kernel, rfl⟩
theorem D281_7 : rDec M281 7 (.if_icmp .ge 88) 3 10 := ⟨by decide +kernel, rfl⟩
theorem D281_95 : rDec M281 95 (.iconst 1) 1 96 := ⟨by decide +kernel, rfl⟩
theorem D281_96 : rDec M281 96 (.ireturn) 1 97 := ⟨by decide +kernel, rfl⟩
theorem P281_95 : rSnd lab M281 95 B281_95 := by
  refine s_ic D281_95 kc_i_1 (by decide) ?_
  exact s_Ri (Or.inr ⟨rfl, by decide⟩) D281_96.1
theorem P281_0 : rSnd lab M281 0 B281_0 := by
  refine s_Ent ?_
  refine s_ic D281_0 kc_i_0 (by decide) ?_
  refine s_Is sk2 (show 2 < 5 from by decide) (Or.inr ⟨2, D281_1, rfl⟩) ?_
  refine s_Il gk2 (Or.inr ⟨2, D281_2, rfl⟩) ?_
  refine s_Al gk1 (Or.inr ⟨1, D281_3, rfl⟩) ?_
  refine s_Gf (ci := 2) (r := ("WordWright$Equations", kT2, 8)) rfl (show 2 < 8 from by decide) rfl (Or.inl wd265) (Or.inl rfl) rfl D281_4 ?_
  refine s_Ic c_ge (i_ge (tg := 95) (by decide)) D281_7.1 P281_95 (?_ : rSnd _ _ 10 _)
  exact rSnd_none
theorem D282_0 : rDec M282 0 (.iconst 1) 1 1 := ⟨by decide +kernel, rfl⟩
theorem D282_1 : rDec M282 1 (.istore_n 2) 1 2 := ⟨by decide +kernel, rfl⟩
theorem D282_2 : rDec M282 2 (.iconst 0) 1 3 := ⟨by decide +kernel, rfl⟩
theorem D282_3 : rDec M282 3 (.istore_n 3) 1 4 := ⟨by decide +kernel, rfl⟩
theorem D282_4 : rDec M282 4 (.iload_n 3) 1 5 := ⟨by decide +kernel, rfl⟩
theorem D282_5 : rDec M282 5 (.aload_n 0) 1 6 := ⟨by decide +kernel, rfl⟩
theorem D282_6 : rDec M282 6 (.getfield 18) 3 9 := ⟨by decide +kernel, rfl⟩
theorem D282_9 : rDec M282 9 (.iload_n 1) 1 10 := ⟨by decide +kernel, rfl⟩
theorem D282_10 : rDec M282 10 (.iaload) 1 11 := ⟨by decide +kernel, rfl⟩
theorem D282_11 : rDec M282 11 (.if_icmp .ge 29) 3 14 := ⟨by decide +kernel, rfl⟩
theorem D282_14 : rDec M282 14 (.iload_n 2) 1 15 := ⟨by decide +kernel, rfl⟩
theorem D282_15 : rDec M282 15 (.iconst 4) 1 16 := ⟨by decide +kernel, rfl⟩
theorem D282_16 : rDec M282 16 (.imul) 1 17 := ⟨by decide +kernel, rfl⟩
theorem D282_17 : rDec M282 17 (.aload_n 0) 1 18 := ⟨by decide +kernel, rfl⟩
theorem D282_18 : rDec M282 18 (.getfield 33) 3 21 := ⟨by decide +kernel, rfl⟩
theorem D282_21 : rDec M282 21 (.aload_n 0) 1 22 := ⟨by decide +kernel, rfl⟩
theorem D282_22 : rDec M282 22 (.getfield 21) 3 25 := ⟨by decide +kernel, rfl⟩
theorem D282_25 : rDec M282 25 (.iload_n 1) 1 26 := ⟨by decide +kernel, rfl⟩
theorem D282_26 : rDec M282 26 (.iconst 2) 1 27 := ⟨by decide +kernel, rfl⟩
theorem D282_27 : rDec M282 27 (.imul) 1 28 := ⟨by decide +kernel, rfl⟩
theorem D282_28 : rDec M282 28 (.iload_n 3) 1 29 := ⟨by decide +kernel, rfl⟩
theorem D282_29 : rDec M282 29 (.iadd) 1 30 := ⟨by decide +kernel, rfl⟩
theorem D282_30 : rDec M282 30 (.iaload) 1 31 := ⟨by decide +kernel, rfl⟩
theorem D282_31 : rDec M282 31 (.iaload) 1 32 := ⟨by decide +kernel, rfl⟩
theorem D282_32 : rDec M282 32 (.iadd) 1 33 := ⟨by decide +kernel, rfl⟩
theorem D282_33 : rDec M282 33 (.istore_n 2) 1 34 := ⟨by decide +kernel, rfl⟩
theorem D282_34 : rDec M282 34 (.iinc 3 1) 3 37 := ⟨by decide +kernel, rfl⟩
theorem D282_37 : rDec M282 37 (.goto (-33)) 3 40 := ⟨by decide +kernel, rfl⟩
theorem D282_40 : rDec M282 40 (.iload_n 2) 1 41 := ⟨by decide +kernel, rfl⟩
theorem D282_41 : rDec M282 41 (.ireturn) 1 42 := ⟨by decide +kernel, rfl⟩
theorem P282_40 : rSnd lab M282 40 B282_40 := by
  refine s_Il gk2 (Or.inr ⟨2, D282_40, rfl⟩) ?_
  exact s_Ri (Or.inl rfl) D282_41.1
theorem P282_4 : rSnd lab M282 4 B282_4 := by
  refine s_Il gk3 (Or.inr ⟨3, D282_4, rfl⟩) ?_
  refine s_Al gk0 (Or.inr ⟨0, D282_5, rfl⟩) ?_
  refine s_Gf (ci := 8) (r := ("WordWright$Solver", kT8, 11)) rfl (show 3 < 11 from by decide) rfl (Or.inl wd307) (Or.inl rfl) rfl D282_6 ?_
  refine s_Il gk1 (Or.inr ⟨1, D282_9, rfl⟩) ?_
  refine s_Ial D282_10 ?_
  refine s_Ic c_ge (i_ge (tg := 40) (by decide)) D282_11.1 P282_40 (?_ : rSnd _ _ 14 _)
  refine s_Il gk2 (Or.inr ⟨2, D282_14, rfl⟩) ?_
  refine s_ic D282_15 kc_i_4 (by decide) ?_
  refine s_Bin q_imul n_mul rG2_x rE2_x D282_16 ?_
  refine s_Al gk0 (Or.inr ⟨0, D282_17, rfl⟩) ?_
  refine s_Gf (ci := 8) (r := ("WordWright$Solver", kT8, 11)) rfl (show 9 < 11 from by decide) rfl (Or.inl wd313) (Or.inl rfl) rfl D282_18 ?_
  refine s_Al gk0 (Or.inr ⟨0, D282_21, rfl⟩) ?_
  refine s_Gf (ci := 8) (r := ("WordWright$Solver", kT8, 11)) rfl (show 4 < 11 from by decide) rfl (Or.inl wd308) (Or.inl rfl) rfl D282_22 ?_
  refine s_Il gk1 (Or.inr ⟨1, D282_25, rfl⟩) ?_
  refine s_ic D282_26 kc_i_2 (by decide) ?_
  refine s_Bin q_imul n_mul rG2_x rE2_x D282_27 ?_
  refine s_Il gk3 (Or.inr ⟨3, D282_28, rfl⟩) ?_
  refine s_Bin q_iadd n_add rG2_x e_add D282_29 ?_
  refine s_Ial D282_30 ?_
  refine s_Ial D282_31 ?_
  refine s_Bin q_iadd n_add rG2_x e_add D282_32 ?_
  refine s_Is sk2 (show 2 < 4 from by decide) (Or.inr ⟨2, D282_33, rfl⟩) ?_
  refine s_Inc gk3 sk3 (show 3 < 4 from by decide) kc_i_1 D282_34 ?_
  exact s_Go (pc' := 4) D282_37.1 (by decide) (s_Jb rfl)
theorem P282_0 : rSnd lab M282 0 B282_0 := by
  refine s_Ent ?_
  refine s_ic D282_0 kc_i_1 (by decide) ?_
  refine s_Is sk2 (show 2 < 4 from by decide) (Or.inr ⟨2, D282_1, rfl⟩) ?_
  refine s_ic D282_2 kc_i_0 (by decide) ?_
  refine s_Is sk3 (show 3 < 4 from by decide) (Or.inr ⟨3, D282_3, rfl⟩) ?_
  exact P282_4
theorem D283_0 : rDec M283 0 (.aload_n 0) 1 1 := ⟨by decide +kernel, rfl⟩
theorem D283_1 : rDec M283 1 (.getfield 12) 3 4 := ⟨by decide +kernel, rfl⟩
theorem D283_4 : rDec M283 4 (.lconst 0) 1 5 := ⟨by decide +kernel, rfl⟩
theorem D283_5 : rDec M283 5 (.invokevirtual 24) 3 8 := ⟨by decide +kernel, rfl⟩
theorem D283_8 : rDec M283 8 (.iconst 0) 1 9 := ⟨by decide +kernel, rfl⟩
theorem D283_9 : rDec M283 9 (.istore 5) 2 11 := ⟨by decide +kernel, rfl⟩
theorem D283_11 : rDec M283 11 (.iload 5) 2 13 := ⟨by decide +kernel, rfl⟩
theorem D283_13 : rDec M283 13 (.aload_n 0) 1 14 := ⟨by decide +kernel, rfl⟩
theorem D283_14 : rDec M283 14 (.getfield 12) 3 17 := ⟨by decide +kernel, rfl⟩
theorem D283_17 : rDec M283 17 (.getfield 28) 3 20 := ⟨by decide +kernel, rfl⟩
theorem D283_20 : rDec M283 20 (.if_icmp .ge 137) 3 23 := ⟨by decide +kernel, rfl⟩
theorem D283_23 : rDec M283 23 (.iload 5) 2 25 := ⟨by decide +kernel, rfl⟩
theorem D283_25 : rDec M283 25 (.sipush 10240) 3 28 := ⟨by decide +kernel, rfl⟩
theorem D283_28 : rDec M283 28 (.if_icmp .ge 129) 3 31 := ⟨by decide +kernel, rfl⟩
theorem D283_31 : rDec M283 31 (.aload_n 0) 1 32 := ⟨by decide +kernel, rfl⟩
theorem D283_32 : rDec M283 32 (.getfield 12) 3 35 := ⟨by decide +kernel, rfl⟩
theorem D283_35 : rDec M283 35 (.getfield 32) 3 38 := ⟨by decide +kernel, rfl⟩
theorem D283_38 : rDec M283 38 (.iload 5) 2 40 := ⟨by decide +kernel, rfl⟩
theorem D283_40 : rDec M283 40 (.laload) 1 41 := ⟨by decide +kernel, rfl⟩
theorem D283_41 : rDec M283 41 (.l2i) 1 42 := ⟨by decide +kernel, rfl⟩
theorem D283_42 : rDec M283 42 (.bipush 10) 2 44 := ⟨by decide +kernel, rfl⟩
theorem D283_44 : rDec M283 44 (.idiv) 1 45 := ⟨by decide +kernel, rfl⟩
theorem D283_45 : rDec M283 45 (.istore 6) 2 47 := ⟨by decide +kernel, rfl⟩
theorem D283_47 : rDec M283 47 (.aload_n 0) 1 48 := ⟨by decide +kernel, rfl⟩
theorem D283_48 : rDec M283 48 (.getfield 12) 3 51 := ⟨by decide +kernel, rfl⟩
theorem D283_51 : rDec M283 51 (.getfield 32) 3 54 := ⟨by decide +kernel, rfl⟩
theorem D283_54 : rDec M283 54 (.iload 5) 2 56 := ⟨by decide +kernel, rfl⟩
theorem D283_56 : rDec M283 56 (.laload) 1 57 := ⟨by decide +kernel, rfl⟩
theorem D283_57 : rDec M283 57 (.l2i) 1 58 := ⟨by decide +kernel, rfl⟩
theorem D283_58 : rDec M283 58 (.bipush 10) 2 60 := ⟨by decide +kernel, rfl⟩
theorem D283_60 : rDec M283 60 (.irem) 1 61 := ⟨by decide +kernel, rfl⟩
theorem D283_61 : rDec M283 61 (.istore 7) 2 63 := ⟨by decide +kernel, rfl⟩
theorem D283_63 : rDec M283 63 (.aload_n 0) 1 64 := ⟨by decide +kernel, rfl⟩
theorem D283_64 : rDec M283 64 (.getfield 12) 3 67 := ⟨by decide +kernel, rfl⟩
theorem D283_67 : rDec M283 67 (.getfield 36) 3 70 := ⟨by decide +kernel, rfl⟩
theorem D283_70 : rDec M283 70 (.iload 5) 2 72 := ⟨by decide +kernel, rfl⟩
theorem D283_72 : rDec M283 72 (.aload_n 1) 1 73 := ⟨by decide +kernel, rfl⟩
theorem D283_73 : rDec M283 73 (.iload 6) 2 75 := ⟨by decide +kernel, rfl⟩
theorem D283_75 : rDec M283 75 (.invokevirtual 18) 3 78 := ⟨by decide +kernel, rfl⟩
theorem D283_78 : rDec M283 78 (.aload_n 2) 1 79 := ⟨by decide +kernel, rfl⟩
theorem D283_79 : rDec M283 79 (.iload 7) 2 81 := ⟨by decide +kernel, rfl⟩
theorem D283_81 : rDec M283 81 (.invokevirtual 18) 3 84 := ⟨by decide +kernel, rfl⟩
theorem D283_84 : rDec M283 84 (.iload_n 3) 1 85 := ⟨by decide +kernel, rfl⟩
theorem D283_85 : rDec M283 85 (.invokestatic 61) 3 88 := ⟨by decide +kernel, rfl⟩
theorem D283_88 : rDec M283 88 (.bastore) 1 89 := ⟨by decide +kernel, rfl⟩
theorem D283_89 : rDec M283 89 (.iconst 0) 1 90 := ⟨by decide +kernel, rfl⟩
theorem D283_90 : rDec M283 90 (.istore 8) 2 92 := ⟨by decide +kernel, rfl⟩
theorem D283_92 : rDec M283 92 (.iload 8) 2 94 := ⟨by decide +kernel, rfl⟩
theorem D283_94 : rDec M283 94 (.iconst 4) 1 95 := ⟨by decide +kernel, rfl⟩
theorem D283_95 : rDec M283 95 (.if_icmp .ge 56) 3 98 := ⟨by decide +kernel, rfl⟩
theorem D283_98 : rDec M283 98 (.aload_n 1) 1 99 := ⟨by decide +kernel, rfl⟩
theorem D283_99 : rDec M283 99 (.iload 6) 2 101 := ⟨by decide +kernel, rfl⟩
theorem D283_101 : rDec M283 101 (.iload 8) 2 103 := ⟨by decide +kernel, rfl⟩
theorem D283_103 : rDec M283 103 (.invokevirtual 42) 3 106 := ⟨by decide +kernel, rfl⟩
theorem D283_106 : rDec M283 106 (.bipush 10) 2 108 := ⟨by decide +kernel, rfl⟩
theorem D283_108 : rDec M283 108 (.imul) 1 109 := ⟨by decide +kernel, rfl⟩
theorem D283_109 : rDec M283 109 (.aload_n 2) 1 110 := ⟨by decide +kernel, rfl⟩
theorem D283_110 : rDec M283 110 (.iload 7) 2 112 := ⟨by decide +kernel, rfl⟩
theorem D283_112 : rDec M283 112 (.iload 8) 2 114 := ⟨by decide +kernel, rfl⟩
theorem D283_114 : rDec M283 114 (.invokevirtual 42) 3 117 := ⟨by decide +kernel, rfl⟩
theorem D283_117 : rDec M283 117 (.iadd) 1 118 := ⟨by decide +kernel, rfl⟩
theorem D283_118 : rDec M283 118 (.istore 9) 2 120 := ⟨by decide +kernel, rfl⟩
theorem D283_120 : rDec M283 120 (.aload_n 0) 1 121 := ⟨by decide +kernel, rfl⟩
theorem D283_121 : rDec M283 121 (.getfield 12) 3 124 := ⟨by decide +kernel, rfl⟩
theorem D283_124 : rDec M283 124 (.getfield 49) 3 127 := ⟨by decide +kernel, rfl⟩
theorem D283_127 : rDec M283 127 (.iload 5) 2 129 := ⟨by decide +kernel, rfl⟩
theorem D283_129 : rDec M283 129 (.iconst 4) 1 130 := ⟨by decide +kernel, rfl⟩
theorem D283_130 : rDec M283 130 (.imul) 1 131 := ⟨by decide +kernel, rfl⟩
theorem D283_131 : rDec M283 131 (.iload 8) 2 133 := ⟨by decide +kernel, rfl⟩
theorem D283_133 : rDec M283 133 (.iadd) 1 134 := ⟨by decide +kernel, rfl⟩
theorem D283_134 : rDec M283 134 (.aload_n 0) 1 135 := ⟨by decide +kernel, rfl⟩
theorem D283_135 : rDec M283 135 (.getfield 12) 3 138 := ⟨by decide +kernel, rfl⟩
theorem D283_138 : rDec M283 138 (.iload 9) 2 140 := ⟨by decide +kernel, rfl⟩
theorem D283_140 : rDec M283 140 (.i2l) 1 141 := ⟨by decide +kernel, rfl⟩
theorem D283_141 : rDec M283 141 (.invokevirtual 53) 3 144 := ⟨by decide +kernel, rfl⟩
theorem D283_144 : rDec M283 144 (.iastore) 1 145 := ⟨by decide +kernel, rfl⟩
theorem D283_145 : rDec M283 145 (.iinc 8 1) 3 148 := ⟨by decide +kernel, rfl⟩
theorem D283_148 : rDec M283 148 (.goto (-56)) 3 151 := ⟨by decide +kernel, rfl⟩
theorem D283_151 : rDec M283 151 (.iinc 5 1) 3 154 := ⟨by decide +kernel, rfl⟩
theorem D283_154 : rDec M283 154 (.goto (-143)) 3 157 := ⟨by decide +kernel, rfl⟩
theorem D283_157 : rDec M283 157 (.aload_n 0) 1 158 := ⟨by decide +kernel, rfl⟩
theorem D283_158 : rDec M283 158 (.getfield 12) 3 161 := ⟨by decide +kernel, rfl⟩
theorem D283_161 : rDec M283 161 (.aload 4) 2 163 := ⟨by decide +kernel, rfl⟩
theorem D283_163 : rDec M283 163 (.invokevirtual 57) 3 166 := ⟨by decide +kernel, rfl⟩
theorem D283_166 : rDec M283 166 (.ireturn) 1 167 := ⟨by decide +kernel, rfl⟩
theorem P283_157 : rSnd lab M283 157 B283_157 := by
  refine s_Al gk0 (Or.inr ⟨0, D283_157, rfl⟩) ?_
  refine s_Gf (ci := 9) (r := ("WordWright$Workshop", kT9, 1)) rfl (show 0 < 1 from by decide) rfl (Or.inl wd148) (Or.inl rfl) rfl D283_158 ?_
  refine s_Al gk4 (Or.inl D283_161) ?_
  refine s_Cv (ln := 3) (kd := 4) (C := "WordWright$Draft") (by decide) (by decide +kernel) rfl (l_V rfl ok52 rfl wd652 wd653 wd654 D283_163.1) (?_ : rSnd _ _ 166 _)
  exact s_Ri (Or.inr ⟨rfl, by decide⟩) D283_166.1
theorem P283_151 : rSnd lab M283 151 B283_151 := by
  refine s_Inc gk5 sk5 (show 5 < 10 from by decide) kc_i_1 D283_151 ?_
  exact s_Go (pc' := 11) D283_154.1 (by decide) (s_Jb rfl)
theorem P283_92 : rSnd lab M283 92 B283_92 := by
  refine s_Il gk8 (Or.inl D283_92) ?_
  refine s_ic D283_94 kc_i_4 (by decide) ?_
  refine s_Ic c_ge (i_ge (tg := 151) (by decide)) D283_95.1 P283_151 (?_ : rSnd _ _ 98 _)
  refine s_Al gk1 (Or.inr ⟨1, D283_98, rfl⟩) ?_
  refine s_Il gk6 (Or.inl D283_99) ?_
  refine s_Il gk8 (Or.inl D283_101) ?_
  refine s_Cv (ln := 3) (kd := 8) (C := "WordWright$Language") (by decide) (by decide +kernel) rfl (l_V rfl ok231 rfl wd650 wd505 wd506 D283_103.1) (?_ : rSnd _ _ 106 _)
  refine s_bi D283_106 kc_b_10 (by decide) ?_
  refine s_Bin q_imul n_mul rG2_x rE2_x D283_108 ?_
  refine s_Al gk2 (Or.inr ⟨2, D283_109, rfl⟩) ?_
  refine s_Il gk7 (Or.inl D283_110) ?_
  refine s_Il gk8 (Or.inl D283_112) ?_
  refine s_Cv (ln := 3) (kd := 8) (C := "WordWright$Language") (by decide) (by decide +kernel) rfl (l_V rfl ok231 rfl wd650 wd505 wd506 D283_114.1) (?_ : rSnd _ _ 117 _)
  refine s_Bin q_iadd n_add rG2_x e_add D283_117 ?_
  refine s_Is sk9 (show 9 < 10 from by decide) (Or.inl D283_118) ?_
  refine s_Al gk0 (Or.inr ⟨0, D283_120, rfl⟩) ?_
  refine s_Gf (ci := 9) (r := ("WordWright$Workshop", kT9, 1)) rfl (show 0 < 1 from by decide) rfl (Or.inl wd148) (Or.inl rfl) rfl D283_121 ?_
  refine s_Gf (ci := 1) (r := ("WordWright$Draft", kT1, 12)) rfl (show 3 < 12 from by decide) rfl (Or.inl wd112) (Or.inl rfl) rfl D283_124 ?_
  refine s_Il gk5 (Or.inl D283_127) ?_
  refine s_ic D283_129 kc_i_4 (by decide) ?_
  refine s_Bin q_imul n_mul rG2_x rE2_x D283_130 ?_
  refine s_Il gk8 (Or.inl D283_131) ?_
  refine s_Bin q_iadd n_add rG2_x e_add D283_133 ?_
  refine s_Al gk0 (Or.inr ⟨0, D283_134, rfl⟩) ?_
  refine s_Gf (ci := 9) (r := ("WordWright$Workshop", kT9, 1)) rfl (show 0 < 1 from by decide) rfl (Or.inl wd148) (Or.inl rfl) rfl D283_135 ?_
  refine s_Il gk9 (Or.inl D283_138) ?_
  refine s_I2l D283_140 ?_
  refine s_Cv (ln := 3) (kd := 4) (C := "WordWright$Draft") (by decide) (by decide +kernel) rfl (l_V rfl ok55 rfl wd651 wd642 wd643 D283_141.1) (?_ : rSnd _ _ 144 _)
  refine s_Ast (t := 0) rfl q_iast rfl (by decide) D283_144 ?_
  refine s_Inc gk8 sk8 (show 8 < 10 from by decide) kc_i_1 D283_145 ?_
  exact s_Go (pc' := 92) D283_148.1 (by decide) (s_Jb rfl)
theorem P283_11 : rSnd lab M283 11 B283_11 := by
  refine s_Il gk5 (Or.inl D283_11) ?_
  refine s_Al gk0 (Or.inr ⟨0, D283_13, rfl⟩) ?_
  refine s_Gf (ci := 9) (r := ("WordWright$Workshop", kT9, 1)) rfl (show 0 < 1 from by decide) rfl (Or.inl wd148) (Or.inl rfl) rfl D283_14 ?_
  refine s_Gf (ci := 1) (r := ("WordWright$Draft", kT1, 12)) rfl (show 0 < 12 from by decide) rfl (Or.inl wd106) (Or.inl rfl) rfl D283_17 ?_
  refine s_Ic c_ge (i_ge (tg := 157) (by decide)) D283_20.1 P283_157 (?_ : rSnd _ _ 23 _)
  refine s_Il gk5 (Or.inl D283_23) ?_
  refine s_si D283_25 kc_s_10240 (by decide) ?_
  refine s_Ic c_ge (i_ge (tg := 157) (by decide)) D283_28.1 P283_157 (?_ : rSnd _ _ 31 _)
  refine s_Al gk0 (Or.inr ⟨0, D283_31, rfl⟩) ?_
  refine s_Gf (ci := 9) (r := ("WordWright$Workshop", kT9, 1)) rfl (show 0 < 1 from by decide) rfl (Or.inl wd148) (Or.inl rfl) rfl D283_32 ?_
  refine s_Gf (ci := 1) (r := ("WordWright$Draft", kT1, 12)) rfl (show 1 < 12 from by decide) rfl (Or.inl wd108) (Or.inl rfl) rfl D283_35 ?_
  refine s_Il gk5 (Or.inl D283_38) ?_
  refine s_Ald (t := 2) (ty := .long) rfl q_lald rfl D283_40 ?_
  refine s_L2i D283_41 ?_
  refine s_bi D283_42 kc_b_10 (by decide) ?_
  refine s_Div q_idiv n_div g_div D283_44 ?_
  refine s_Is sk6 (show 6 < 10 from by decide) (Or.inl D283_45) ?_
  refine s_Al gk0 (Or.inr ⟨0, D283_47, rfl⟩) ?_
  refine s_Gf (ci := 9) (r := ("WordWright$Workshop", kT9, 1)) rfl (show 0 < 1 from by decide) rfl (Or.inl wd148) (Or.inl rfl) rfl D283_48 ?_
  refine s_Gf (ci := 1) (r := ("WordWright$Draft", kT1, 12)) rfl (show 1 < 12 from by decide) rfl (Or.inl wd108) (Or.inl rfl) rfl D283_51 ?_
  refine s_Il gk5 (Or.inl D283_54) ?_
  refine s_Ald (t := 2) (ty := .long) rfl q_lald rfl D283_56 ?_
  refine s_L2i D283_57 ?_
  refine s_bi D283_58 kc_b_10 (by decide) ?_
  refine s_Div q_irem n_rem rG2_x D283_60 ?_
  refine s_Is sk7 (show 7 < 10 from by decide) (Or.inl D283_61) ?_
  refine s_Al gk0 (Or.inr ⟨0, D283_63, rfl⟩) ?_
  refine s_Gf (ci := 9) (r := ("WordWright$Workshop", kT9, 1)) rfl (show 0 < 1 from by decide) rfl (Or.inl wd148) (Or.inl rfl) rfl D283_64 ?_
  refine s_Gf (ci := 1) (r := ("WordWright$Draft", kT1, 12)) rfl (show 2 < 12 from by decide) rfl (Or.inl wd110) (Or.inl rfl) rfl D283_67 ?_
  refine s_Il gk5 (Or.inl D283_70) ?_
  refine s_Al gk1 (Or.inr ⟨1, D283_72, rfl⟩) ?_
  refine s_Il gk6 (Or.inl D283_73) ?_
  refine s_Cv (ln := 3) (kd := 8) (C := "WordWright$Language") (by decide) (by decide +kernel) rfl (l_V rfl ok240 rfl wd646 wd509 wd510 D283_75.1) (?_ : rSnd _ _ 78 _)
  refine s_Al gk2 (Or.inr ⟨2, D283_78, rfl⟩) ?_
  refine s_Il gk7 (Or.inl D283_79) ?_
  refine s_Cv (ln := 3) (kd := 8) (C := "WordWright$Language") (by decide) (by decide +kernel) rfl (l_V rfl ok240 rfl wd646 wd509 wd510 D283_81.1) (?_ : rSnd _ _ 84 _)
  refine s_Il gk3 (Or.inr ⟨3, D283_84, rfl⟩) ?_
  refine s_Cs (id := 411) rfl (l_S rfl ok286 rfl wd647 wd648 D283_85.1) (?_ : rSnd _ _ 88 _)
  refine s_Ast (t := 1) rfl q_zast rfl (by decide) D283_88 ?_
  refine s_ic D283_89 kc_i_0 (by decide) ?_
  refine s_Is sk8 (show 8 < 10 from by decide) (Or.inl D283_90) ?_
  exact P283_92
theorem P283_0 : rSnd lab M283 0 B283_0 := by
  refine s_Ent ?_
  refine s_Al gk0 (Or.inr ⟨0, D283_0, rfl⟩) ?_
  refine s_Gf (ci := 9) (r := ("WordWright$Workshop", kT9, 1)) rfl (show 0 < 1 from by decide) rfl (Or.inl wd148) (Or.inl rfl) rfl D283_1 ?_
  refine s_lc D283_4 kc_L_0 (by decide) ?_
  refine s_Cv (ln := 3) (kd := 4) (C := "WordWright$Draft") (by decide) (by decide +kernel) rfl (l_V rfl ok49 rfl wd635 wd636 wd637 D283_5.1) (?_ : rSnd _ _ 8 _)
  refine s_ic D283_8 kc_i_0 (by decide) ?_
  refine s_Is sk5 (show 5 < 10 from by decide) (Or.inl D283_9) ?_
  exact P283_11
theorem D284_0 : rDec M284 0 (.aload_n 1) 1 1 := ⟨by decide +kernel, rfl⟩
theorem D284_1 : rDec M284 1 (.bipush 15) 2 3 := ⟨by decide +kernel, rfl⟩
theorem D284_3 : rDec M284 3 (.invokevirtual 68) 3 6 := ⟨by decide +kernel, rfl⟩
theorem D284_6 : rDec M284 6 (.istore_n 3) 1 7 := ⟨by decide +kernel, rfl⟩
theorem D284_7 : rDec M284 7 (.aload_n 0) 1 8 := ⟨by decide +kernel, rfl⟩
theorem D284_8 : rDec M284 8 (.getfield 12) 3 11 := ⟨by decide +kernel, rfl⟩
theorem D284_11 : rDec M284 11 (.lconst 0) 1 12 := ⟨by decide +kernel, rfl⟩
theorem D284_12 : rDec M284 12 (.invokevirtual 24) 3 15 := ⟨by decide +kernel, rfl⟩
theorem D284_15 : rDec M284 15 (.iconst 0) 1 16 := ⟨by decide +kernel, rfl⟩
theorem D284_16 : rDec M284 16 (.istore 4) 2 18 := ⟨by decide +kernel, rfl⟩
theorem D284_18 : rDec M284 18 (.iload 4) 2 20 := ⟨by decide +kernel, rfl⟩
theorem D284_20 : rDec M284 20 (.aload_n 0) 1 21 := ⟨by decide +kernel, rfl⟩
theorem D284_21 : rDec M284 21 (.getfield 12) 3 24 := ⟨by decide +kernel, rfl⟩
theorem D284_24 : rDec M284 24 (.getfield 28) 3 27 := ⟨by decide +kernel, rfl⟩
theorem D284_27 : rDec M284 27 (.if_icmp .ge 100) 3 30 := ⟨by decide +kernel, rfl⟩
theorem D284_30 : rDec M284 30 (.iload 4) 2 32 := ⟨by decide +kernel, rfl⟩
theorem D284_32 : rDec M284 32 (.sipush 10240) 3 35 := ⟨by decide +kernel, rfl⟩
theorem D284_35 : rDec M284 35 (.if_icmp .ge 92) 3 38 := ⟨by decide +kernel, rfl⟩
theorem D284_38 : rDec M284 38 (.aload_n 0) 1 39 := ⟨by decide +kernel, rfl⟩
theorem D284_39 : rDec M284 39 (.getfield 12) 3 42 := ⟨by decide +kernel, rfl⟩
theorem D284_42 : rDec M284 42 (.getfield 32) 3 45 := ⟨by decide +kernel, rfl⟩
theorem D284_45 : rDec M284 45 (.iload 4) 2 47 := ⟨by decide +kernel, rfl⟩
theorem D284_47 : rDec M284 47 (.laload) 1 48 := ⟨by decide +kernel, rfl⟩
theorem D284_48 : rDec M284 48 (.l2i) 1 49 := ⟨by decide +kernel, rfl⟩
theorem D284_49 : rDec M284 49 (.istore 5) 2 51 := ⟨by decide +kernel, rfl⟩
theorem D284_51 : rDec M284 51 (.aload_n 0) 1 52 := ⟨by decide +kernel, rfl⟩
theorem D284_52 : rDec M284 52 (.getfield 12) 3 55 := ⟨by decide +kernel, rfl⟩
theorem D284_55 : rDec M284 55 (.getfield 36) 3 58 := ⟨by decide +kernel, rfl⟩
theorem D284_58 : rDec M284 58 (.iload 4) 2 60 := ⟨by decide +kernel, rfl⟩
theorem D284_60 : rDec M284 60 (.iload_n 3) 1 61 := ⟨by decide +kernel, rfl⟩
theorem D284_61 : rDec M284 61 (.iload 5) 2 63 := ⟨by decide +kernel, rfl⟩
theorem D284_63 : rDec M284 63 (.ishr) 1 64 := ⟨by decide +kernel, rfl⟩
theorem D284_64 : rDec M284 64 (.iconst 1) 1 65 := ⟨by decide +kernel, rfl⟩
theorem D284_65 : rDec M284 65 (.iand) 1 66 := ⟨by decide +kernel, rfl⟩
theorem D284_66 : rDec M284 66 (.ifCond .eq 7) 3 69 := ⟨by decide +kernel, rfl⟩
theorem D284_69 : rDec M284 69 (.iconst 1) 1 70 := ⟨by decide +kernel, rfl⟩
theorem D284_70 : rDec M284 70 (.goto 4) 3 73 := ⟨by decide +kernel, rfl⟩
theorem D284_73 : rDec M284 73 (.iconst 0) 1 74 := ⟨by decide +kernel, rfl⟩
theorem D284_74 : rDec M284 74 (.bastore) 1 75 := ⟨by decide +kernel, rfl⟩
theorem D284_75 : rDec M284 75 (.iconst 0) 1 76 := ⟨by decide +kernel, rfl⟩
theorem D284_76 : rDec M284 76 (.istore 6) 2 78 := ⟨by decide +kernel, rfl⟩
theorem D284_78 : rDec M284 78 (.iload 6) 2 80 := ⟨by decide +kernel, rfl⟩
theorem D284_80 : rDec M284 80 (.iconst 4) 1 81 := ⟨by decide +kernel, rfl⟩
theorem D284_81 : rDec M284 81 (.if_icmp .ge 40) 3 84 := ⟨by decide +kernel, rfl⟩
theorem D284_84 : rDec M284 84 (.aload_n 0) 1 85 := ⟨by decide +kernel, rfl⟩
theorem D284_85 : rDec M284 85 (.getfield 12) 3 88 := ⟨by decide +kernel, rfl⟩
theorem D284_88 : rDec M284 88 (.getfield 49) 3 91 := ⟨by decide +kernel, rfl⟩
theorem D284_91 : rDec M284 91 (.iload 4) 2 93 := ⟨by decide +kernel, rfl⟩
theorem D284_93 : rDec M284 93 (.iconst 4) 1 94 := ⟨by decide +kernel, rfl⟩
theorem D284_94 : rDec M284 94 (.imul) 1 95 := ⟨by decide +kernel, rfl⟩
theorem D284_95 : rDec M284 95 (.iload 6) 2 97 := ⟨by decide +kernel, rfl⟩
theorem D284_97 : rDec M284 97 (.iadd) 1 98 := ⟨by decide +kernel, rfl⟩
theorem D284_98 : rDec M284 98 (.aload_n 0) 1 99 := ⟨by decide +kernel, rfl⟩
theorem D284_99 : rDec M284 99 (.getfield 12) 3 102 := ⟨by decide +kernel, rfl⟩
theorem D284_102 : rDec M284 102 (.aload_n 1) 1 103 := ⟨by decide +kernel, rfl⟩
theorem D284_103 : rDec M284 103 (.iload 5) 2 105 := ⟨by decide +kernel, rfl⟩
theorem D284_105 : rDec M284 105 (.iload 6) 2 107 := ⟨by decide +kernel, rfl⟩
theorem D284_107 : rDec M284 107 (.invokevirtual 42) 3 110 := ⟨by decide +kernel, rfl⟩
theorem D284_110 : rDec M284 110 (.i2l) 1 111 := ⟨by decide +kernel, rfl⟩
theorem D284_111 : rDec M284 111 (.invokevirtual 53) 3 114 := ⟨by decide +kernel, rfl⟩
theorem D284_114 : rDec M284 114 (.iastore) 1 115 := ⟨by decide +kernel, rfl⟩
theorem D284_115 : rDec M284 115 (.iinc 6 1) 3 118 := ⟨by decide +kernel, rfl⟩
theorem D284_118 : rDec M284 118 (.goto (-40)) 3 121 := ⟨by decide +kernel, rfl⟩
theorem D284_121 : rDec M284 121 (.iinc 4 1) 3 124 := ⟨by decide +kernel, rfl⟩
theorem D284_124 : rDec M284 124 (.goto (-106)) 3 127 := ⟨by decide +kernel, rfl⟩
theorem D284_127 : rDec M284 127 (.aload_n 0) 1 128 := ⟨by decide +kernel, rfl⟩
theorem D284_128 : rDec M284 128 (.getfield 12) 3 131 := ⟨by decide +kernel, rfl⟩
theorem D284_131 : rDec M284 131 (.aload_n 2) 1 132 := ⟨by decide +kernel, rfl⟩
theorem D284_132 : rDec M284 132 (.invokevirtual 57) 3 135 := ⟨by decide +kernel, rfl⟩
theorem D284_135 : rDec M284 135 (.ireturn) 1 136 := ⟨by decide +kernel, rfl⟩
theorem P284_127 : rSnd lab M284 127 B284_127 := by
  refine s_Al gk0 (Or.inr ⟨0, D284_127, rfl⟩) ?_
  refine s_Gf (ci := 9) (r := ("WordWright$Workshop", kT9, 1)) rfl (show 0 < 1 from by decide) rfl (Or.inl wd148) (Or.inl rfl) rfl D284_128 ?_
  refine s_Al gk2 (Or.inr ⟨2, D284_131, rfl⟩) ?_
  refine s_Cv (ln := 3) (kd := 4) (C := "WordWright$Draft") (by decide) (by decide +kernel) rfl (l_V rfl ok52 rfl wd652 wd653 wd654 D284_132.1) (?_ : rSnd _ _ 135 _)
  exact s_Ri (Or.inr ⟨rfl, by decide⟩) D284_135.1
theorem P284_121 : rSnd lab M284 121 B284_121 := by
  refine s_Inc gk4 sk4 (show 4 < 7 from by decide) kc_i_1 D284_121 ?_
  exact s_Go (pc' := 18) D284_124.1 (by decide) (s_Jb rfl)
theorem P284_78 : rSnd lab M284 78 B284_78 := by
  refine s_Il gk6 (Or.inl D284_78) ?_
  refine s_ic D284_80 kc_i_4 (by decide) ?_
  refine s_Ic c_ge (i_ge (tg := 121) (by decide)) D284_81.1 P284_121 (?_ : rSnd _ _ 84 _)
  refine s_Al gk0 (Or.inr ⟨0, D284_84, rfl⟩) ?_
  refine s_Gf (ci := 9) (r := ("WordWright$Workshop", kT9, 1)) rfl (show 0 < 1 from by decide) rfl (Or.inl wd148) (Or.inl rfl) rfl D284_85 ?_
  refine s_Gf (ci := 1) (r := ("WordWright$Draft", kT1, 12)) rfl (show 3 < 12 from by decide) rfl (Or.inl wd112) (Or.inl rfl) rfl D284_88 ?_
  refine s_Il gk4 (Or.inl D284_91) ?_
  refine s_ic D284_93 kc_i_4 (by decide) ?_
  refine s_Bin q_imul n_mul rG2_x rE2_x D284_94 ?_
  refine s_Il gk6 (Or.inl D284_95) ?_
  refine s_Bin q_iadd n_add rG2_x e_add D284_97 ?_
  refine s_Al gk0 (Or.inr ⟨0, D284_98, rfl⟩) ?_
  refine s_Gf (ci := 9) (r := ("WordWright$Workshop", kT9, 1)) rfl (show 0 < 1 from by decide) rfl (Or.inl wd148) (Or.inl rfl) rfl D284_99 ?_
  refine s_Al gk1 (Or.inr ⟨1, D284_102, rfl⟩) ?_
  refine s_Il gk5 (Or.inl D284_103) ?_
  refine s_Il gk6 (Or.inl D284_105) ?_
  refine s_Cv (ln := 3) (kd := 8) (C := "WordWright$Language") (by decide) (by decide +kernel) rfl (l_V rfl ok231 rfl wd650 wd505 wd506 D284_107.1) (?_ : rSnd _ _ 110 _)
  refine s_I2l D284_110 ?_
  refine s_Cv (ln := 3) (kd := 4) (C := "WordWright$Draft") (by decide) (by decide +kernel) rfl (l_V rfl ok55 rfl wd651 wd642 wd643 D284_111.1) (?_ : rSnd _ _ 114 _)
  refine s_Ast (t := 0) rfl q_iast rfl (by decide) D284_114 ?_
  refine s_Inc gk6 sk6 (show 6 < 7 from by decide) kc_i_1 D284_115 ?_
  exact s_Go (pc' := 78) D284_118.1 (by decide) (s_Jb rfl)
theorem P284_74 : rSnd lab M284 74 B284_74 := by
  refine s_Ast (t := 1) rfl q_zast rfl (by decide) D284_74 ?_
  refine s_ic D284_75 kc_i_0 (by decide) ?_
  refine s_Is sk6 (show 6 < 7 from by decide) (Or.inl D284_76) ?_
  exact P284_78
theorem P284_73 : rSnd lab M284 73 B284_73 := by
  refine s_ic D284_73 kc_i_0 (by decide) ?_
  exact P284_74
theorem P284_18 : rSnd lab M284 18 B284_18 := by
  refine s_Il gk4 (Or.inl D284_18) ?_
  refine s_Al gk0 (Or.inr ⟨0, D284_20, rfl⟩) ?_
  refine s_Gf (ci := 9) (r := ("WordWright$Workshop", kT9, 1)) rfl (show 0 < 1 from by decide) rfl (Or.inl wd148) (Or.inl rfl) rfl D284_21 ?_
  refine s_Gf (ci := 1) (r := ("WordWright$Draft", kT1, 12)) rfl (show 0 < 12 from by decide) rfl (Or.inl wd106) (Or.inl rfl) rfl D284_24 ?_
  refine s_Ic c_ge (i_ge (tg := 127) (by decide)) D284_27.1 P284_127 (?_ : rSnd _ _ 30 _)
  refine s_Il gk4 (Or.inl D284_30) ?_
  refine s_si D284_32 kc_s_10240 (by decide) ?_
  refine s_Ic c_ge (i_ge (tg := 127) (by decide)) D284_35.1 P284_127 (?_ : rSnd _ _ 38 _)
  refine s_Al gk0 (Or.inr ⟨0, D284_38, rfl⟩) ?_
  refine s_Gf (ci := 9) (r := ("WordWright$Workshop", kT9, 1)) rfl (show 0 < 1 from by decide) rfl (Or.inl wd148) (Or.inl rfl) rfl D284_39 ?_
  refine s_Gf (ci := 1) (r := ("WordWright$Draft", kT1, 12)) rfl (show 1 < 12 from by decide) rfl (Or.inl wd108) (Or.inl rfl) rfl D284_42 ?_
  refine s_Il gk4 (Or.inl D284_45) ?_
  refine s_Ald (t := 2) (ty := .long) rfl q_lald rfl D284_47 ?_
  refine s_L2i D284_48 ?_
  refine s_Is sk5 (show 5 < 7 from by decide) (Or.inl D284_49) ?_
  refine s_Al gk0 (Or.inr ⟨0, D284_51, rfl⟩) ?_
  refine s_Gf (ci := 9) (r := ("WordWright$Workshop", kT9, 1)) rfl (show 0 < 1 from by decide) rfl (Or.inl wd148) (Or.inl rfl) rfl D284_52 ?_
  refine s_Gf (ci := 1) (r := ("WordWright$Draft", kT1, 12)) rfl (show 2 < 12 from by decide) rfl (Or.inl wd110) (Or.inl rfl) rfl D284_55 ?_
  refine s_Il gk4 (Or.inl D284_58) ?_
  refine s_Il gk3 (Or.inr ⟨3, D284_60, rfl⟩) ?_
  refine s_Il gk5 (Or.inl D284_61) ?_
  refine s_Bin q_ishr n_shr g_shr rE2_x D284_63 ?_
  refine s_ic D284_64 kc_i_1 (by decide) ?_
  refine s_Bin q_iand n_and g_and rE2_x D284_65 ?_
  refine s_If c_eq (fun _ => rfl) (fun _ _ => rfl) (b_eq (tg := 73) (by decide)) D284_66.1 P284_73 (?_ : rSnd _ _ 69 _)
  refine s_ic D284_69 kc_i_1 (by decide) ?_
  exact s_Go (pc' := 74) D284_70.1 (by decide) P284_74
theorem P284_0 : rSnd lab M284 0 B284_0 := by
  refine s_Ent ?_
  refine s_Al gk1 (Or.inr ⟨1, D284_0, rfl⟩) ?_
  refine s_bi D284_1 kc_b_15 (by decide) ?_
  refine s_Cv (ln := 3) (kd := 8) (C := "WordWright$Language") (by decide) (by decide +kernel) rfl (l_V rfl ok243 rfl wd1305 wd799 wd800 D284_3.1) (?_ : rSnd _ _ 6 _)
  refine s_Is sk3 (show 3 < 7 from by decide) (Or.inr ⟨3, D284_6, rfl⟩) ?_
  refine s_Al gk0 (Or.inr ⟨0, D284_7, rfl⟩) ?_
  refine s_Gf (ci := 9) (r := ("WordWright$Workshop", kT9, 1)) rfl (show 0 < 1 from by decide) rfl (Or.inl wd148) (Or.inl rfl) rfl D284_8 ?_
  refine s_lc D284_11 kc_L_0 (by decide) ?_
  refine s_Cv (ln := 3) (kd := 4) (C := "WordWright$Draft") (by decide) (by decide +kernel) rfl (l_V rfl ok49 rfl wd635 wd636 wd637 D284_12.1) (?_ : rSnd _ _ 15 _)
  refine s_ic D284_15 kc_i_0 (by decide) ?_
  refine s_Is sk4 (show 4 < 7 from by decide) (Or.inl D284_16) ?_
  exact P284_18
theorem D285_0 : rDec M285 0 (.aload_n 0) 1 1 := ⟨by decide +kernel, rfl⟩
theorem D285_1 : rDec M285 1 (.invokespecial 3) 3 4 := ⟨by decide +kernel, rfl⟩
theorem D285_4 : rDec M285 4 (.aload_n 0) 1 5 := ⟨by decide +kernel, rfl⟩
theorem D285_5 : rDec M285 5 (.new 9) 3 8 := ⟨by decide +kernel, rfl⟩
theorem D285_8 : rDec M285 8 (.dup) 1 9 := ⟨by decide +kernel, rfl⟩
theorem D285_9 : rDec M285 9 (.invokespecial 11) 3 12 := ⟨by decide +kernel, rfl⟩
theorem D285_12 : rDec M285 12 (.putfield 12) 3 15 := ⟨by decide +kernel, rfl⟩
theorem D285_15 : rDec M285 15 (.return_) 1 16 := ⟨by decide +kernel, rfl⟩
theorem P285_0 : rSnd lab M285 0 B285_0 := by
  refine s_Ent ?_
  refine s_Al gk0 (Or.inr ⟨0, D285_0, rfl⟩) ?_
  refine s_Oi rfl wd97 wd62 wd63 D285_1 ?_
  refine s_Al gk0 (Or.inr ⟨0, D285_4, rfl⟩) ?_
  refine s_New (ci := 1) (r := ("WordWright$Draft", kT1, 12)) rfl rfl wd98 wd99 wd4 kr1 D285_5 ?_
  refine s_Dup D285_8 ?_
  refine s_Ci (id := 52) rfl (l_IN (j := 29) rfl ok50 rfl rfl rfl rfl wd101 D285_9.1) (?_ : rSnd _ _ 12 _)
  refine s_Pf (ci := 9) (r := ("WordWright$Workshop", kT9, 1)) rfl (show 0 < 1 from by decide) rfl (Or.inr ⟨rfl, wd148, rfl, rfl⟩) (Or.inl rfl) rfl (by decide) D285_12 ?_
  exact s_Rv rfl D285_15.1
theorem D286_0 : rDec M286 0 (.iload_n 2) 1 1 := ⟨by decide +kernel, rfl⟩
theorem D286_1 : rDec M286 1 (.lookupswitch 55 #[(5, 27), (6, 41)]) 27 28 := ⟨by decide +kernel, rfl⟩
theorem D286_28 : rDec M286 28 (.iload_n 0) 1 29 := ⟨by decide +kernel, rfl⟩
theorem D286_29 : rDec M286 29 (.ifCond .ne 7) 3 32 := ⟨by decide +kernel, rfl⟩
theorem D286_32 : rDec M286 32 (.iload_n 1) 1 33 := ⟨by decide +kernel, rfl⟩
theorem D286_33 : rDec M286 33 (.ifCond .eq 7) 3 36 := ⟨by decide +kernel, rfl⟩
theorem D286_36 : rDec M286 36 (.iconst 1) 1 37 := ⟨by decide +kernel, rfl⟩
theorem D286_37 : rDec M286 37 (.goto 4) 3 40 := ⟨by decide +kernel, rfl⟩
theorem D286_40 : rDec M286 40 (.iconst 0) 1 41 := ⟨by decide +kernel, rfl⟩
theorem D286_41 : rDec M286 41 (.ireturn) 1 42 := ⟨by decide +kernel, rfl⟩
theorem D286_42 : rDec M286 42 (.iload_n 0) 1 43 := ⟨by decide +kernel, rfl⟩
theorem D286_43 : rDec M286 43 (.ifCond .eq 11) 3 46 := ⟨by decide +kernel, rfl⟩
theorem D286_46 : rDec M286 46 (.iload_n 1) 1 47 := ⟨by decide +kernel, rfl⟩
theorem D286_47 : rDec M286 47 (.ifCond .eq 7) 3 50 := ⟨by decide +kernel, rfl⟩
theorem D286_50 : rDec M286 50 (.iconst 1) 1 51 := ⟨by decide +kernel, rfl⟩
theorem D286_51 : rDec M286 51 (.goto 4) 3 54 := ⟨by decide +kernel, rfl⟩
theorem D286_54 : rDec M286 54 (.iconst 0) 1 55 := ⟨by decide +kernel, rfl⟩
theorem D286_55 : rDec M286 55 (.ireturn) 1 56 := ⟨by decide +kernel, rfl⟩
theorem D286_56 : rDec M286 56 (.iload_n 0) 1 57 := ⟨by decide +kernel, rfl⟩
theorem D286_57 : rDec M286 57 (.ifCond .eq 11) 3 60 := ⟨by decide +kernel, rfl⟩
theorem D286_60 : rDec M286 60 (.iload_n 1) 1 61 := ⟨by decide +kernel, rfl⟩
theorem D286_61 : rDec M286 61 (.ifCond .ne 7) 3 64 := ⟨by decide +kernel, rfl⟩
theorem D286_64 : rDec M286 64 (.iconst 1) 1 65 := ⟨by decide +kernel, rfl⟩
theorem D286_65 : rDec M286 65 (.goto 4) 3 68 := ⟨by decide +kernel, rfl⟩
theorem D286_68 : rDec M286 68 (.iconst 0) 1 69 := ⟨by decide +kernel, rfl⟩
theorem D286_69 : rDec M286 69 (.ireturn) 1 70 := ⟨by decide +kernel, rfl⟩
theorem P286_69 : rSnd lab M286 69 B286_69 := by
  exact s_Ri (Or.inr ⟨rfl, by decide⟩) D286_69.1
theorem P286_68 : rSnd lab M286 68 B286_68 := by
  refine s_ic D286_68 kc_i_0 (by decide) ?_
  exact P286_69
theorem P286_56 : rSnd lab M286 56 B286_56 := by
  refine s_Il gk0 (Or.inr ⟨0, D286_56, rfl⟩) ?_
  refine s_If c_eq (fun _ => rfl) (fun _ _ => rfl) (b_eq (tg := 68) (by decide)) D286_57.1 P286_68 (?_ : rSnd _ _ 60 _)
  refine s_Il gk1 (Or.inr ⟨1, D286_60, rfl⟩) ?_
  refine s_If c_ne (fun _ => rfl) (fun _ _ => rfl) (b_ne (tg := 68) (by decide)) D286_61.1 P286_68 (?_ : rSnd _ _ 64 _)
  refine s_ic D286_64 kc_i_1 (by decide) ?_
  exact s_Go (pc' := 69) D286_65.1 (by decide) P286_69
theorem P286_55 : rSnd lab M286 55 B286_55 := by
  exact s_Ri (Or.inr ⟨rfl, by decide⟩) D286_55.1
theorem P286_54 : rSnd lab M286 54 B286_54 := by
  refine s_ic D286_54 kc_i_0 (by decide) ?_
  exact P286_55
theorem P286_42 : rSnd lab M286 42 B286_42 := by
  refine s_Il gk0 (Or.inr ⟨0, D286_42, rfl⟩) ?_
  refine s_If c_eq (fun _ => rfl) (fun _ _ => rfl) (b_eq (tg := 54) (by decide)) D286_43.1 P286_54 (?_ : rSnd _ _ 46 _)
  refine s_Il gk1 (Or.inr ⟨1, D286_46, rfl⟩) ?_
  refine s_If c_eq (fun _ => rfl) (fun _ _ => rfl) (b_eq (tg := 54) (by decide)) D286_47.1 P286_54 (?_ : rSnd _ _ 50 _)
  refine s_ic D286_50 kc_i_1 (by decide) ?_
  exact s_Go (pc' := 55) D286_51.1 (by decide) P286_55
theorem P286_41 : rSnd lab M286 41 B286_41 := by
  exact s_Ri (Or.inr ⟨rfl, by decide⟩) D286_41.1
theorem P286_40 : rSnd lab M286 40 B286_40 := by
  refine s_ic D286_40 kc_i_0 (by decide) ?_
  exact P286_41
theorem P286_36 : rSnd lab M286 36 B286_36 := by
  refine s_ic D286_36 kc_i_1 (by decide) ?_
  exact s_Go (pc' := 41) D286_37.1 (by decide) P286_41
theorem P286_28 : rSnd lab M286 28 B286_28 := by
  refine s_Il gk0 (Or.inr ⟨0, D286_28, rfl⟩) ?_
  refine s_If c_ne (fun _ => rfl) (fun _ _ => rfl) (b_ne (tg := 36) (by decide)) D286_29.1 P286_36 (?_ : rSnd _ _ 32 _)
  refine s_Il gk1 (Or.inr ⟨1, D286_32, rfl⟩) ?_
  refine s_If c_eq (fun _ => rfl) (fun _ _ => rfl) (b_eq (tg := 40) (by decide)) D286_33.1 P286_40 (?_ : rSnd _ _ 36 _)
  exact P286_36
theorem P286_0 : rSnd lab M286 0 B286_0 := by
  refine s_Ent ?_
  refine s_Il gk2 (Or.inr ⟨2, D286_0, rfl⟩) ?_
  exact s_Lsw (tg1 := 28) (tg2 := 42) (tgd := 56) D286_1.1 (by decide) (by decide) (by decide) (by decide) (by decide) P286_28 P286_42 P286_56
