-- ===== rows and blocks, 0 =====
theorem D0_0 : rDec M0 0 (.iload_n 0) 1 1 := ⟨by decide +kernel, rfl⟩
theorem D0_1 : rDec M0 1 (.iload_n 1) 1 2 := ⟨by decide +kernel, rfl⟩
theorem D0_2 : rDec M0 2 (.aconst_null) 1 3 := ⟨by decide +kernel, rfl⟩
theorem D0_3 : rDec M0 3 (.invokestatic 105) 3 6 := ⟨by decide +kernel, rfl⟩
theorem D0_6 : rDec M0 6 (.ireturn) 1 7 := ⟨by decide +kernel, rfl⟩
theorem P0_0 : rSnd lab M0 0 B0_0 := by
  refine s_Ent ?_
  refine s_Il gk0 (Or.inr ⟨0, D0_0, rfl⟩) ?_
  refine s_Il gk1 (Or.inr ⟨1, D0_1, rfl⟩) ?_
  refine s_nu D0_2 ?_
  refine s_Cs (id := 1) rfl (l_S rfl ok1 rfl wd2104 wd2105 D0_3.1) (?_ : rSnd _ _ 6 _)
  exact s_Ri (Or.inl rfl) D0_6.1
theorem D1_0 : rDec M1 0 (.iload_n 0) 1 1 := ⟨by decide +kernel, rfl⟩
theorem D1_1 : rDec M1 1 (.ifCond .lt 8) 3 4 := ⟨by decide +kernel, rfl⟩
theorem D1_4 : rDec M1 4 (.iload_n 0) 1 5 := ⟨by decide +kernel, rfl⟩
theorem D1_5 : rDec M1 5 (.iload_n 1) 1 6 := ⟨by decide +kernel, rfl⟩
theorem D1_6 : rDec M1 6 (.if_icmp .lt 10) 3 9 := ⟨by decide +kernel, rfl⟩
theorem D1_16 : rDec M1 16 (.iload_n 0) 1 17 := ⟨by decide +kernel, rfl⟩
theorem D1_17 : rDec M1 17 (.ireturn) 1 18 := ⟨by decide +kernel, rfl⟩
theorem P1_16 : rSnd lab M1 16 B1_16 := by
  refine s_Il gk0 (Or.inr ⟨0, D1_16, rfl⟩) ?_
  exact s_Ri (Or.inl rfl) D1_17.1
theorem P1_0 : rSnd lab M1 0 B1_0 := by
  refine s_Ent ?_
  refine s_Il gk0 (Or.inr ⟨0, D1_0, rfl⟩) ?_
  refine s_If c_lt (fun _ => rfl) (fun _ _ => rfl) (b_lt (tg := 9) (by decide)) D1_1.1 rSnd_none (?_ : rSnd _ _ 4 _)
  refine s_Il gk0 (Or.inr ⟨0, D1_4, rfl⟩) ?_
  refine s_Il gk1 (Or.inr ⟨1, D1_5, rfl⟩) ?_
  refine s_Ic c_lt (i_lt (tg := 16) (by decide)) D1_6.1 P1_16 (?_ : rSnd _ _ 9 _)
  exact rSnd_none
theorem D2_0 : rDec M2 0 (.iload_n 0) 1 1 := ⟨by decide +kernel, rfl⟩
theorem D2_1 : rDec M2 1 (.ifCond .gt 14) 3 4 := ⟨by decide +kernel, rfl⟩
theorem D2_15 : rDec M2 15 (.bipush 31) 2 17 := ⟨by decide +kernel, rfl⟩
theorem D2_17 : rDec M2 17 (.istore_n 1) 1 18 := ⟨by decide +kernel, rfl⟩
theorem D2_18 : rDec M2 18 (.iload_n 0) 1 19 := ⟨by decide +kernel, rfl⟩
theorem D2_19 : rDec M2 19 (.ldc_w 264) 3 22 := ⟨by decide +kernel, rfl⟩
theorem D2_22 : rDec M2 22 (.if_icmp .lt 11) 3 25 := ⟨by decide +kernel, rfl⟩
theorem D2_25 : rDec M2 25 (.iinc 1 (-16)) 3 28 := ⟨by decide +kernel, rfl⟩
theorem D2_28 : rDec M2 28 (.iload_n 0) 1 29 := ⟨by decide +kernel, rfl⟩
theorem D2_29 : rDec M2 29 (.bipush 16) 2 31 := ⟨by decide +kernel, rfl⟩
theorem D2_31 : rDec M2 31 (.iushr) 1 32 := ⟨by decide +kernel, rfl⟩
theorem D2_32 : rDec M2 32 (.istore_n 0) 1 33 := ⟨by decide +kernel, rfl⟩
theorem D2_33 : rDec M2 33 (.iload_n 0) 1 34 := ⟨by decide +kernel, rfl⟩
theorem D2_34 : rDec M2 34 (.sipush 256) 3 37 := ⟨by decide +kernel, rfl⟩
theorem D2_37 : rDec M2 37 (.if_icmp .lt 11) 3 40 := ⟨by decide +kernel, rfl⟩
theorem D2_40 : rDec M2 40 (.iinc 1 (-8)) 3 43 := ⟨by decide +kernel, rfl⟩
theorem D2_43 : rDec M2 43 (.iload_n 0) 1 44 := ⟨by decide +kernel, rfl⟩
theorem D2_44 : rDec M2 44 (.bipush 8) 2 46 := ⟨by decide +kernel, rfl⟩
theorem D2_46 : rDec M2 46 (.iushr) 1 47 := ⟨by decide +kernel, rfl⟩
theorem D2_47 : rDec M2 47 (.istore_n 0) 1 48 := ⟨by decide +kernel, rfl⟩
theorem D2_48 : rDec M2 48 (.iload_n 0) 1 49 := ⟨by decide +kernel, rfl⟩
theorem D2_49 : rDec M2 49 (.bipush 16) 2 51 := ⟨by decide +kernel, rfl⟩
theorem D2_51 : rDec M2 51 (.if_icmp .lt 10) 3 54 := ⟨by decide +kernel, rfl⟩
theorem D2_54 : rDec M2 54 (.iinc 1 (-4)) 3 57 := ⟨by decide +kernel, rfl⟩
theorem D2_57 : rDec M2 57 (.iload_n 0) 1 58 := ⟨by decide +kernel, rfl⟩
theorem D2_58 : rDec M2 58 (.iconst 4) 1 59 := ⟨by decide +kernel, rfl⟩
theorem D2_59 : rDec M2 59 (.iushr) 1 60 := ⟨by decide +kernel, rfl⟩
theorem D2_60 : rDec M2 60 (.istore_n 0) 1 61 := ⟨by decide +kernel, rfl⟩
theorem D2_61 : rDec M2 61 (.iload_n 0) 1 62 := ⟨by decide +kernel, rfl⟩
theorem D2_62 : rDec M2 62 (.iconst 4) 1 63 := ⟨by decide +kernel, rfl⟩
theorem D2_63 : rDec M2 63 (.if_icmp .lt 10) 3 66 := ⟨by decide +kernel, rfl⟩
theorem D2_66 : rDec M2 66 (.iinc 1 (-2)) 3 69 := ⟨by decide +kernel, rfl⟩
theorem D2_69 : rDec M2 69 (.iload_n 0) 1 70 := ⟨by decide +kernel, rfl⟩
theorem D2_70 : rDec M2 70 (.iconst 2) 1 71 := ⟨by decide +kernel, rfl⟩
theorem D2_71 : rDec M2 71 (.iushr) 1 72 := ⟨by decide +kernel, rfl⟩
theorem D2_72 : rDec M2 72 (.istore_n 0) 1 73 := ⟨by decide +kernel, rfl⟩
theorem D2_73 : rDec M2 73 (.iload_n 1) 1 74 := ⟨by decide +kernel, rfl⟩
theorem D2_74 : rDec M2 74 (.iload_n 0) 1 75 := ⟨by decide +kernel, rfl⟩
theorem D2_75 : rDec M2 75 (.iconst 1) 1 76 := ⟨by decide +kernel, rfl⟩
theorem D2_76 : rDec M2 76 (.iushr) 1 77 := ⟨by decide +kernel, rfl⟩
theorem D2_77 : rDec M2 77 (.isub) 1 78 := ⟨by decide +kernel, rfl⟩
theorem D2_78 : rDec M2 78 (.ireturn) 1 79 := ⟨by decide +kernel, rfl⟩
theorem P2_73 : rSnd lab M2 73 B2_73 := by
  refine s_Il gk1 (Or.inr ⟨1, D2_73, rfl⟩) ?_
  refine s_Il gk0 (Or.inr ⟨0, D2_74, rfl⟩) ?_
  refine s_ic D2_75 kc_i_1 (by decide) ?_
  refine s_Bin q_iushr n_ush g_ush rE2_x D2_76 ?_
  refine s_Bin q_isub n_sub rG2_x rE2_x D2_77 ?_
  exact s_Ri (Or.inl rfl) D2_78.1
theorem P2_61 : rSnd lab M2 61 B2_61 := by
  refine s_Il gk0 (Or.inr ⟨0, D2_61, rfl⟩) ?_
  refine s_ic D2_62 kc_i_4 (by decide) ?_
  refine s_Ic c_lt (i_lt (tg := 73) (by decide)) D2_63.1 P2_73 (?_ : rSnd _ _ 66 _)
  refine s_Inc gk1 sk1 (show 1 < 2 from by decide) kc_i_m2 D2_66 ?_
  refine s_Il gk0 (Or.inr ⟨0, D2_69, rfl⟩) ?_
  refine s_ic D2_70 kc_i_2 (by decide) ?_
  refine s_Bin q_iushr n_ush g_ush rE2_x D2_71 ?_
  refine s_Is sk0 (show 0 < 2 from by decide) (Or.inr ⟨0, D2_72, rfl⟩) ?_
  exact P2_73
theorem P2_48 : rSnd lab M2 48 B2_48 := by
  refine s_Il gk0 (Or.inr ⟨0, D2_48, rfl⟩) ?_
  refine s_bi D2_49 kc_b_16 (by decide) ?_
  refine s_Ic c_lt (i_lt (tg := 61) (by decide)) D2_51.1 P2_61 (?_ : rSnd _ _ 54 _)
  refine s_Inc gk1 sk1 (show 1 < 2 from by decide) kc_i_m4 D2_54 ?_
  refine s_Il gk0 (Or.inr ⟨0, D2_57, rfl⟩) ?_
  refine s_ic D2_58 kc_i_4 (by decide) ?_
  refine s_Bin q_iushr n_ush g_ush rE2_x D2_59 ?_
  refine s_Is sk0 (show 0 < 2 from by decide) (Or.inr ⟨0, D2_60, rfl⟩) ?_
  exact P2_61
theorem P2_33 : rSnd lab M2 33 B2_33 := by
  refine s_Il gk0 (Or.inr ⟨0, D2_33, rfl⟩) ?_
  refine s_si D2_34 kc_s_256 (by decide) ?_
  refine s_Ic c_lt (i_lt (tg := 48) (by decide)) D2_37.1 P2_48 (?_ : rSnd _ _ 40 _)
  refine s_Inc gk1 sk1 (show 1 < 2 from by decide) kc_i_m8 D2_40 ?_
  refine s_Il gk0 (Or.inr ⟨0, D2_43, rfl⟩) ?_
  refine s_bi D2_44 kc_b_8 (by decide) ?_
  refine s_Bin q_iushr n_ush g_ush rE2_x D2_46 ?_
  refine s_Is sk0 (show 0 < 2 from by decide) (Or.inr ⟨0, D2_47, rfl⟩) ?_
  exact P2_48
theorem P2_15 : rSnd lab M2 15 B2_15 := by
  refine s_bi D2_15 kc_b_31 (by decide) ?_
  refine s_Is sk1 (show 1 < 2 from by decide) (Or.inr ⟨1, D2_17, rfl⟩) ?_
  refine s_Il gk0 (Or.inr ⟨0, D2_18, rfl⟩) ?_
  refine s_ldw rfl wd503 D2_19 kc_I_65536 (by decide) ?_
  refine s_Ic c_lt (i_lt (tg := 33) (by decide)) D2_22.1 P2_33 (?_ : rSnd _ _ 25 _)
  refine s_Inc gk1 sk1 (show 1 < 2 from by decide) kc_i_m16 D2_25 ?_
  refine s_Il gk0 (Or.inr ⟨0, D2_28, rfl⟩) ?_
  refine s_bi D2_29 kc_b_16 (by decide) ?_
  refine s_Bin q_iushr n_ush g_ush rE2_x D2_31 ?_
  refine s_Is sk0 (show 0 < 2 from by decide) (Or.inr ⟨0, D2_32, rfl⟩) ?_
  exact P2_33
theorem P2_0 : rSnd lab M2 0 B2_0 := by
  refine s_Ent ?_
  refine s_Il gk0 (Or.inr ⟨0, D2_0, rfl⟩) ?_
  refine s_If c_gt (fun _ => rfl) (fun _ _ => rfl) (b_gt (tg := 15) (by decide)) D2_1.1 P2_15 (?_ : rSnd _ _ 4 _)
  exact rSnd_none
theorem D3_0 : rDec M3 0 (.iconst 0) 1 1 := ⟨by decide +kernel, rfl⟩
theorem D3_1 : rDec M3 1 (.istore_n 2) 1 2 := ⟨by decide +kernel, rfl⟩
theorem D3_2 : rDec M3 2 (.aload_n 0) 1 3 := ⟨by decide +kernel, rfl⟩
theorem D3_3 : rDec M3 3 (.arraylength) 1 4 := ⟨by decide +kernel, rfl⟩
theorem D3_4 : rDec M3 4 (.istore_n 3) 1 5 := ⟨by decide +kernel, rfl⟩
theorem D3_5 : rDec M3 5 (.iload_n 2) 1 6 := ⟨by decide +kernel, rfl⟩
theorem D3_6 : rDec M3 6 (.iload_n 3) 1 7 := ⟨by decide +kernel, rfl⟩
theorem D3_7 : rDec M3 7 (.if_icmp .ge 13) 3 10 := ⟨by decide +kernel, rfl⟩
theorem D3_10 : rDec M3 10 (.aload_n 0) 1 11 := ⟨by decide +kernel, rfl⟩
theorem D3_11 : rDec M3 11 (.iload_n 2) 1 12 := ⟨by decide +kernel, rfl⟩
theorem D3_12 : rDec M3 12 (.iload_n 1) 1 13 := ⟨by decide +kernel, rfl⟩
theorem D3_13 : rDec M3 13 (.iastore) 1 14 := ⟨by decide +kernel, rfl⟩
theorem D3_14 : rDec M3 14 (.iinc 2 1) 3 17 := ⟨by decide +kernel, rfl⟩
theorem D3_17 : rDec M3 17 (.goto (-12)) 3 20 := ⟨by decide +kernel, rfl⟩
theorem D3_20 : rDec M3 20 (.return_) 1 21 := ⟨by decide +kernel, rfl⟩
theorem P3_20 : rSnd lab M3 20 B3_20 := by
  exact s_Rv rfl D3_20.1
theorem P3_5 : rSnd lab M3 5 B3_5 := by
  refine s_Il gk2 (Or.inr ⟨2, D3_5, rfl⟩) ?_
  refine s_Il gk3 (Or.inr ⟨3, D3_6, rfl⟩) ?_
  refine s_Ic c_ge (i_ge (tg := 20) (by decide)) D3_7.1 P3_20 (?_ : rSnd _ _ 10 _)
  refine s_Al gk0 (Or.inr ⟨0, D3_10, rfl⟩) ?_
  refine s_Il gk2 (Or.inr ⟨2, D3_11, rfl⟩) ?_
  refine s_Il gk1 (Or.inr ⟨1, D3_12, rfl⟩) ?_
  refine s_Ast (t := 0) rfl q_iast rfl (by decide) D3_13 ?_
  refine s_Inc gk2 sk2 (show 2 < 4 from by decide) kc_i_1 D3_14 ?_
  exact s_Go (pc' := 5) D3_17.1 (by decide) (s_Jb rfl)
theorem P3_0 : rSnd lab M3 0 B3_0 := by
  refine s_Ent ?_
  refine s_ic D3_0 kc_i_0 (by decide) ?_
  refine s_Is sk2 (show 2 < 4 from by decide) (Or.inr ⟨2, D3_1, rfl⟩) ?_
  refine s_Al gk0 (Or.inr ⟨0, D3_2, rfl⟩) ?_
  refine s_Len D3_3 ?_
  refine s_Is sk3 (show 3 < 4 from by decide) (Or.inr ⟨3, D3_4, rfl⟩) ?_
  exact P3_5
theorem D4_0 : rDec M4 0 (.iload_n 0) 1 1 := ⟨by decide +kernel, rfl⟩
theorem D4_1 : rDec M4 1 (.iload_n 1) 1 2 := ⟨by decide +kernel, rfl⟩
theorem D4_2 : rDec M4 2 (.if_icmp .lt 7) 3 5 := ⟨by decide +kernel, rfl⟩
theorem D4_5 : rDec M4 5 (.iload_n 0) 1 6 := ⟨by decide +kernel, rfl⟩
theorem D4_6 : rDec M4 6 (.goto 4) 3 9 := ⟨by decide +kernel, rfl⟩
theorem D4_9 : rDec M4 9 (.iload_n 1) 1 10 := ⟨by decide +kernel, rfl⟩
theorem D4_10 : rDec M4 10 (.ireturn) 1 11 := ⟨by decide +kernel, rfl⟩
theorem P4_10 : rSnd lab M4 10 B4_10 := by
  exact s_Ri (Or.inl rfl) D4_10.1
theorem P4_9 : rSnd lab M4 9 B4_9 := by
  refine s_Il gk1 (Or.inr ⟨1, D4_9, rfl⟩) ?_
  exact P4_10
theorem P4_0 : rSnd lab M4 0 B4_0 := by
  refine s_Ent ?_
  refine s_Il gk0 (Or.inr ⟨0, D4_0, rfl⟩) ?_
  refine s_Il gk1 (Or.inr ⟨1, D4_1, rfl⟩) ?_
  refine s_Ic c_lt (i_lt (tg := 9) (by decide)) D4_2.1 P4_9 (?_ : rSnd _ _ 5 _)
  refine s_Il gk0 (Or.inr ⟨0, D4_5, rfl⟩) ?_
  exact s_Go (pc' := 10) D4_6.1 (by decide) P4_10
theorem D5_0 : rDec M5 0 (.iload_n 0) 1 1 := ⟨by decide +kernel, rfl⟩
theorem D5_1 : rDec M5 1 (.iload_n 1) 1 2 := ⟨by decide +kernel, rfl⟩
theorem D5_2 : rDec M5 2 (.if_icmp .gt 7) 3 5 := ⟨by decide +kernel, rfl⟩
theorem D5_5 : rDec M5 5 (.iload_n 0) 1 6 := ⟨by decide +kernel, rfl⟩
theorem D5_6 : rDec M5 6 (.goto 4) 3 9 := ⟨by decide +kernel, rfl⟩
theorem D5_10 : rDec M5 10 (.ireturn) 1 11 := ⟨by decide +kernel, rfl⟩
theorem P5_10 : rSnd lab M5 10 B5_10 := by
  exact s_Ri (Or.inl rfl) D5_10.1
theorem P5_0 : rSnd lab M5 0 B5_0 := by
  refine s_Ent ?_
  refine s_Il gk0 (Or.inr ⟨0, D5_0, rfl⟩) ?_
  refine s_Il gk1 (Or.inr ⟨1, D5_1, rfl⟩) ?_
  refine s_Ic c_gt (i_gt (tg := 9) (by decide)) D5_2.1 rSnd_none (?_ : rSnd _ _ 5 _)
  refine s_Il gk0 (Or.inr ⟨0, D5_5, rfl⟩) ?_
  exact s_Go (pc' := 10) D5_6.1 (by decide) P5_10
theorem D6_0 : rDec M6 0 (.iload_n 3) 1 1 := ⟨by decide +kernel, rfl⟩
theorem D6_1 : rDec M6 1 (.aload_n 2) 1 2 := ⟨by decide +kernel, rfl⟩
theorem D6_2 : rDec M6 2 (.arraylength) 1 3 := ⟨by decide +kernel, rfl⟩
theorem D6_3 : rDec M6 3 (.if_icmp .ne 8) 3 6 := ⟨by decide +kernel, rfl⟩
theorem D6_6 : rDec M6 6 (.aload_n 0) 1 7 := ⟨by decide +kernel, rfl⟩
theorem D6_7 : rDec M6 7 (.invokevirtual 129) 3 10 := ⟨by decide +kernel, rfl⟩
theorem D6_10 : rDec M6 10 (.astore_n 2) 1 11 := ⟨by decide +kernel, rfl⟩
theorem D6_11 : rDec M6 11 (.aload_n 2) 1 12 := ⟨by decide +kernel, rfl⟩
theorem D6_12 : rDec M6 12 (.iload_n 3) 1 13 := ⟨by decide +kernel, rfl⟩
theorem D6_13 : rDec M6 13 (.aload_n 1) 1 14 := ⟨by decide +kernel, rfl⟩
theorem D6_14 : rDec M6 14 (.aastore) 1 15 := ⟨by decide +kernel, rfl⟩
theorem D6_15 : rDec M6 15 (.aload_n 0) 1 16 := ⟨by decide +kernel, rfl⟩
theorem D6_16 : rDec M6 16 (.iload_n 3) 1 17 := ⟨by decide +kernel, rfl⟩
theorem D6_17 : rDec M6 17 (.iconst 1) 1 18 := ⟨by decide +kernel, rfl⟩
theorem D6_18 : rDec M6 18 (.iadd) 1 19 := ⟨by decide +kernel, rfl⟩
theorem D6_19 : rDec M6 19 (.putfield 48) 3 22 := ⟨by decide +kernel, rfl⟩
theorem D6_22 : rDec M6 22 (.return_) 1 23 := ⟨by decide +kernel, rfl⟩
theorem P6_11 : rSnd lab M6 11 B6_11 := by
  refine s_Al gk2 (Or.inr ⟨2, D6_11, rfl⟩) ?_
  refine s_Il gk3 (Or.inr ⟨3, D6_12, rfl⟩) ?_
  refine s_Al gk1 (Or.inr ⟨1, D6_13, rfl⟩) ?_
  refine s_Aas okAs_ok D6_14 ?_
  refine s_Al gk0 (Or.inr ⟨0, D6_15, rfl⟩) ?_
  refine s_Il gk3 (Or.inr ⟨3, D6_16, rfl⟩) ?_
  refine s_ic D6_17 kc_i_1 (by decide) ?_
  refine s_Bin q_iadd n_add rG2_x e_add D6_18 ?_
  refine s_Pf (ci := 24) (r := ("java/util/ArrayList", kT24, 3)) rfl (show 2 < 3 from by decide) rfl (Or.inl ⟨rfl, Or.inl wd1903⟩) (Or.inl rfl) rfl (by decide) D6_19 ?_
  exact s_Rv rfl D6_22.1
theorem P6_0 : rSnd lab M6 0 B6_0 := by
  refine s_Ent ?_
  refine s_Il gk3 (Or.inr ⟨3, D6_0, rfl⟩) ?_
  refine s_Al gk2 (Or.inr ⟨2, D6_1, rfl⟩) ?_
  refine s_Len D6_2 ?_
  refine s_Ic c_ne (i_ne (tg := 11) (by decide)) D6_3.1 P6_11 (?_ : rSnd _ _ 6 _)
  refine s_Al gk0 (Or.inr ⟨0, D6_6, rfl⟩) ?_
  refine s_Cv (ln := 3) (kd := 50) (C := "java/util/ArrayList") (by decide) (by decide +kernel) rfl (l_V rfl ok12 rfl wd1964 wd1966 ws62 D6_7.1) (?_ : rSnd _ _ 10 _)
  refine s_As sk2 (show 2 < 4 from by decide) (Or.inr ⟨2, D6_10, rfl⟩) ?_
  exact P6_11
theorem D7_0 : rDec M7 0 (.aload_n 0) 1 1 := ⟨by decide +kernel, rfl⟩
theorem D7_1 : rDec M7 1 (.dup) 1 2 := ⟨by decide +kernel, rfl⟩
theorem D7_2 : rDec M7 2 (.getfield 63) 3 5 := ⟨by decide +kernel, rfl⟩
theorem D7_5 : rDec M7 5 (.iconst 1) 1 6 := ⟨by decide +kernel, rfl⟩
theorem D7_6 : rDec M7 6 (.iadd) 1 7 := ⟨by decide +kernel, rfl⟩
theorem D7_7 : rDec M7 7 (.putfield 63) 3 10 := ⟨by decide +kernel, rfl⟩
theorem D7_10 : rDec M7 10 (.aload_n 0) 1 11 := ⟨by decide +kernel, rfl⟩
theorem D7_11 : rDec M7 11 (.aload_n 1) 1 12 := ⟨by decide +kernel, rfl⟩
theorem D7_12 : rDec M7 12 (.aload_n 0) 1 13 := ⟨by decide +kernel, rfl⟩
theorem D7_13 : rDec M7 13 (.getfield 9) 3 16 := ⟨by decide +kernel, rfl⟩
theorem D7_16 : rDec M7 16 (.aload_n 0) 1 17 := ⟨by decide +kernel, rfl⟩
theorem D7_17 : rDec M7 17 (.getfield 48) 3 20 := ⟨by decide +kernel, rfl⟩
theorem D7_20 : rDec M7 20 (.invokevirtual 131) 3 23 := ⟨by decide +kernel, rfl⟩
theorem D7_23 : rDec M7 23 (.iconst 1) 1 24 := ⟨by decide +kernel, rfl⟩
theorem D7_24 : rDec M7 24 (.ireturn) 1 25 := ⟨by decide +kernel, rfl⟩
theorem P7_0 : rSnd lab M7 0 B7_0 := by
  refine s_Ent ?_
  refine s_Al gk0 (Or.inr ⟨0, D7_0, rfl⟩) ?_
  refine s_Dup D7_1 ?_
  refine s_Gf (ci := 24) (r := ("java/util/ArrayList", kT24, 3)) rfl (show 0 < 3 from by decide) rfl (Or.inl wd1905) (Or.inr wd1906) rfl D7_2 ?_
  refine s_ic D7_5 kc_i_1 (by decide) ?_
  refine s_Bin q_iadd n_add rG2_x e_add D7_6 ?_
  refine s_Pf (ci := 24) (r := ("java/util/ArrayList", kT24, 3)) rfl (show 0 < 3 from by decide) rfl (Or.inl ⟨rfl, Or.inl wd1905⟩) (Or.inr wd1906) rfl (by decide) D7_7 ?_
  refine s_Al gk0 (Or.inr ⟨0, D7_10, rfl⟩) ?_
  refine s_Al gk1 (Or.inr ⟨1, D7_11, rfl⟩) ?_
  refine s_Al gk0 (Or.inr ⟨0, D7_12, rfl⟩) ?_
  refine s_Gf (ci := 24) (r := ("java/util/ArrayList", kT24, 3)) rfl (show 1 < 3 from by decide) rfl (Or.inl wd1902) (Or.inl rfl) rfl D7_13 ?_
  refine s_Al gk0 (Or.inr ⟨0, D7_16, rfl⟩) ?_
  refine s_Gf (ci := 24) (r := ("java/util/ArrayList", kT24, 3)) rfl (show 2 < 3 from by decide) rfl (Or.inl wd1903) (Or.inl rfl) rfl D7_17 ?_
  refine s_Cv (ln := 3) (kd := 50) (C := "java/util/ArrayList") (by decide) (by decide +kernel) rfl (l_V rfl ok6 rfl wd1960 wd1962 ws61 D7_20.1) (?_ : rSnd _ _ 23 _)
  refine s_ic D7_23 kc_i_1 (by decide) ?_
  exact s_Ri (Or.inr ⟨rfl, by decide⟩) D7_24.1
theorem D8_0 : rDec M8 0 (.aload_n 0) 1 1 := ⟨by decide +kernel, rfl⟩
theorem D8_1 : rDec M8 1 (.dup) 1 2 := ⟨by decide +kernel, rfl⟩
theorem D8_2 : rDec M8 2 (.getfield 63) 3 5 := ⟨by decide +kernel, rfl⟩
theorem D8_5 : rDec M8 5 (.iconst 1) 1 6 := ⟨by decide +kernel, rfl⟩
theorem D8_6 : rDec M8 6 (.iadd) 1 7 := ⟨by decide +kernel, rfl⟩
theorem D8_7 : rDec M8 7 (.putfield 63) 3 10 := ⟨by decide +kernel, rfl⟩
theorem D8_10 : rDec M8 10 (.aload_n 0) 1 11 := ⟨by decide +kernel, rfl⟩
theorem D8_11 : rDec M8 11 (.getfield 9) 3 14 := ⟨by decide +kernel, rfl⟩
theorem D8_14 : rDec M8 14 (.astore_n 1) 1 15 := ⟨by decide +kernel, rfl⟩
theorem D8_15 : rDec M8 15 (.aload_n 0) 1 16 := ⟨by decide +kernel, rfl⟩
theorem D8_16 : rDec M8 16 (.getfield 48) 3 19 := ⟨by decide +kernel, rfl⟩
theorem D8_19 : rDec M8 19 (.istore_n 2) 1 20 := ⟨by decide +kernel, rfl⟩
theorem D8_20 : rDec M8 20 (.aload_n 0) 1 21 := ⟨by decide +kernel, rfl⟩
theorem D8_21 : rDec M8 21 (.iconst 0) 1 22 := ⟨by decide +kernel, rfl⟩
theorem D8_22 : rDec M8 22 (.dup_x1) 1 23 := ⟨by decide +kernel, rfl⟩
theorem D8_23 : rDec M8 23 (.putfield 48) 3 26 := ⟨by decide +kernel, rfl⟩
theorem D8_26 : rDec M8 26 (.istore_n 3) 1 27 := ⟨by decide +kernel, rfl⟩
theorem D8_27 : rDec M8 27 (.iload_n 3) 1 28 := ⟨by decide +kernel, rfl⟩
theorem D8_28 : rDec M8 28 (.iload_n 2) 1 29 := ⟨by decide +kernel, rfl⟩
theorem D8_29 : rDec M8 29 (.if_icmp .ge 13) 3 32 := ⟨by decide +kernel, rfl⟩
theorem D8_42 : rDec M8 42 (.return_) 1 43 := ⟨by decide +kernel, rfl⟩
theorem P8_42 : rSnd lab M8 42 B8_42 := by
  exact s_Rv rfl D8_42.1
theorem P8_0 : rSnd lab M8 0 B8_0 := by
  refine s_Ent ?_
  refine s_Al gk0 (Or.inr ⟨0, D8_0, rfl⟩) ?_
  refine s_Dup D8_1 ?_
  refine s_Gf (ci := 24) (r := ("java/util/ArrayList", kT24, 3)) rfl (show 0 < 3 from by decide) rfl (Or.inl wd1905) (Or.inr wd1906) rfl D8_2 ?_
  refine s_ic D8_5 kc_i_1 (by decide) ?_
  refine s_Bin q_iadd n_add rG2_x e_add D8_6 ?_
  refine s_Pf (ci := 24) (r := ("java/util/ArrayList", kT24, 3)) rfl (show 0 < 3 from by decide) rfl (Or.inl ⟨rfl, Or.inl wd1905⟩) (Or.inr wd1906) rfl (by decide) D8_7 ?_
  refine s_Al gk0 (Or.inr ⟨0, D8_10, rfl⟩) ?_
  refine s_Gf (ci := 24) (r := ("java/util/ArrayList", kT24, 3)) rfl (show 1 < 3 from by decide) rfl (Or.inl wd1902) (Or.inl rfl) rfl D8_11 ?_
  refine s_As sk1 (show 1 < 4 from by decide) (Or.inr ⟨1, D8_14, rfl⟩) ?_
  refine s_Al gk0 (Or.inr ⟨0, D8_15, rfl⟩) ?_
  refine s_Gf (ci := 24) (r := ("java/util/ArrayList", kT24, 3)) rfl (show 2 < 3 from by decide) rfl (Or.inl wd1903) (Or.inl rfl) rfl D8_16 ?_
  refine s_Is sk2 (show 2 < 4 from by decide) (Or.inr ⟨2, D8_19, rfl⟩) ?_
  refine s_Al gk0 (Or.inr ⟨0, D8_20, rfl⟩) ?_
  refine s_ic D8_21 kc_i_0 (by decide) ?_
  refine s_DupX D8_22 ?_
  refine s_Pf (ci := 24) (r := ("java/util/ArrayList", kT24, 3)) rfl (show 2 < 3 from by decide) rfl (Or.inl ⟨rfl, Or.inl wd1903⟩) (Or.inl rfl) rfl (by decide) D8_23 ?_
  refine s_Is sk3 (show 3 < 4 from by decide) (Or.inr ⟨3, D8_26, rfl⟩) ?_
  refine s_Il gk3 (Or.inr ⟨3, D8_27, rfl⟩) ?_
  refine s_Il gk2 (Or.inr ⟨2, D8_28, rfl⟩) ?_
  refine s_Ic c_ge (i_ge (tg := 42) (by decide)) D8_29.1 P8_42 (?_ : rSnd _ _ 32 _)
  exact rSnd_none
theorem D9_0 : rDec M9 0 (.aload_n 0) 1 1 := ⟨by decide +kernel, rfl⟩
theorem D9_1 : rDec M9 1 (.getfield 9) 3 4 := ⟨by decide +kernel, rfl⟩
theorem D9_4 : rDec M9 4 (.iload_n 1) 1 5 := ⟨by decide +kernel, rfl⟩
theorem D9_5 : rDec M9 5 (.aaload) 1 6 := ⟨by decide +kernel, rfl⟩
theorem D9_6 : rDec M9 6 (.areturn) 1 7 := ⟨by decide +kernel, rfl⟩
theorem P9_0 : rSnd lab M9 0 B9_0 := by
  refine s_Ent ?_
  refine s_Al gk0 (Or.inr ⟨0, D9_0, rfl⟩) ?_
  refine s_Gf (ci := 24) (r := ("java/util/ArrayList", kT24, 3)) rfl (show 1 < 3 from by decide) rfl (Or.inl wd1902) (Or.inl rfl) rfl D9_1 ?_
  refine s_Il gk1 (Or.inr ⟨1, D9_4, rfl⟩) ?_
  refine s_Aal D9_5 ?_
  exact s_Ra (Or.inl ⟨_, rfl⟩) D9_6.1
theorem D10_0 : rDec M10 0 (.iload_n 1) 1 1 := ⟨by decide +kernel, rfl⟩
theorem D10_1 : rDec M10 1 (.aload_n 0) 1 2 := ⟨by decide +kernel, rfl⟩
theorem D10_2 : rDec M10 2 (.getfield 48) 3 5 := ⟨by decide +kernel, rfl⟩
theorem D10_5 : rDec M10 5 (.invokestatic 118) 3 8 := ⟨by decide +kernel, rfl⟩
theorem D10_8 : rDec M10 8 (.pop) 1 9 := ⟨by decide +kernel, rfl⟩
theorem D10_9 : rDec M10 9 (.aload_n 0) 1 10 := ⟨by decide +kernel, rfl⟩
theorem D10_10 : rDec M10 10 (.iload_n 1) 1 11 := ⟨by decide +kernel, rfl⟩
theorem D10_11 : rDec M10 11 (.invokevirtual 123) 3 14 := ⟨by decide +kernel, rfl⟩
theorem D10_14 : rDec M10 14 (.areturn) 1 15 := ⟨by decide +kernel, rfl⟩
theorem P10_0 : rSnd lab M10 0 B10_0 := by
  refine s_Ent ?_
  refine s_Il gk1 (Or.inr ⟨1, D10_0, rfl⟩) ?_
  refine s_Al gk0 (Or.inr ⟨0, D10_1, rfl⟩) ?_
  refine s_Gf (ci := 24) (r := ("java/util/ArrayList", kT24, 3)) rfl (show 2 < 3 from by decide) rfl (Or.inl wd1903) (Or.inl rfl) rfl D10_2 ?_
  refine s_Cs (id := 0) rfl (l_S rfl ok0 rfl wd2101 wd2102 D10_5.1) (?_ : rSnd _ _ 8 _)
  refine s_Pop D10_8 ?_
  refine s_Al gk0 (Or.inr ⟨0, D10_9, rfl⟩) ?_
  refine s_Il gk1 (Or.inr ⟨1, D10_10, rfl⟩) ?_
  refine s_Cv (ln := 3) (kd := 50) (C := "java/util/ArrayList") (by decide) (by decide +kernel) rfl (l_V rfl ok9 rfl wd2107 wd2108 wd2109 D10_11.1) (?_ : rSnd _ _ 14 _)
  exact s_Ra (Or.inl ⟨_, rfl⟩) D10_14.1
theorem D11_0 : rDec M11 0 (.aload_n 0) 1 1 := ⟨by decide +kernel, rfl⟩
theorem D11_1 : rDec M11 1 (.getfield 9) 3 4 := ⟨by decide +kernel, rfl⟩
theorem D11_4 : rDec M11 4 (.arraylength) 1 5 := ⟨by decide +kernel, rfl⟩
theorem D11_5 : rDec M11 5 (.istore_n 2) 1 6 := ⟨by decide +kernel, rfl⟩
theorem D11_6 : rDec M11 6 (.iload_n 2) 1 7 := ⟨by decide +kernel, rfl⟩
theorem D11_7 : rDec M11 7 (.ifCond .gt 13) 3 10 := ⟨by decide +kernel, rfl⟩
theorem D11_10 : rDec M11 10 (.aload_n 0) 1 11 := ⟨by decide +kernel, rfl⟩
theorem D11_11 : rDec M11 11 (.getfield 9) 3 14 := ⟨by decide +kernel, rfl⟩
theorem D11_14 : rDec M11 14 (.getstatic 39) 3 17 := ⟨by decide +kernel, rfl⟩
theorem D11_17 : rDec M11 17 (.if_acmp .eq 28) 3 20 := ⟨by decide +kernel, rfl⟩
theorem D11_45 : rDec M11 45 (.aload_n 0) 1 46 := ⟨by decide +kernel, rfl⟩
theorem D11_46 : rDec M11 46 (.bipush 10) 2 48 := ⟨by decide +kernel, rfl⟩
theorem D11_48 : rDec M11 48 (.iload_n 1) 1 49 := ⟨by decide +kernel, rfl⟩
theorem D11_49 : rDec M11 49 (.invokestatic 79) 3 52 := ⟨by decide +kernel, rfl⟩
theorem D11_52 : rDec M11 52 (.anewarray 7) 3 55 := ⟨by decide +kernel, rfl⟩
theorem D11_55 : rDec M11 55 (.dup_x1) 1 56 := ⟨by decide +kernel, rfl⟩
theorem D11_56 : rDec M11 56 (.putfield 9) 3 59 := ⟨by decide +kernel, rfl⟩
theorem D11_59 : rDec M11 59 (.areturn) 1 60 := ⟨by decide +kernel, rfl⟩
theorem P11_45 : rSnd lab M11 45 B11_45 := by
  refine s_Al gk0 (Or.inr ⟨0, D11_45, rfl⟩) ?_
  refine s_bi D11_46 kc_b_10 (by decide) ?_
  refine s_Il gk1 (Or.inr ⟨1, D11_48, rfl⟩) ?_
  refine s_Max rfl wd2023 wd533 wd18 wd534 D11_49 ?_
  refine s_Nwa (t := 3) rfl (q_anew rfl) (fun ht hk => ⟨ht _ wd2024, hk.ng 56 rfl⟩) D11_52 ?_
  refine s_DupX D11_55 ?_
  refine s_Pf (ci := 24) (r := ("java/util/ArrayList", kT24, 3)) rfl (show 1 < 3 from by decide) rfl (Or.inl ⟨rfl, Or.inl wd1902⟩) (Or.inl rfl) rfl (by decide) D11_56 ?_
  exact s_Ra (Or.inr ⟨_, rfl⟩) D11_59.1
theorem P11_0 : rSnd lab M11 0 B11_0 := by
  refine s_Ent ?_
  refine s_Al gk0 (Or.inr ⟨0, D11_0, rfl⟩) ?_
  refine s_Gf (ci := 24) (r := ("java/util/ArrayList", kT24, 3)) rfl (show 1 < 3 from by decide) rfl (Or.inl wd1902) (Or.inl rfl) rfl D11_1 ?_
  refine s_Len D11_4 ?_
  refine s_Is sk2 (show 2 < 4 from by decide) (Or.inr ⟨2, D11_5, rfl⟩) ?_
  refine s_Il gk2 (Or.inr ⟨2, D11_6, rfl⟩) ?_
  refine s_If c_gt (fun _ => rfl) (fun _ _ => rfl) (b_gt (tg := 20) (by decide)) D11_7.1 rSnd_none (?_ : rSnd _ _ 10 _)
  refine s_Al gk0 (Or.inr ⟨0, D11_10, rfl⟩) ?_
  refine s_Gf (ci := 24) (r := ("java/util/ArrayList", kT24, 3)) rfl (show 1 < 3 from by decide) rfl (Or.inl wd1902) (Or.inl rfl) rfl D11_11 ?_
  refine s_Gs rfl wd1900 (Or.inl rfl) D11_14 ?_
  exact s_Aeq (tg := 45) D11_17.1 (by decide) P11_45
theorem D12_0 : rDec M12 0 (.aload_n 0) 1 1 := ⟨by decide +kernel, rfl⟩
theorem D12_1 : rDec M12 1 (.aload_n 0) 1 2 := ⟨by decide +kernel, rfl⟩
theorem D12_2 : rDec M12 2 (.getfield 48) 3 5 := ⟨by decide +kernel, rfl⟩
theorem D12_5 : rDec M12 5 (.iconst 1) 1 6 := ⟨by decide +kernel, rfl⟩
theorem D12_6 : rDec M12 6 (.iadd) 1 7 := ⟨by decide +kernel, rfl⟩
theorem D12_7 : rDec M12 7 (.invokevirtual 69) 3 10 := ⟨by decide +kernel, rfl⟩
theorem D12_10 : rDec M12 10 (.areturn) 1 11 := ⟨by decide +kernel, rfl⟩
theorem P12_0 : rSnd lab M12 0 B12_0 := by
  refine s_Ent ?_
  refine s_Al gk0 (Or.inr ⟨0, D12_0, rfl⟩) ?_
  refine s_Al gk0 (Or.inr ⟨0, D12_1, rfl⟩) ?_
  refine s_Gf (ci := 24) (r := ("java/util/ArrayList", kT24, 3)) rfl (show 2 < 3 from by decide) rfl (Or.inl wd1903) (Or.inl rfl) rfl D12_2 ?_
  refine s_ic D12_5 kc_i_1 (by decide) ?_
  refine s_Bin q_iadd n_add rG2_x e_add D12_6 ?_
  refine s_Cv (ln := 3) (kd := 50) (C := "java/util/ArrayList") (by decide) (by decide +kernel) rfl (l_V rfl ok11 rfl wd1968 wd1970 ws63 D12_7.1) (?_ : rSnd _ _ 10 _)
  exact s_Ra (Or.inr ⟨_, rfl⟩) D12_10.1
theorem D13_0 : rDec M13 0 (.aload_n 0) 1 1 := ⟨by decide +kernel, rfl⟩
theorem D13_1 : rDec M13 1 (.invokespecial 1) 3 4 := ⟨by decide +kernel, rfl⟩
theorem D13_4 : rDec M13 4 (.aload_n 0) 1 5 := ⟨by decide +kernel, rfl⟩
theorem D13_5 : rDec M13 5 (.getstatic 39) 3 8 := ⟨by decide +kernel, rfl⟩
theorem D13_8 : rDec M13 8 (.putfield 9) 3 11 := ⟨by decide +kernel, rfl⟩
theorem D13_11 : rDec M13 11 (.return_) 1 12 := ⟨by decide +kernel, rfl⟩
theorem P13_0 : rSnd lab M13 0 B13_0 := by
  refine s_Ent ?_
  refine s_Al gk0 (Or.inr ⟨0, D13_0, rfl⟩) ?_
  refine s_Ci (id := 18) rfl (l_I rfl ok17 rfl rfl rfl wd1893 wd1894 D13_1.1) (?_ : rSnd _ _ 4 _)
  refine s_Al gk0 (Or.inr ⟨0, D13_4, rfl⟩) ?_
  refine s_Gs rfl wd1900 (Or.inl rfl) D13_5 ?_
  refine s_Pf (ci := 24) (r := ("java/util/ArrayList", kT24, 3)) rfl (show 1 < 3 from by decide) rfl (Or.inl ⟨rfl, Or.inl wd1902⟩) (Or.inl rfl) rfl (by decide) D13_8 ?_
  exact s_Rv rfl D13_11.1
theorem D14_0 : rDec M14 0 (.aload_n 0) 1 1 := ⟨by decide +kernel, rfl⟩
theorem D14_1 : rDec M14 1 (.getfield 48) 3 4 := ⟨by decide +kernel, rfl⟩
theorem D14_4 : rDec M14 4 (.ifCond .ne 7) 3 7 := ⟨by decide +kernel, rfl⟩
theorem D14_7 : rDec M14 7 (.iconst 1) 1 8 := ⟨by decide +kernel, rfl⟩
theorem D14_8 : rDec M14 8 (.goto 4) 3 11 := ⟨by decide +kernel, rfl⟩
theorem D14_12 : rDec M14 12 (.ireturn) 1 13 := ⟨by decide +kernel, rfl⟩
theorem P14_12 : rSnd lab M14 12 B14_12 := by
  exact s_Ri (Or.inr ⟨rfl, by decide⟩) D14_12.1
theorem P14_0 : rSnd lab M14 0 B14_0 := by
  refine s_Ent ?_
  refine s_Al gk0 (Or.inr ⟨0, D14_0, rfl⟩) ?_
  refine s_Gf (ci := 24) (r := ("java/util/ArrayList", kT24, 3)) rfl (show 2 < 3 from by decide) rfl (Or.inl wd1903) (Or.inl rfl) rfl D14_1 ?_
  refine s_If c_ne (fun _ => rfl) (fun _ _ => rfl) (b_ne (tg := 11) (by decide)) D14_4.1 rSnd_none (?_ : rSnd _ _ 7 _)
  refine s_ic D14_7 kc_i_1 (by decide) ?_
  exact s_Go (pc' := 12) D14_8.1 (by decide) P14_12
theorem D15_0 : rDec M15 0 (.aload_n 0) 1 1 := ⟨by decide +kernel, rfl⟩
theorem D15_1 : rDec M15 1 (.getfield 48) 3 4 := ⟨by decide +kernel, rfl⟩
theorem D15_4 : rDec M15 4 (.ireturn) 1 5 := ⟨by decide +kernel, rfl⟩
theorem P15_0 : rSnd lab M15 0 B15_0 := by
  refine s_Ent ?_
  refine s_Al gk0 (Or.inr ⟨0, D15_0, rfl⟩) ?_
  refine s_Gf (ci := 24) (r := ("java/util/ArrayList", kT24, 3)) rfl (show 2 < 3 from by decide) rfl (Or.inl wd1903) (Or.inl rfl) rfl D15_1 ?_
  exact s_Ri (Or.inl rfl) D15_4.1
theorem D16_0 : rDec M16 0 (.aload_n 0) 1 1 := ⟨by decide +kernel, rfl⟩
theorem D16_1 : rDec M16 1 (.invokespecial 1) 3 4 := ⟨by decide +kernel, rfl⟩
theorem D16_4 : rDec M16 4 (.return_) 1 5 := ⟨by decide +kernel, rfl⟩
theorem P16_0 : rSnd lab M16 0 B16_0 := by
  refine s_Ent ?_
  refine s_Al gk0 (Or.inr ⟨0, D16_0, rfl⟩) ?_
  refine s_Oi rfl wd1899 wd62 wd63 D16_1 ?_
  exact s_Rv rfl D16_4.1
theorem D17_0 : rDec M17 0 (.aload_n 0) 1 1 := ⟨by decide +kernel, rfl⟩
theorem D17_1 : rDec M17 1 (.invokespecial 1) 3 4 := ⟨by decide +kernel, rfl⟩
theorem D17_4 : rDec M17 4 (.aload_n 0) 1 5 := ⟨by decide +kernel, rfl⟩
theorem D17_5 : rDec M17 5 (.iconst 0) 1 6 := ⟨by decide +kernel, rfl⟩
theorem D17_6 : rDec M17 6 (.putfield 7) 3 9 := ⟨by decide +kernel, rfl⟩
theorem D17_9 : rDec M17 9 (.return_) 1 10 := ⟨by decide +kernel, rfl⟩
theorem P17_0 : rSnd lab M17 0 B17_0 := by
  refine s_Ent ?_
  refine s_Al gk0 (Or.inr ⟨0, D17_0, rfl⟩) ?_
  refine s_Ci (id := 17) rfl (l_I rfl ok16 rfl rfl rfl wd1896 wd1897 D17_1.1) (?_ : rSnd _ _ 4 _)
  refine s_Al gk0 (Or.inr ⟨0, D17_4, rfl⟩) ?_
  refine s_ic D17_5 kc_i_0 (by decide) ?_
  refine s_Pf (ci := 24) (r := ("java/util/ArrayList", kT24, 3)) rfl (show 0 < 3 from by decide) rfl (Or.inl ⟨rfl, Or.inl wd1904⟩) (Or.inl rfl) rfl (by decide) D17_6 ?_
  exact s_Rv rfl D17_9.1
theorem D18_0 : rDec M18 0 (.aload 6) 2 2 := ⟨by decide +kernel, rfl⟩
theorem D18_2 : rDec M18 2 (.iconst 0) 1 3 := ⟨by decide +kernel, rfl⟩
theorem D18_3 : rDec M18 3 (.aload_n 0) 1 4 := ⟨by decide +kernel, rfl⟩
theorem D18_4 : rDec M18 4 (.iload_n 1) 1 5 := ⟨by decide +kernel, rfl⟩
theorem D18_5 : rDec M18 5 (.iload_n 2) 1 6 := ⟨by decide +kernel, rfl⟩
theorem D18_6 : rDec M18 6 (.iload_n 3) 1 7 := ⟨by decide +kernel, rfl⟩
theorem D18_7 : rDec M18 7 (.iload 4) 2 9 := ⟨by decide +kernel, rfl⟩
theorem D18_9 : rDec M18 9 (.iload 5) 2 11 := ⟨by decide +kernel, rfl⟩
theorem D18_11 : rDec M18 11 (.invokevirtual 42) 3 14 := ⟨by decide +kernel, rfl⟩
theorem D18_19 : rDec M18 19 (.astore 7) 2 21 := ⟨by decide +kernel, rfl⟩
theorem D18_21 : rDec M18 21 (.iconst 1) 1 22 := ⟨by decide +kernel, rfl⟩
theorem D18_22 : rDec M18 22 (.ireturn) 1 23 := ⟨by decide +kernel, rfl⟩
theorem P18_19 : rSnd lab M18 19 B18_19 := by
  refine s_As sk7 (show 7 < 8 from by decide) (Or.inl D18_19) ?_
  refine s_ic D18_21 kc_i_1 (by decide) ?_
  exact s_Ri (Or.inl rfl) D18_22.1
theorem P18_0 : rSnd lab M18 0 B18_0 := by
  refine s_Ent ?_
  refine s_Al gk6 (Or.inl D18_0) ?_
  refine s_ic D18_2 kc_i_0 (by decide) ?_
  refine s_Al gk0 (Or.inr ⟨0, D18_3, rfl⟩) ?_
  refine s_Il gk1 (Or.inr ⟨1, D18_4, rfl⟩) ?_
  refine s_Il gk2 (Or.inr ⟨2, D18_5, rfl⟩) ?_
  refine s_Il gk3 (Or.inr ⟨3, D18_6, rfl⟩) ?_
  refine s_Il gk4 (Or.inl D18_7) ?_
  refine s_Il gk5 (Or.inl D18_9) ?_
  refine s_Ch (kd := 2) (C := "WordWright") (by decide) (by decide +kernel) rfl rfl (l_V rfl ok57 rfl wd1430 wd1431 wd1432 D18_11.1) (fun e9 h => rNth_ge _ e9 _ h) (fun e9 E hE => ?_) (?_ : rSnd _ _ 14 _)
  · match e9, hE with
    | 0, hE => cases hE; exact Or.inl rfl
    | 1, hE => cases hE; exact Or.inl rfl
    | 2, hE => cases hE; exact Or.inr ⟨"java/lang/IndexOutOfBoundsException", [], ⟨0, 16, 19, 21⟩, [⟨0, 16, 23, 13⟩, ⟨0, 16, 27, 15⟩], rfl, fun z hz => absurd hz List.not_mem_nil, by decide, by decide, wd1344, ⟨44, rfl⟩, P18_19⟩
    | 3, hE => cases hE; exact Or.inl rfl
    | e9 + 4, hE => cases hE
  exact rSnd_none
theorem D19_0 : rDec M19 0 (.aload_n 2) 1 1 := ⟨by decide +kernel, rfl⟩
theorem D19_1 : rDec M19 1 (.iconst 0) 1 2 := ⟨by decide +kernel, rfl⟩
theorem D19_2 : rDec M19 2 (.aload_n 0) 1 3 := ⟨by decide +kernel, rfl⟩
theorem D19_3 : rDec M19 3 (.iload_n 1) 1 4 := ⟨by decide +kernel, rfl⟩
theorem D19_4 : rDec M19 4 (.invokevirtual 102) 3 7 := ⟨by decide +kernel, rfl⟩
theorem D19_12 : rDec M19 12 (.astore_n 3) 1 13 := ⟨by decide +kernel, rfl⟩
theorem D19_13 : rDec M19 13 (.iconst 1) 1 14 := ⟨by decide +kernel, rfl⟩
theorem D19_14 : rDec M19 14 (.ireturn) 1 15 := ⟨by decide +kernel, rfl⟩
theorem P19_12 : rSnd lab M19 12 B19_12 := by
  refine s_As sk3 (show 3 < 4 from by decide) (Or.inr ⟨3, D19_12, rfl⟩) ?_
  refine s_ic D19_13 kc_i_1 (by decide) ?_
  exact s_Ri (Or.inl rfl) D19_14.1
theorem P19_0 : rSnd lab M19 0 B19_0 := by
  refine s_Ent ?_
  refine s_Al gk2 (Or.inr ⟨2, D19_0, rfl⟩) ?_
  refine s_ic D19_1 kc_i_0 (by decide) ?_
  refine s_Al gk0 (Or.inr ⟨0, D19_2, rfl⟩) ?_
  refine s_Il gk1 (Or.inr ⟨1, D19_3, rfl⟩) ?_
  refine s_Ch (kd := 2) (C := "WordWright") (by decide) (by decide +kernel) rfl rfl (l_V rfl ok59 rfl wd1638 wd1639 wd1640 D19_4.1) (fun e9 h => rNth_ge _ e9 _ h) (fun e9 E hE => ?_) (?_ : rSnd _ _ 7 _)
  · match e9, hE with
    | 0, hE => cases hE; exact Or.inl rfl
    | 1, hE => cases hE; exact Or.inl rfl
    | 2, hE => cases hE; exact Or.inr ⟨"java/lang/IndexOutOfBoundsException", [], ⟨0, 9, 12, 21⟩, [], rfl, fun z hz => absurd hz List.not_mem_nil, by decide, by decide, wd1344, ⟨44, rfl⟩, P19_12⟩
    | 3, hE => cases hE; exact Or.inl rfl
    | e9 + 4, hE => cases hE
  exact rSnd_none
theorem D20_0 : rDec M20 0 (.aload 4) 2 2 := ⟨by decide +kernel, rfl⟩
theorem D20_2 : rDec M20 2 (.iconst 0) 1 3 := ⟨by decide +kernel, rfl⟩
theorem D20_3 : rDec M20 3 (.aload_n 0) 1 4 := ⟨by decide +kernel, rfl⟩
theorem D20_4 : rDec M20 4 (.iload_n 1) 1 5 := ⟨by decide +kernel, rfl⟩
theorem D20_5 : rDec M20 5 (.iload_n 2) 1 6 := ⟨by decide +kernel, rfl⟩
theorem D20_6 : rDec M20 6 (.iload_n 3) 1 7 := ⟨by decide +kernel, rfl⟩
theorem D20_7 : rDec M20 7 (.invokevirtual 80) 3 10 := ⟨by decide +kernel, rfl⟩
theorem D20_15 : rDec M20 15 (.astore 5) 2 17 := ⟨by decide +kernel, rfl⟩
theorem D20_17 : rDec M20 17 (.iconst 1) 1 18 := ⟨by decide +kernel, rfl⟩
theorem D20_18 : rDec M20 18 (.ireturn) 1 19 := ⟨by decide +kernel, rfl⟩
theorem P20_15 : rSnd lab M20 15 B20_15 := by
  refine s_As sk5 (show 5 < 6 from by decide) (Or.inl D20_15) ?_
  refine s_ic D20_17 kc_i_1 (by decide) ?_
  exact s_Ri (Or.inl rfl) D20_18.1
theorem P20_0 : rSnd lab M20 0 B20_0 := by
  refine s_Ent ?_
  refine s_Al gk4 (Or.inl D20_0) ?_
  refine s_ic D20_2 kc_i_0 (by decide) ?_
  refine s_Al gk0 (Or.inr ⟨0, D20_3, rfl⟩) ?_
  refine s_Il gk1 (Or.inr ⟨1, D20_4, rfl⟩) ?_
  refine s_Il gk2 (Or.inr ⟨2, D20_5, rfl⟩) ?_
  refine s_Il gk3 (Or.inr ⟨3, D20_6, rfl⟩) ?_
  refine s_Ch (kd := 2) (C := "WordWright") (by decide) (by decide +kernel) rfl rfl (l_V rfl ok61 rfl wd1556 wd1557 wd1558 D20_7.1) (fun e9 h => rNth_ge _ e9 _ h) (fun e9 E hE => ?_) (?_ : rSnd _ _ 10 _)
  · match e9, hE with
    | 0, hE => cases hE; exact Or.inl rfl
    | 1, hE => cases hE; exact Or.inl rfl
    | 2, hE => cases hE; exact Or.inr ⟨"java/lang/IndexOutOfBoundsException", [], ⟨0, 12, 15, 21⟩, [⟨0, 12, 19, 13⟩], rfl, fun z hz => absurd hz List.not_mem_nil, by decide, by decide, wd1344, ⟨44, rfl⟩, P20_15⟩
    | 3, hE => cases hE; exact Or.inl rfl
    | e9 + 4, hE => cases hE
  exact rSnd_none
theorem D21_0 : rDec M21 0 (.aload_n 3) 1 1 := ⟨by decide +kernel, rfl⟩
theorem D21_1 : rDec M21 1 (.iconst 0) 1 2 := ⟨by decide +kernel, rfl⟩
theorem D21_2 : rDec M21 2 (.aload_n 0) 1 3 := ⟨by decide +kernel, rfl⟩
theorem D21_3 : rDec M21 3 (.iload_n 1) 1 4 := ⟨by decide +kernel, rfl⟩
theorem D21_4 : rDec M21 4 (.iload_n 2) 1 5 := ⟨by decide +kernel, rfl⟩
theorem D21_5 : rDec M21 5 (.invokevirtual 33) 3 8 := ⟨by decide +kernel, rfl⟩
theorem D21_8 : rDec M21 8 (.i2l) 1 9 := ⟨by decide +kernel, rfl⟩
theorem D21_9 : rDec M21 9 (.lastore) 1 10 := ⟨by decide +kernel, rfl⟩
theorem D21_10 : rDec M21 10 (.goto 11) 3 13 := ⟨by decide +kernel, rfl⟩
theorem D21_13 : rDec M21 13 (.astore 4) 2 15 := ⟨by decide +kernel, rfl⟩
theorem D21_15 : rDec M21 15 (.iconst 1) 1 16 := ⟨by decide +kernel, rfl⟩
theorem D21_16 : rDec M21 16 (.ireturn) 1 17 := ⟨by decide +kernel, rfl⟩
theorem D21_21 : rDec M21 21 (.iconst 0) 1 22 := ⟨by decide +kernel, rfl⟩
theorem D21_22 : rDec M21 22 (.ireturn) 1 23 := ⟨by decide +kernel, rfl⟩
theorem P21_21 : rSnd lab M21 21 B21_21 := by
  refine s_ic D21_21 kc_i_0 (by decide) ?_
  exact s_Ri (Or.inl rfl) D21_22.1
theorem P21_13 : rSnd lab M21 13 B21_13 := by
  refine s_As sk4 (show 4 < 5 from by decide) (Or.inl D21_13) ?_
  refine s_ic D21_15 kc_i_1 (by decide) ?_
  exact s_Ri (Or.inl rfl) D21_16.1
theorem P21_0 : rSnd lab M21 0 B21_0 := by
  refine s_Ent ?_
  refine s_Al gk3 (Or.inr ⟨3, D21_0, rfl⟩) ?_
  refine s_ic D21_1 kc_i_0 (by decide) ?_
  refine s_Al gk0 (Or.inr ⟨0, D21_2, rfl⟩) ?_
  refine s_Il gk1 (Or.inr ⟨1, D21_3, rfl⟩) ?_
  refine s_Il gk2 (Or.inr ⟨2, D21_4, rfl⟩) ?_
  refine s_Ch (kd := 2) (C := "WordWright") (by decide) (by decide +kernel) rfl rfl (l_V rfl ok62 rfl wd1412 wd1413 wd1414 D21_5.1) (fun e9 h => rNth_ge _ e9 _ h) (fun e9 E hE => ?_) (?_ : rSnd _ _ 8 _)
  · match e9, hE with
    | 0, hE => cases hE; exact Or.inl rfl
    | 1, hE => cases hE; exact Or.inl rfl
    | 2, hE => cases hE; exact Or.inr ⟨"java/lang/IndexOutOfBoundsException", [], ⟨0, 10, 13, 21⟩, [⟨0, 10, 17, 36⟩], rfl, fun z hz => absurd hz List.not_mem_nil, by decide, by decide, wd1344, ⟨44, rfl⟩, P21_13⟩
    | 3, hE => cases hE; exact Or.inl rfl
    | e9 + 4, hE => cases hE
  refine s_I2l D21_8 ?_
  refine s_Ast (t := 2) rfl q_last rfl (by decide) D21_9 ?_
  exact s_Go (pc' := 21) D21_10.1 (by decide) P21_21
theorem D22_0 : rDec M22 0 (.aload 4) 2 2 := ⟨by decide +kernel, rfl⟩
theorem D22_2 : rDec M22 2 (.iconst 0) 1 3 := ⟨by decide +kernel, rfl⟩
theorem D22_3 : rDec M22 3 (.aload_n 0) 1 4 := ⟨by decide +kernel, rfl⟩
theorem D22_4 : rDec M22 4 (.iload_n 1) 1 5 := ⟨by decide +kernel, rfl⟩
theorem D22_5 : rDec M22 5 (.iload_n 2) 1 6 := ⟨by decide +kernel, rfl⟩
theorem D22_6 : rDec M22 6 (.iload_n 3) 1 7 := ⟨by decide +kernel, rfl⟩
theorem D22_7 : rDec M22 7 (.invokevirtual 58) 3 10 := ⟨by decide +kernel, rfl⟩
theorem D22_15 : rDec M22 15 (.astore 5) 2 17 := ⟨by decide +kernel, rfl⟩
theorem D22_17 : rDec M22 17 (.iconst 1) 1 18 := ⟨by decide +kernel, rfl⟩
theorem D22_18 : rDec M22 18 (.ireturn) 1 19 := ⟨by decide +kernel, rfl⟩
theorem P22_15 : rSnd lab M22 15 B22_15 := by
  refine s_As sk5 (show 5 < 6 from by decide) (Or.inl D22_15) ?_
  refine s_ic D22_17 kc_i_1 (by decide) ?_
  exact s_Ri (Or.inl rfl) D22_18.1
theorem P22_0 : rSnd lab M22 0 B22_0 := by
  refine s_Ent ?_
  refine s_Al gk4 (Or.inl D22_0) ?_
  refine s_ic D22_2 kc_i_0 (by decide) ?_
  refine s_Al gk0 (Or.inr ⟨0, D22_3, rfl⟩) ?_
  refine s_Il gk1 (Or.inr ⟨1, D22_4, rfl⟩) ?_
  refine s_Il gk2 (Or.inr ⟨2, D22_5, rfl⟩) ?_
  refine s_Il gk3 (Or.inr ⟨3, D22_6, rfl⟩) ?_
  refine s_Ch (kd := 2) (C := "WordWright") (by decide) (by decide +kernel) rfl rfl (l_V rfl ok63 rfl wd1477 wd1478 wd1479 D22_7.1) (fun e9 h => rNth_ge _ e9 _ h) (fun e9 E hE => ?_) (?_ : rSnd _ _ 10 _)
  · match e9, hE with
    | 0, hE => cases hE; exact Or.inl rfl
    | 1, hE => cases hE; exact Or.inl rfl
    | 2, hE => cases hE; exact Or.inr ⟨"java/lang/IndexOutOfBoundsException", [], ⟨0, 12, 15, 21⟩, [⟨0, 12, 19, 36⟩], rfl, fun z hz => absurd hz List.not_mem_nil, by decide, by decide, wd1344, ⟨44, rfl⟩, P22_15⟩
    | 3, hE => cases hE; exact Or.inl rfl
    | e9 + 4, hE => cases hE
  exact rSnd_none
theorem D23_0 : rDec M23 0 (.aload 4) 2 2 := ⟨by decide +kernel, rfl⟩
theorem D23_2 : rDec M23 2 (.iconst 0) 1 3 := ⟨by decide +kernel, rfl⟩
theorem D23_3 : rDec M23 3 (.aload_n 0) 1 4 := ⟨by decide +kernel, rfl⟩
theorem D23_4 : rDec M23 4 (.iload_n 1) 1 5 := ⟨by decide +kernel, rfl⟩
theorem D23_5 : rDec M23 5 (.iload_n 2) 1 6 := ⟨by decide +kernel, rfl⟩
theorem D23_6 : rDec M23 6 (.iload_n 3) 1 7 := ⟨by decide +kernel, rfl⟩
theorem D23_7 : rDec M23 7 (.invokevirtual 61) 3 10 := ⟨by decide +kernel, rfl⟩
theorem D23_10 : rDec M23 10 (.i2l) 1 11 := ⟨by decide +kernel, rfl⟩
theorem D23_11 : rDec M23 11 (.lastore) 1 12 := ⟨by decide +kernel, rfl⟩
theorem D23_12 : rDec M23 12 (.goto 11) 3 15 := ⟨by decide +kernel, rfl⟩
theorem D23_15 : rDec M23 15 (.astore 5) 2 17 := ⟨by decide +kernel, rfl⟩
theorem D23_17 : rDec M23 17 (.iconst 1) 1 18 := ⟨by decide +kernel, rfl⟩
theorem D23_18 : rDec M23 18 (.ireturn) 1 19 := ⟨by decide +kernel, rfl⟩
theorem D23_19 : rDec M23 19 (.astore 5) 2 21 := ⟨by decide +kernel, rfl⟩
theorem D23_21 : rDec M23 21 (.iconst 2) 1 22 := ⟨by decide +kernel, rfl⟩
theorem D23_22 : rDec M23 22 (.ireturn) 1 23 := ⟨by decide +kernel, rfl⟩
theorem D23_23 : rDec M23 23 (.iconst 0) 1 24 := ⟨by decide +kernel, rfl⟩
theorem D23_24 : rDec M23 24 (.ireturn) 1 25 := ⟨by decide +kernel, rfl⟩
theorem P23_23 : rSnd lab M23 23 B23_23 := by
  refine s_ic D23_23 kc_i_0 (by decide) ?_
  exact s_Ri (Or.inl rfl) D23_24.1
theorem P23_19 : rSnd lab M23 19 B23_19 := by
  refine s_As sk5 (show 5 < 6 from by decide) (Or.inl D23_19) ?_
  refine s_ic D23_21 kc_i_2 (by decide) ?_
  exact s_Ri (Or.inl rfl) D23_22.1
theorem P23_15 : rSnd lab M23 15 B23_15 := by
  refine s_As sk5 (show 5 < 6 from by decide) (Or.inl D23_15) ?_
  refine s_ic D23_17 kc_i_1 (by decide) ?_
  exact s_Ri (Or.inl rfl) D23_18.1
theorem P23_0 : rSnd lab M23 0 B23_0 := by
  refine s_Ent ?_
  refine s_Al gk4 (Or.inl D23_0) ?_
  refine s_ic D23_2 kc_i_0 (by decide) ?_
  refine s_Al gk0 (Or.inr ⟨0, D23_3, rfl⟩) ?_
  refine s_Il gk1 (Or.inr ⟨1, D23_4, rfl⟩) ?_
  refine s_Il gk2 (Or.inr ⟨2, D23_5, rfl⟩) ?_
  refine s_Il gk3 (Or.inr ⟨3, D23_6, rfl⟩) ?_
  refine s_Ch (kd := 2) (C := "WordWright") (by decide) (by decide +kernel) rfl rfl (l_V rfl ok68 rfl wd1486 wd1487 wd1488 D23_7.1) (fun e9 h => rNth_ge _ e9 _ h) (fun e9 E hE => ?_) (?_ : rSnd _ _ 10 _)
  · match e9, hE with
    | 0, hE => cases hE; exact Or.inr ⟨"java/lang/IllegalArgumentException", [⟨0, 12, 15, 21⟩], ⟨0, 12, 19, 13⟩, [], rfl, List.forall_mem_cons.mpr ⟨Or.inr ⟨by decide, "java/lang/IndexOutOfBoundsException", wd1344, by decide⟩, fun z hz => absurd hz List.not_mem_nil⟩, by decide, by decide, wd1256, ⟨32, rfl⟩, P23_19⟩
    | 1, hE => cases hE; exact Or.inl rfl
    | 2, hE => cases hE; exact Or.inr ⟨"java/lang/IndexOutOfBoundsException", [], ⟨0, 12, 15, 21⟩, [⟨0, 12, 19, 13⟩], rfl, fun z hz => absurd hz List.not_mem_nil, by decide, by decide, wd1344, ⟨44, rfl⟩, P23_15⟩
    | 3, hE => cases hE; exact Or.inl rfl
    | e9 + 4, hE => cases hE
  refine s_I2l D23_10 ?_
  refine s_Ast (t := 2) rfl q_last rfl (by decide) D23_11 ?_
  exact s_Go (pc' := 23) D23_12.1 (by decide) P23_23
theorem D24_0 : rDec M24 0 (.aload_n 1) 1 1 := ⟨by decide +kernel, rfl⟩
theorem D24_1 : rDec M24 1 (.iconst 0) 1 2 := ⟨by decide +kernel, rfl⟩
theorem D24_2 : rDec M24 2 (.aload_n 0) 1 3 := ⟨by decide +kernel, rfl⟩
theorem D24_3 : rDec M24 3 (.invokevirtual 64) 3 6 := ⟨by decide +kernel, rfl⟩
theorem D24_6 : rDec M24 6 (.i2l) 1 7 := ⟨by decide +kernel, rfl⟩
theorem D24_7 : rDec M24 7 (.lastore) 1 8 := ⟨by decide +kernel, rfl⟩
theorem D24_8 : rDec M24 8 (.goto 6) 3 11 := ⟨by decide +kernel, rfl⟩
theorem D24_14 : rDec M24 14 (.iconst 0) 1 15 := ⟨by decide +kernel, rfl⟩
theorem D24_15 : rDec M24 15 (.ireturn) 1 16 := ⟨by decide +kernel, rfl⟩
theorem P24_14 : rSnd lab M24 14 B24_14 := by
  refine s_ic D24_14 kc_i_0 (by decide) ?_
  exact s_Ri (Or.inl rfl) D24_15.1
theorem P24_0 : rSnd lab M24 0 B24_0 := by
  refine s_Ent ?_
  refine s_Al gk1 (Or.inr ⟨1, D24_0, rfl⟩) ?_
  refine s_ic D24_1 kc_i_0 (by decide) ?_
  refine s_Al gk0 (Or.inr ⟨0, D24_2, rfl⟩) ?_
  refine s_Ch (kd := 2) (C := "WordWright") (by decide) (by decide +kernel) rfl rfl (l_V rfl ok69 rfl wd1502 wd1503 wd1504 D24_3.1) (fun e9 h => rNth_ge _ e9 _ h) (fun e9 E hE => ?_) (?_ : rSnd _ _ 6 _)
  · match e9, hE with
    | 0, hE => cases hE; exact Or.inl rfl
    | 1, hE => cases hE; exact Or.inl rfl
    | 2, hE => cases hE; exact Or.inl rfl
    | 3, hE => cases hE; exact Or.inl rfl
    | e9 + 4, hE => cases hE
  refine s_I2l D24_6 ?_
  refine s_Ast (t := 2) rfl q_last rfl (by decide) D24_7 ?_
  exact s_Go (pc' := 14) D24_8.1 (by decide) P24_14
theorem D25_0 : rDec M25 0 (.aload_n 3) 1 1 := ⟨by decide +kernel, rfl⟩
theorem D25_1 : rDec M25 1 (.iconst 0) 1 2 := ⟨by decide +kernel, rfl⟩
theorem D25_2 : rDec M25 2 (.aload_n 0) 1 3 := ⟨by decide +kernel, rfl⟩
theorem D25_3 : rDec M25 3 (.iload_n 1) 1 4 := ⟨by decide +kernel, rfl⟩
theorem D25_4 : rDec M25 4 (.iload_n 2) 1 5 := ⟨by decide +kernel, rfl⟩
theorem D25_5 : rDec M25 5 (.invokevirtual 46) 3 8 := ⟨by decide +kernel, rfl⟩
theorem D25_13 : rDec M25 13 (.astore 4) 2 15 := ⟨by decide +kernel, rfl⟩
theorem D25_15 : rDec M25 15 (.iconst 1) 1 16 := ⟨by decide +kernel, rfl⟩
theorem D25_16 : rDec M25 16 (.ireturn) 1 17 := ⟨by decide +kernel, rfl⟩
theorem P25_13 : rSnd lab M25 13 B25_13 := by
  refine s_As sk4 (show 4 < 5 from by decide) (Or.inl D25_13) ?_
  refine s_ic D25_15 kc_i_1 (by decide) ?_
  exact s_Ri (Or.inl rfl) D25_16.1
theorem P25_0 : rSnd lab M25 0 B25_0 := by
  refine s_Ent ?_
  refine s_Al gk3 (Or.inr ⟨3, D25_0, rfl⟩) ?_
  refine s_ic D25_1 kc_i_0 (by decide) ?_
  refine s_Al gk0 (Or.inr ⟨0, D25_2, rfl⟩) ?_
  refine s_Il gk1 (Or.inr ⟨1, D25_3, rfl⟩) ?_
  refine s_Il gk2 (Or.inr ⟨2, D25_4, rfl⟩) ?_
  refine s_Ch (kd := 2) (C := "WordWright") (by decide) (by decide +kernel) rfl rfl (l_V rfl ok70 rfl wd1444 wd1445 wd1446 D25_5.1) (fun e9 h => rNth_ge _ e9 _ h) (fun e9 E hE => ?_) (?_ : rSnd _ _ 8 _)
  · match e9, hE with
    | 0, hE => cases hE; exact Or.inl rfl
    | 1, hE => cases hE; exact Or.inl rfl
    | 2, hE => cases hE; exact Or.inr ⟨"java/lang/IndexOutOfBoundsException", [], ⟨0, 10, 13, 21⟩, [⟨0, 10, 17, 13⟩], rfl, fun z hz => absurd hz List.not_mem_nil, by decide, by decide, wd1344, ⟨44, rfl⟩, P25_13⟩
    | 3, hE => cases hE; exact Or.inl rfl
    | e9 + 4, hE => cases hE
  exact rSnd_none
theorem D26_0 : rDec M26 0 (.aload_n 3) 1 1 := ⟨by decide +kernel, rfl⟩
theorem D26_1 : rDec M26 1 (.iconst 0) 1 2 := ⟨by decide +kernel, rfl⟩
theorem D26_2 : rDec M26 2 (.aload_n 0) 1 3 := ⟨by decide +kernel, rfl⟩
theorem D26_3 : rDec M26 3 (.iload_n 1) 1 4 := ⟨by decide +kernel, rfl⟩
theorem D26_4 : rDec M26 4 (.iload_n 2) 1 5 := ⟨by decide +kernel, rfl⟩
theorem D26_5 : rDec M26 5 (.invokevirtual 26) 3 8 := ⟨by decide +kernel, rfl⟩
theorem D26_8 : rDec M26 8 (.ifCond .eq 7) 3 11 := ⟨by decide +kernel, rfl⟩
theorem D26_11 : rDec M26 11 (.lconst 1) 1 12 := ⟨by decide +kernel, rfl⟩
theorem D26_12 : rDec M26 12 (.goto 4) 3 15 := ⟨by decide +kernel, rfl⟩
theorem D26_15 : rDec M26 15 (.lconst 0) 1 16 := ⟨by decide +kernel, rfl⟩
theorem D26_16 : rDec M26 16 (.lastore) 1 17 := ⟨by decide +kernel, rfl⟩
theorem D26_17 : rDec M26 17 (.goto 11) 3 20 := ⟨by decide +kernel, rfl⟩
theorem D26_20 : rDec M26 20 (.astore 4) 2 22 := ⟨by decide +kernel, rfl⟩
theorem D26_22 : rDec M26 22 (.iconst 1) 1 23 := ⟨by decide +kernel, rfl⟩
theorem D26_23 : rDec M26 23 (.ireturn) 1 24 := ⟨by decide +kernel, rfl⟩
theorem D26_24 : rDec M26 24 (.astore 4) 2 26 := ⟨by decide +kernel, rfl⟩
theorem D26_26 : rDec M26 26 (.iconst 2) 1 27 := ⟨by decide +kernel, rfl⟩
theorem D26_27 : rDec M26 27 (.ireturn) 1 28 := ⟨by decide +kernel, rfl⟩
theorem D26_28 : rDec M26 28 (.iconst 0) 1 29 := ⟨by decide +kernel, rfl⟩
theorem D26_29 : rDec M26 29 (.ireturn) 1 30 := ⟨by decide +kernel, rfl⟩
theorem P26_28 : rSnd lab M26 28 B26_28 := by
  refine s_ic D26_28 kc_i_0 (by decide) ?_
  exact s_Ri (Or.inl rfl) D26_29.1
theorem P26_24 : rSnd lab M26 24 B26_24 := by
  refine s_As sk4 (show 4 < 5 from by decide) (Or.inl D26_24) ?_
  refine s_ic D26_26 kc_i_2 (by decide) ?_
  exact s_Ri (Or.inl rfl) D26_27.1
theorem P26_20 : rSnd lab M26 20 B26_20 := by
  refine s_As sk4 (show 4 < 5 from by decide) (Or.inl D26_20) ?_
  refine s_ic D26_22 kc_i_1 (by decide) ?_
  exact s_Ri (Or.inl rfl) D26_23.1
theorem P26_16 : rSnd lab M26 16 B26_16 := by
  refine s_Ast (t := 2) rfl q_last rfl (by decide) D26_16 ?_
  exact s_Go (pc' := 28) D26_17.1 (by decide) P26_28
theorem P26_15 : rSnd lab M26 15 B26_15 := by
  refine s_lc D26_15 kc_L_0 (by decide) ?_
  exact P26_16
theorem P26_0 : rSnd lab M26 0 B26_0 := by
  refine s_Ent ?_
  refine s_Al gk3 (Or.inr ⟨3, D26_0, rfl⟩) ?_
  refine s_ic D26_1 kc_i_0 (by decide) ?_
  refine s_Al gk0 (Or.inr ⟨0, D26_2, rfl⟩) ?_
  refine s_Il gk1 (Or.inr ⟨1, D26_3, rfl⟩) ?_
  refine s_Il gk2 (Or.inr ⟨2, D26_4, rfl⟩) ?_
  refine s_Ch (kd := 2) (C := "WordWright") (by decide) (by decide +kernel) rfl rfl (l_V rfl ok71 rfl wd1377 wd1378 wd1379 D26_5.1) (fun e9 h => rNth_ge _ e9 _ h) (fun e9 E hE => ?_) (?_ : rSnd _ _ 8 _)
  · match e9, hE with
    | 0, hE => cases hE; exact Or.inr ⟨"java/lang/IllegalArgumentException", [⟨0, 17, 20, 21⟩], ⟨0, 17, 24, 13⟩, [], rfl, List.forall_mem_cons.mpr ⟨Or.inr ⟨by decide, "java/lang/IndexOutOfBoundsException", wd1344, by decide⟩, fun z hz => absurd hz List.not_mem_nil⟩, by decide, by decide, wd1256, ⟨32, rfl⟩, P26_24⟩
    | 1, hE => cases hE; exact Or.inl rfl
    | 2, hE => cases hE; exact Or.inr ⟨"java/lang/IndexOutOfBoundsException", [], ⟨0, 17, 20, 21⟩, [⟨0, 17, 24, 13⟩], rfl, fun z hz => absurd hz List.not_mem_nil, by decide, by decide, wd1344, ⟨44, rfl⟩, P26_20⟩
    | 3, hE => cases hE; exact Or.inl rfl
    | e9 + 4, hE => cases hE
  refine s_If c_eq (fun _ => rfl) (fun _ _ => rfl) (b_eq (tg := 15) (by decide)) D26_8.1 P26_15 (?_ : rSnd _ _ 11 _)
  refine s_lc D26_11 kc_L_1 (by decide) ?_
  exact s_Go (pc' := 16) D26_12.1 (by decide) P26_16
theorem D27_0 : rDec M27 0 (.aload_n 3) 1 1 := ⟨by decide +kernel, rfl⟩
theorem D27_1 : rDec M27 1 (.iconst 0) 1 2 := ⟨by decide +kernel, rfl⟩
theorem D27_2 : rDec M27 2 (.aload_n 0) 1 3 := ⟨by decide +kernel, rfl⟩
theorem D27_3 : rDec M27 3 (.iload_n 1) 1 4 := ⟨by decide +kernel, rfl⟩
theorem D27_4 : rDec M27 4 (.iload_n 2) 1 5 := ⟨by decide +kernel, rfl⟩
theorem D27_5 : rDec M27 5 (.invokevirtual 30) 3 8 := ⟨by decide +kernel, rfl⟩
theorem D27_8 : rDec M27 8 (.i2l) 1 9 := ⟨by decide +kernel, rfl⟩
theorem D27_9 : rDec M27 9 (.lastore) 1 10 := ⟨by decide +kernel, rfl⟩
theorem D27_10 : rDec M27 10 (.goto 11) 3 13 := ⟨by decide +kernel, rfl⟩
theorem D27_13 : rDec M27 13 (.astore 4) 2 15 := ⟨by decide +kernel, rfl⟩
theorem D27_15 : rDec M27 15 (.iconst 1) 1 16 := ⟨by decide +kernel, rfl⟩
theorem D27_16 : rDec M27 16 (.ireturn) 1 17 := ⟨by decide +kernel, rfl⟩
theorem D27_17 : rDec M27 17 (.astore 4) 2 19 := ⟨by decide +kernel, rfl⟩
theorem D27_19 : rDec M27 19 (.iconst 2) 1 20 := ⟨by decide +kernel, rfl⟩
theorem D27_20 : rDec M27 20 (.ireturn) 1 21 := ⟨by decide +kernel, rfl⟩
theorem D27_21 : rDec M27 21 (.iconst 0) 1 22 := ⟨by decide +kernel, rfl⟩
theorem D27_22 : rDec M27 22 (.ireturn) 1 23 := ⟨by decide +kernel, rfl⟩
theorem P27_21 : rSnd lab M27 21 B27_21 := by
  refine s_ic D27_21 kc_i_0 (by decide) ?_
  exact s_Ri (Or.inl rfl) D27_22.1
theorem P27_17 : rSnd lab M27 17 B27_17 := by
  refine s_As sk4 (show 4 < 5 from by decide) (Or.inl D27_17) ?_
  refine s_ic D27_19 kc_i_2 (by decide) ?_
  exact s_Ri (Or.inl rfl) D27_20.1
theorem P27_13 : rSnd lab M27 13 B27_13 := by
  refine s_As sk4 (show 4 < 5 from by decide) (Or.inl D27_13) ?_
  refine s_ic D27_15 kc_i_1 (by decide) ?_
  exact s_Ri (Or.inl rfl) D27_16.1
theorem P27_0 : rSnd lab M27 0 B27_0 := by
  refine s_Ent ?_
  refine s_Al gk3 (Or.inr ⟨3, D27_0, rfl⟩) ?_
  refine s_ic D27_1 kc_i_0 (by decide) ?_
  refine s_Al gk0 (Or.inr ⟨0, D27_2, rfl⟩) ?_
  refine s_Il gk1 (Or.inr ⟨1, D27_3, rfl⟩) ?_
  refine s_Il gk2 (Or.inr ⟨2, D27_4, rfl⟩) ?_
  refine s_Ch (kd := 2) (C := "WordWright") (by decide) (by decide +kernel) rfl rfl (l_V rfl ok72 rfl wd1390 wd1391 wd1392 D27_5.1) (fun e9 h => rNth_ge _ e9 _ h) (fun e9 E hE => ?_) (?_ : rSnd _ _ 8 _)
  · match e9, hE with
    | 0, hE => cases hE; exact Or.inr ⟨"java/lang/IllegalArgumentException", [⟨0, 10, 13, 21⟩], ⟨0, 10, 17, 13⟩, [], rfl, List.forall_mem_cons.mpr ⟨Or.inr ⟨by decide, "java/lang/IndexOutOfBoundsException", wd1344, by decide⟩, fun z hz => absurd hz List.not_mem_nil⟩, by decide, by decide, wd1256, ⟨32, rfl⟩, P27_17⟩
    | 1, hE => cases hE; exact Or.inl rfl
    | 2, hE => cases hE; exact Or.inr ⟨"java/lang/IndexOutOfBoundsException", [], ⟨0, 10, 13, 21⟩, [⟨0, 10, 17, 13⟩], rfl, fun z hz => absurd hz List.not_mem_nil, by decide, by decide, wd1344, ⟨44, rfl⟩, P27_13⟩
    | 3, hE => cases hE; exact Or.inl rfl
    | e9 + 4, hE => cases hE
  refine s_I2l D27_8 ?_
  refine s_Ast (t := 2) rfl q_last rfl (by decide) D27_9 ?_
  exact s_Go (pc' := 21) D27_10.1 (by decide) P27_21
