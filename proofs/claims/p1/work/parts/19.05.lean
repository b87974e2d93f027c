-- ===== rows and blocks, 5 =====
theorem D116_0 : rDec M116 0 (.aload_n 0) 1 1 := ⟨by decide +kernel, rfl⟩
theorem D116_1 : rDec M116 1 (.getfield 1) 3 4 := ⟨by decide +kernel, rfl⟩
theorem D116_4 : rDec M116 4 (.getfield 28) 3 7 := ⟨by decide +kernel, rfl⟩
theorem D116_7 : rDec M116 7 (.lload_n 1) 1 8 := ⟨by decide +kernel, rfl⟩
theorem D116_8 : rDec M116 8 (.l2i) 1 9 := ⟨by decide +kernel, rfl⟩
theorem D116_9 : rDec M116 9 (.bipush 16) 2 11 := ⟨by decide +kernel, rfl⟩
theorem D116_11 : rDec M116 11 (.idiv) 1 12 := ⟨by decide +kernel, rfl⟩
theorem D116_12 : rDec M116 12 (.baload) 1 13 := ⟨by decide +kernel, rfl⟩
theorem D116_13 : rDec M116 13 (.istore_n 3) 1 14 := ⟨by decide +kernel, rfl⟩
theorem D116_14 : rDec M116 14 (.aload_n 0) 1 15 := ⟨by decide +kernel, rfl⟩
theorem D116_15 : rDec M116 15 (.getfield 7) 3 18 := ⟨by decide +kernel, rfl⟩
theorem D116_18 : rDec M116 18 (.getfield 28) 3 21 := ⟨by decide +kernel, rfl⟩
theorem D116_21 : rDec M116 21 (.lload_n 1) 1 22 := ⟨by decide +kernel, rfl⟩
theorem D116_22 : rDec M116 22 (.l2i) 1 23 := ⟨by decide +kernel, rfl⟩
theorem D116_23 : rDec M116 23 (.bipush 16) 2 25 := ⟨by decide +kernel, rfl⟩
theorem D116_25 : rDec M116 25 (.irem) 1 26 := ⟨by decide +kernel, rfl⟩
theorem D116_26 : rDec M116 26 (.baload) 1 27 := ⟨by decide +kernel, rfl⟩
theorem D116_27 : rDec M116 27 (.istore 4) 2 29 := ⟨by decide +kernel, rfl⟩
theorem D116_29 : rDec M116 29 (.aload_n 0) 1 30 := ⟨by decide +kernel, rfl⟩
theorem D116_30 : rDec M116 30 (.getfield 10) 3 33 := ⟨by decide +kernel, rfl⟩
theorem D116_33 : rDec M116 33 (.iconst 5) 1 34 := ⟨by decide +kernel, rfl⟩
theorem D116_34 : rDec M116 34 (.if_icmp .ne 20) 3 37 := ⟨by decide +kernel, rfl⟩
theorem D116_37 : rDec M116 37 (.iload_n 3) 1 38 := ⟨by decide +kernel, rfl⟩
theorem D116_38 : rDec M116 38 (.ifCond .ne 8) 3 41 := ⟨by decide +kernel, rfl⟩
theorem D116_41 : rDec M116 41 (.iload 4) 2 43 := ⟨by decide +kernel, rfl⟩
theorem D116_43 : rDec M116 43 (.ifCond .eq 7) 3 46 := ⟨by decide +kernel, rfl⟩
theorem D116_46 : rDec M116 46 (.iconst 1) 1 47 := ⟨by decide +kernel, rfl⟩
theorem D116_47 : rDec M116 47 (.goto 35) 3 50 := ⟨by decide +kernel, rfl⟩
theorem D116_50 : rDec M116 50 (.iconst 0) 1 51 := ⟨by decide +kernel, rfl⟩
theorem D116_51 : rDec M116 51 (.goto 31) 3 54 := ⟨by decide +kernel, rfl⟩
theorem D116_54 : rDec M116 54 (.iload_n 3) 1 55 := ⟨by decide +kernel, rfl⟩
theorem D116_55 : rDec M116 55 (.ifCond .eq 26) 3 58 := ⟨by decide +kernel, rfl⟩
theorem D116_58 : rDec M116 58 (.iload 4) 2 60 := ⟨by decide +kernel, rfl⟩
theorem D116_60 : rDec M116 60 (.aload_n 0) 1 61 := ⟨by decide +kernel, rfl⟩
theorem D116_61 : rDec M116 61 (.getfield 10) 3 64 := ⟨by decide +kernel, rfl⟩
theorem D116_64 : rDec M116 64 (.bipush 6) 2 66 := ⟨by decide +kernel, rfl⟩
theorem D116_66 : rDec M116 66 (.if_icmp .ne 7) 3 69 := ⟨by decide +kernel, rfl⟩
theorem D116_69 : rDec M116 69 (.iconst 1) 1 70 := ⟨by decide +kernel, rfl⟩
theorem D116_70 : rDec M116 70 (.goto 4) 3 73 := ⟨by decide +kernel, rfl⟩
theorem D116_73 : rDec M116 73 (.iconst 0) 1 74 := ⟨by decide +kernel, rfl⟩
theorem D116_74 : rDec M116 74 (.if_icmp .ne 7) 3 77 := ⟨by decide +kernel, rfl⟩
theorem D116_77 : rDec M116 77 (.iconst 1) 1 78 := ⟨by decide +kernel, rfl⟩
theorem D116_78 : rDec M116 78 (.goto 4) 3 81 := ⟨by decide +kernel, rfl⟩
theorem D116_81 : rDec M116 81 (.iconst 0) 1 82 := ⟨by decide +kernel, rfl⟩
theorem D116_82 : rDec M116 82 (.ireturn) 1 83 := ⟨by decide +kernel, rfl⟩
theorem P116_82 : rSnd lab M116 82 B116_82 := by
  exact s_Ri (Or.inr ⟨rfl, by decide⟩) D116_82.1
theorem P116_81 : rSnd lab M116 81 B116_81 := by
  refine s_ic D116_81 kc_i_0 (by decide) ?_
  exact P116_82
theorem P116_74 : rSnd lab M116 74 B116_74 := by
  refine s_Ic c_ne (i_ne (tg := 81) (by decide)) D116_74.1 P116_81 (?_ : rSnd _ _ 77 _)
  refine s_ic D116_77 kc_i_1 (by decide) ?_
  exact s_Go (pc' := 82) D116_78.1 (by decide) P116_82
theorem P116_73 : rSnd lab M116 73 B116_73 := by
  refine s_ic D116_73 kc_i_0 (by decide) ?_
  exact P116_74
theorem P116_54 : rSnd lab M116 54 B116_54 := by
  refine s_Il gk3 (Or.inr ⟨3, D116_54, rfl⟩) ?_
  refine s_If c_eq (fun _ => rfl) (fun _ _ => rfl) (b_eq (tg := 81) (by decide)) D116_55.1 P116_81 (?_ : rSnd _ _ 58 _)
  refine s_Il gk4 (Or.inl D116_58) ?_
  refine s_Al gk0 (Or.inr ⟨0, D116_60, rfl⟩) ?_
  refine s_Gf (ci := 13) (r := ("WordWrightModel$2", kT13, 3)) rfl (show 2 < 3 from by decide) rfl (Or.inl wd2141) (Or.inl rfl) rfl D116_61 ?_
  refine s_bi D116_64 kc_b_6 (by decide) ?_
  refine s_Ic c_ne (i_ne (tg := 73) (by decide)) D116_66.1 P116_73 (?_ : rSnd _ _ 69 _)
  refine s_ic D116_69 kc_i_1 (by decide) ?_
  exact s_Go (pc' := 74) D116_70.1 (by decide) P116_74
theorem P116_50 : rSnd lab M116 50 B116_50 := by
  refine s_ic D116_50 kc_i_0 (by decide) ?_
  exact s_Go (pc' := 82) D116_51.1 (by decide) P116_82
theorem P116_46 : rSnd lab M116 46 B116_46 := by
  refine s_ic D116_46 kc_i_1 (by decide) ?_
  exact s_Go (pc' := 82) D116_47.1 (by decide) P116_82
theorem P116_0 : rSnd lab M116 0 B116_0 := by
  refine s_Ent ?_
  refine s_Al gk0 (Or.inr ⟨0, D116_0, rfl⟩) ?_
  refine s_Gf (ci := 13) (r := ("WordWrightModel$2", kT13, 3)) rfl (show 0 < 3 from by decide) rfl (Or.inl wd2139) (Or.inl rfl) rfl D116_1 ?_
  refine s_Gf (ci := 19) (r := ("WordWrightModel$Dfa", kT19, 3)) rfl (show 2 < 3 from by decide) rfl (Or.inl wd1824) (Or.inl rfl) rfl D116_4 ?_
  refine s_Ll gk1 (Or.inr ⟨1, D116_7, rfl⟩) ?_
  refine s_L2i D116_8 ?_
  refine s_bi D116_9 kc_b_16 (by decide) ?_
  refine s_Div q_idiv n_div g_div D116_11 ?_
  refine s_Ald (t := 1) (ty := .boolean) rfl q_zald rfl D116_12 ?_
  refine s_Is sk3 (show 3 < 5 from by decide) (Or.inr ⟨3, D116_13, rfl⟩) ?_
  refine s_Al gk0 (Or.inr ⟨0, D116_14, rfl⟩) ?_
  refine s_Gf (ci := 13) (r := ("WordWrightModel$2", kT13, 3)) rfl (show 1 < 3 from by decide) rfl (Or.inl wd2140) (Or.inl rfl) rfl D116_15 ?_
  refine s_Gf (ci := 19) (r := ("WordWrightModel$Dfa", kT19, 3)) rfl (show 2 < 3 from by decide) rfl (Or.inl wd1824) (Or.inl rfl) rfl D116_18 ?_
  refine s_Ll gk1 (Or.inr ⟨1, D116_21, rfl⟩) ?_
  refine s_L2i D116_22 ?_
  refine s_bi D116_23 kc_b_16 (by decide) ?_
  refine s_Div q_irem n_rem rG2_x D116_25 ?_
  refine s_Ald (t := 1) (ty := .boolean) rfl q_zald rfl D116_26 ?_
  refine s_Is sk4 (show 4 < 5 from by decide) (Or.inl D116_27) ?_
  refine s_Al gk0 (Or.inr ⟨0, D116_29, rfl⟩) ?_
  refine s_Gf (ci := 13) (r := ("WordWrightModel$2", kT13, 3)) rfl (show 2 < 3 from by decide) rfl (Or.inl wd2141) (Or.inl rfl) rfl D116_30 ?_
  refine s_ic D116_33 kc_i_5 (by decide) ?_
  refine s_Ic c_ne (i_ne (tg := 54) (by decide)) D116_34.1 P116_54 (?_ : rSnd _ _ 37 _)
  refine s_Il gk3 (Or.inr ⟨3, D116_37, rfl⟩) ?_
  refine s_If c_ne (fun _ => rfl) (fun _ _ => rfl) (b_ne (tg := 46) (by decide)) D116_38.1 P116_46 (?_ : rSnd _ _ 41 _)
  refine s_Il gk4 (Or.inl D116_41) ?_
  refine s_If c_eq (fun _ => rfl) (fun _ _ => rfl) (b_eq (tg := 50) (by decide)) D116_43.1 P116_50 (?_ : rSnd _ _ 46 _)
  exact P116_46
theorem D117_0 : rDec M117 0 (.lconst 0) 1 1 := ⟨by decide +kernel, rfl⟩
theorem D117_1 : rDec M117 1 (.lreturn) 1 2 := ⟨by decide +kernel, rfl⟩
theorem P117_0 : rSnd lab M117 0 B117_0 := by
  refine s_Ent ?_
  refine s_lc D117_0 kc_L_0 (by decide) ?_
  exact s_Rl rfl D117_1.1
theorem D118_0 : rDec M118 0 (.aload_n 0) 1 1 := ⟨by decide +kernel, rfl⟩
theorem D118_1 : rDec M118 1 (.getfield 1) 3 4 := ⟨by decide +kernel, rfl⟩
theorem D118_4 : rDec M118 4 (.lload_n 1) 1 5 := ⟨by decide +kernel, rfl⟩
theorem D118_5 : rDec M118 5 (.l2i) 1 6 := ⟨by decide +kernel, rfl⟩
theorem D118_6 : rDec M118 6 (.bipush 16) 2 8 := ⟨by decide +kernel, rfl⟩
theorem D118_8 : rDec M118 8 (.idiv) 1 9 := ⟨by decide +kernel, rfl⟩
theorem D118_9 : rDec M118 9 (.iload_n 3) 1 10 := ⟨by decide +kernel, rfl⟩
theorem D118_10 : rDec M118 10 (.invokevirtual 20) 3 13 := ⟨by decide +kernel, rfl⟩
theorem D118_13 : rDec M118 13 (.i2l) 1 14 := ⟨by decide +kernel, rfl⟩
theorem D118_14 : rDec M118 14 (.ldc2_w 26) 3 17 := ⟨by decide +kernel, rfl⟩
theorem D118_17 : rDec M118 17 (.lmul) 1 18 := ⟨by decide +kernel, rfl⟩
theorem D118_18 : rDec M118 18 (.aload_n 0) 1 19 := ⟨by decide +kernel, rfl⟩
theorem D118_19 : rDec M118 19 (.getfield 7) 3 22 := ⟨by decide +kernel, rfl⟩
theorem D118_22 : rDec M118 22 (.lload_n 1) 1 23 := ⟨by decide +kernel, rfl⟩
theorem D118_23 : rDec M118 23 (.l2i) 1 24 := ⟨by decide +kernel, rfl⟩
theorem D118_24 : rDec M118 24 (.bipush 16) 2 26 := ⟨by decide +kernel, rfl⟩
theorem D118_26 : rDec M118 26 (.irem) 1 27 := ⟨by decide +kernel, rfl⟩
theorem D118_27 : rDec M118 27 (.iload_n 3) 1 28 := ⟨by decide +kernel, rfl⟩
theorem D118_28 : rDec M118 28 (.invokevirtual 20) 3 31 := ⟨by decide +kernel, rfl⟩
theorem D118_31 : rDec M118 31 (.i2l) 1 32 := ⟨by decide +kernel, rfl⟩
theorem D118_32 : rDec M118 32 (.ladd) 1 33 := ⟨by decide +kernel, rfl⟩
theorem D118_33 : rDec M118 33 (.lreturn) 1 34 := ⟨by decide +kernel, rfl⟩
theorem P118_0 : rSnd lab M118 0 B118_0 := by
  refine s_Ent ?_
  refine s_Al gk0 (Or.inr ⟨0, D118_0, rfl⟩) ?_
  refine s_Gf (ci := 13) (r := ("WordWrightModel$2", kT13, 3)) rfl (show 0 < 3 from by decide) rfl (Or.inl wd2139) (Or.inl rfl) rfl D118_1 ?_
  refine s_Ll gk1 (Or.inr ⟨1, D118_4, rfl⟩) ?_
  refine s_L2i D118_5 ?_
  refine s_bi D118_6 kc_b_16 (by decide) ?_
  refine s_Div q_idiv n_div g_div D118_8 ?_
  refine s_Il gk3 (Or.inr ⟨3, D118_9, rfl⟩) ?_
  refine s_Cv (ln := 3) (kd := 40) (C := "WordWrightModel$Dfa") (by decide) (by decide +kernel) rfl (l_V rfl ok147 rfl wd1759 wd1739 wd1740 D118_10.1) (?_ : rSnd _ _ 13 _)
  refine s_I2l D118_13 ?_
  refine s_ld2 rfl wd1760 D118_14 kc_J_16 (by decide) ?_
  refine s_BinL q_lmul nl_mul D118_17 ?_
  refine s_Al gk0 (Or.inr ⟨0, D118_18, rfl⟩) ?_
  refine s_Gf (ci := 13) (r := ("WordWrightModel$2", kT13, 3)) rfl (show 1 < 3 from by decide) rfl (Or.inl wd2140) (Or.inl rfl) rfl D118_19 ?_
  refine s_Ll gk1 (Or.inr ⟨1, D118_22, rfl⟩) ?_
  refine s_L2i D118_23 ?_
  refine s_bi D118_24 kc_b_16 (by decide) ?_
  refine s_Div q_irem n_rem rG2_x D118_26 ?_
  refine s_Il gk3 (Or.inr ⟨3, D118_27, rfl⟩) ?_
  refine s_Cv (ln := 3) (kd := 40) (C := "WordWrightModel$Dfa") (by decide) (by decide +kernel) rfl (l_V rfl ok147 rfl wd1759 wd1739 wd1740 D118_28.1) (?_ : rSnd _ _ 31 _)
  refine s_I2l D118_31 ?_
  refine s_BinL q_ladd nl_add D118_32 ?_
  exact s_Rl rfl D118_33.1
theorem D119_0 : rDec M119 0 (.aload_n 0) 1 1 := ⟨by decide +kernel, rfl⟩
theorem D119_1 : rDec M119 1 (.aload_n 1) 1 2 := ⟨by decide +kernel, rfl⟩
theorem D119_2 : rDec M119 2 (.putfield 1) 3 5 := ⟨by decide +kernel, rfl⟩
theorem D119_5 : rDec M119 5 (.aload_n 0) 1 6 := ⟨by decide +kernel, rfl⟩
theorem D119_6 : rDec M119 6 (.aload_n 2) 1 7 := ⟨by decide +kernel, rfl⟩
theorem D119_7 : rDec M119 7 (.putfield 7) 3 10 := ⟨by decide +kernel, rfl⟩
theorem D119_10 : rDec M119 10 (.aload_n 0) 1 11 := ⟨by decide +kernel, rfl⟩
theorem D119_11 : rDec M119 11 (.iload_n 3) 1 12 := ⟨by decide +kernel, rfl⟩
theorem D119_12 : rDec M119 12 (.putfield 10) 3 15 := ⟨by decide +kernel, rfl⟩
theorem D119_15 : rDec M119 15 (.aload_n 0) 1 16 := ⟨by decide +kernel, rfl⟩
theorem D119_16 : rDec M119 16 (.invokespecial 14) 3 19 := ⟨by decide +kernel, rfl⟩
theorem D119_19 : rDec M119 19 (.return_) 1 20 := ⟨by decide +kernel, rfl⟩
theorem P119_0 : rSnd lab M119 0 B119_0 := by
  refine s_Ent ?_
  refine s_Al gk0 (Or.inr ⟨0, D119_0, rfl⟩) ?_
  refine s_Al gk1 (Or.inr ⟨1, D119_1, rfl⟩) ?_
  refine s_Pf (ci := 13) (r := ("WordWrightModel$2", kT13, 3)) rfl (show 0 < 3 from by decide) rfl (Or.inr ⟨rfl, wd2139, rfl, rfl⟩) (Or.inl rfl) rfl (by decide) D119_2 ?_
  refine s_Al gk0 (Or.inr ⟨0, D119_5, rfl⟩) ?_
  refine s_Al gk2 (Or.inr ⟨2, D119_6, rfl⟩) ?_
  refine s_Pf (ci := 13) (r := ("WordWrightModel$2", kT13, 3)) rfl (show 1 < 3 from by decide) rfl (Or.inr ⟨rfl, wd2140, rfl, rfl⟩) (Or.inl rfl) rfl (by decide) D119_7 ?_
  refine s_Al gk0 (Or.inr ⟨0, D119_10, rfl⟩) ?_
  refine s_Il gk3 (Or.inr ⟨3, D119_11, rfl⟩) ?_
  refine s_Pf (ci := 13) (r := ("WordWrightModel$2", kT13, 3)) rfl (show 2 < 3 from by decide) rfl (Or.inr ⟨rfl, wd2141, rfl, rfl⟩) (Or.inl rfl) rfl (by decide) D119_12 ?_
  refine s_Al gk0 (Or.inr ⟨0, D119_15, rfl⟩) ?_
  refine s_Ci (id := 204) rfl (l_IN (j := 7) rfl ok163 rfl rfl rfl rfl wd1681 D119_16.1) (?_ : rSnd _ _ 19 _)
  exact s_Rv rfl D119_19.1
theorem D120_0 : rDec M120 0 (.aload_n 0) 1 1 := ⟨by decide +kernel, rfl⟩
theorem D120_1 : rDec M120 1 (.getfield 7) 3 4 := ⟨by decide +kernel, rfl⟩
theorem D120_4 : rDec M120 4 (.lload_n 1) 1 5 := ⟨by decide +kernel, rfl⟩
theorem D120_5 : rDec M120 5 (.ldc2_w 16) 3 8 := ⟨by decide +kernel, rfl⟩
theorem D120_8 : rDec M120 8 (.lrem) 1 9 := ⟨by decide +kernel, rfl⟩
theorem D120_9 : rDec M120 9 (.invokestatic 38) 3 12 := ⟨by decide +kernel, rfl⟩
theorem D120_12 : rDec M120 12 (.ireturn) 1 13 := ⟨by decide +kernel, rfl⟩
theorem P120_0 : rSnd lab M120 0 B120_0 := by
  refine s_Ent ?_
  refine s_Al gk0 (Or.inr ⟨0, D120_0, rfl⟩) ?_
  refine s_Gf (ci := 14) (r := ("WordWrightModel$3", kT14, 2)) rfl (show 1 < 2 from by decide) rfl (Or.inl wd2121) (Or.inl rfl) rfl D120_1 ?_
  refine s_Ll gk1 (Or.inr ⟨1, D120_4, rfl⟩) ?_
  refine s_ld2 rfl wd1714 D120_5 kc_J_1024 (by decide) ?_
  refine s_BinL q_lrem nl_rem D120_8 ?_
  refine s_Cs (id := 283) rfl (l_SN (j := 8) rfl ok204 rfl rfl wd1775 D120_9.1) (?_ : rSnd _ _ 12 _)
  exact s_Ri (Or.inr ⟨rfl, by decide⟩) D120_12.1
theorem D121_0 : rDec M121 0 (.aload_n 0) 1 1 := ⟨by decide +kernel, rfl⟩
theorem D121_1 : rDec M121 1 (.iconst 0) 1 2 := ⟨by decide +kernel, rfl⟩
theorem D121_2 : rDec M121 2 (.lconst 0) 1 3 := ⟨by decide +kernel, rfl⟩
theorem D121_3 : rDec M121 3 (.invokevirtual 24) 3 6 := ⟨by decide +kernel, rfl⟩
theorem D121_6 : rDec M121 6 (.lreturn) 1 7 := ⟨by decide +kernel, rfl⟩
theorem P121_0 : rSnd lab M121 0 B121_0 := by
  refine s_Ent ?_
  refine s_Al gk0 (Or.inr ⟨0, D121_0, rfl⟩) ?_
  refine s_ic D121_1 kc_i_0 (by decide) ?_
  refine s_lc D121_2 kc_L_0 (by decide) ?_
  refine s_Cv (ln := 3) (kd := 30) (C := "WordWrightModel$3") (by decide) (by decide +kernel) rfl (l_V rfl ok124 rfl wd1709 wd1711 ws58 D121_3.1) (?_ : rSnd _ _ 6 _)
  exact s_Rl rfl D121_6.1
theorem D122_0 : rDec M122 0 (.aload_n 0) 1 1 := ⟨by decide +kernel, rfl⟩
theorem D122_1 : rDec M122 1 (.aload_n 0) 1 2 := ⟨by decide +kernel, rfl⟩
theorem D122_2 : rDec M122 2 (.getfield 1) 3 5 := ⟨by decide +kernel, rfl⟩
theorem D122_5 : rDec M122 5 (.lload_n 1) 1 6 := ⟨by decide +kernel, rfl⟩
theorem D122_6 : rDec M122 6 (.ldc2_w 16) 3 9 := ⟨by decide +kernel, rfl⟩
theorem D122_9 : rDec M122 9 (.ldiv) 1 10 := ⟨by decide +kernel, rfl⟩
theorem D122_10 : rDec M122 10 (.l2i) 1 11 := ⟨by decide +kernel, rfl⟩
theorem D122_11 : rDec M122 11 (.iload_n 3) 1 12 := ⟨by decide +kernel, rfl⟩
theorem D122_12 : rDec M122 12 (.invokevirtual 28) 3 15 := ⟨by decide +kernel, rfl⟩
theorem D122_15 : rDec M122 15 (.aload_n 0) 1 16 := ⟨by decide +kernel, rfl⟩
theorem D122_16 : rDec M122 16 (.getfield 7) 3 19 := ⟨by decide +kernel, rfl⟩
theorem D122_19 : rDec M122 19 (.lload_n 1) 1 20 := ⟨by decide +kernel, rfl⟩
theorem D122_20 : rDec M122 20 (.ldc2_w 16) 3 23 := ⟨by decide +kernel, rfl⟩
theorem D122_23 : rDec M122 23 (.lrem) 1 24 := ⟨by decide +kernel, rfl⟩
theorem D122_24 : rDec M122 24 (.iload_n 3) 1 25 := ⟨by decide +kernel, rfl⟩
theorem D122_25 : rDec M122 25 (.invokestatic 32) 3 28 := ⟨by decide +kernel, rfl⟩
theorem D122_28 : rDec M122 28 (.invokevirtual 24) 3 31 := ⟨by decide +kernel, rfl⟩
theorem D122_31 : rDec M122 31 (.lreturn) 1 32 := ⟨by decide +kernel, rfl⟩
theorem P122_0 : rSnd lab M122 0 B122_0 := by
  refine s_Ent ?_
  refine s_Al gk0 (Or.inr ⟨0, D122_0, rfl⟩) ?_
  refine s_Al gk0 (Or.inr ⟨0, D122_1, rfl⟩) ?_
  refine s_Gf (ci := 14) (r := ("WordWrightModel$3", kT14, 2)) rfl (show 0 < 2 from by decide) rfl (Or.inl wd2120) (Or.inl rfl) rfl D122_2 ?_
  refine s_Ll gk1 (Or.inr ⟨1, D122_5, rfl⟩) ?_
  refine s_ld2 rfl wd1714 D122_6 kc_J_1024 (by decide) ?_
  refine s_BinL q_ldiv nl_div D122_9 ?_
  refine s_L2i D122_10 ?_
  refine s_Il gk3 (Or.inr ⟨3, D122_11, rfl⟩) ?_
  refine s_Cv (ln := 3) (kd := 40) (C := "WordWrightModel$Dfa") (by decide) (by decide +kernel) rfl (l_V rfl ok147 rfl wd1764 wd1739 wd1740 D122_12.1) (?_ : rSnd _ _ 15 _)
  refine s_Al gk0 (Or.inr ⟨0, D122_15, rfl⟩) ?_
  refine s_Gf (ci := 14) (r := ("WordWrightModel$3", kT14, 2)) rfl (show 1 < 2 from by decide) rfl (Or.inl wd2121) (Or.inl rfl) rfl D122_16 ?_
  refine s_Ll gk1 (Or.inr ⟨1, D122_19, rfl⟩) ?_
  refine s_ld2 rfl wd1714 D122_20 kc_J_1024 (by decide) ?_
  refine s_BinL q_lrem nl_rem D122_23 ?_
  refine s_Il gk3 (Or.inr ⟨3, D122_24, rfl⟩) ?_
  refine s_Cs (id := 302) rfl (l_SN (j := 9) rfl ok222 rfl rfl wd1766 D122_25.1) (?_ : rSnd _ _ 28 _)
  refine s_Cv (ln := 3) (kd := 30) (C := "WordWrightModel$3") (by decide) (by decide +kernel) rfl (l_V rfl ok124 rfl wd1709 wd1711 ws58 D122_28.1) (?_ : rSnd _ _ 31 _)
  exact s_Rl rfl D122_31.1
theorem D123_0 : rDec M123 0 (.aload_n 0) 1 1 := ⟨by decide +kernel, rfl⟩
theorem D123_1 : rDec M123 1 (.aload_n 1) 1 2 := ⟨by decide +kernel, rfl⟩
theorem D123_2 : rDec M123 2 (.putfield 1) 3 5 := ⟨by decide +kernel, rfl⟩
theorem D123_5 : rDec M123 5 (.aload_n 0) 1 6 := ⟨by decide +kernel, rfl⟩
theorem D123_6 : rDec M123 6 (.aload_n 2) 1 7 := ⟨by decide +kernel, rfl⟩
theorem D123_7 : rDec M123 7 (.putfield 7) 3 10 := ⟨by decide +kernel, rfl⟩
theorem D123_10 : rDec M123 10 (.aload_n 0) 1 11 := ⟨by decide +kernel, rfl⟩
theorem D123_11 : rDec M123 11 (.invokespecial 10) 3 14 := ⟨by decide +kernel, rfl⟩
theorem D123_14 : rDec M123 14 (.return_) 1 15 := ⟨by decide +kernel, rfl⟩
theorem P123_0 : rSnd lab M123 0 B123_0 := by
  refine s_Ent ?_
  refine s_Al gk0 (Or.inr ⟨0, D123_0, rfl⟩) ?_
  refine s_Al gk1 (Or.inr ⟨1, D123_1, rfl⟩) ?_
  refine s_Pf (ci := 14) (r := ("WordWrightModel$3", kT14, 2)) rfl (show 0 < 2 from by decide) rfl (Or.inr ⟨rfl, wd2120, rfl, rfl⟩) (Or.inl rfl) rfl (by decide) D123_2 ?_
  refine s_Al gk0 (Or.inr ⟨0, D123_5, rfl⟩) ?_
  refine s_Al gk2 (Or.inr ⟨2, D123_6, rfl⟩) ?_
  refine s_Pf (ci := 14) (r := ("WordWrightModel$3", kT14, 2)) rfl (show 1 < 2 from by decide) rfl (Or.inr ⟨rfl, wd2121, rfl, rfl⟩) (Or.inl rfl) rfl (by decide) D123_7 ?_
  refine s_Al gk0 (Or.inr ⟨0, D123_10, rfl⟩) ?_
  refine s_Ci (id := 204) rfl (l_IN (j := 10) rfl ok163 rfl rfl rfl rfl wd1681 D123_11.1) (?_ : rSnd _ _ 14 _)
  exact s_Rv rfl D123_14.1
theorem D124_0 : rDec M124 0 (.iload_n 1) 1 1 := ⟨by decide +kernel, rfl⟩
theorem D124_1 : rDec M124 1 (.i2l) 1 2 := ⟨by decide +kernel, rfl⟩
theorem D124_2 : rDec M124 2 (.ldc2_w 16) 3 5 := ⟨by decide +kernel, rfl⟩
theorem D124_5 : rDec M124 5 (.lmul) 1 6 := ⟨by decide +kernel, rfl⟩
theorem D124_6 : rDec M124 6 (.aload_n 0) 1 7 := ⟨by decide +kernel, rfl⟩
theorem D124_7 : rDec M124 7 (.getfield 1) 3 10 := ⟨by decide +kernel, rfl⟩
theorem D124_10 : rDec M124 10 (.getfield 18) 3 13 := ⟨by decide +kernel, rfl⟩
theorem D124_13 : rDec M124 13 (.iload_n 1) 1 14 := ⟨by decide +kernel, rfl⟩
theorem D124_14 : rDec M124 14 (.baload) 1 15 := ⟨by decide +kernel, rfl⟩
theorem D124_15 : rDec M124 15 (.ifCond .eq 9) 3 18 := ⟨by decide +kernel, rfl⟩
theorem D124_18 : rDec M124 18 (.lload_n 2) 1 19 := ⟨by decide +kernel, rfl⟩
theorem D124_19 : rDec M124 19 (.lconst 1) 1 20 := ⟨by decide +kernel, rfl⟩
theorem D124_20 : rDec M124 20 (.lor) 1 21 := ⟨by decide +kernel, rfl⟩
theorem D124_21 : rDec M124 21 (.goto 4) 3 24 := ⟨by decide +kernel, rfl⟩
theorem D124_24 : rDec M124 24 (.lload_n 2) 1 25 := ⟨by decide +kernel, rfl⟩
theorem D124_25 : rDec M124 25 (.ladd) 1 26 := ⟨by decide +kernel, rfl⟩
theorem D124_26 : rDec M124 26 (.lreturn) 1 27 := ⟨by decide +kernel, rfl⟩
theorem P124_25 : rSnd lab M124 25 B124_25 := by
  refine s_BinL q_ladd nl_add D124_25 ?_
  exact s_Rl rfl D124_26.1
theorem P124_24 : rSnd lab M124 24 B124_24 := by
  refine s_Ll gk2 (Or.inr ⟨2, D124_24, rfl⟩) ?_
  exact P124_25
theorem P124_0 : rSnd lab M124 0 B124_0 := by
  refine s_Ent ?_
  refine s_Il gk1 (Or.inr ⟨1, D124_0, rfl⟩) ?_
  refine s_I2l D124_1 ?_
  refine s_ld2 rfl wd1714 D124_2 kc_J_1024 (by decide) ?_
  refine s_BinL q_lmul nl_mul D124_5 ?_
  refine s_Al gk0 (Or.inr ⟨0, D124_6, rfl⟩) ?_
  refine s_Gf (ci := 14) (r := ("WordWrightModel$3", kT14, 2)) rfl (show 0 < 2 from by decide) rfl (Or.inl wd2120) (Or.inl rfl) rfl D124_7 ?_
  refine s_Gf (ci := 19) (r := ("WordWrightModel$Dfa", kT19, 3)) rfl (show 2 < 3 from by decide) rfl (Or.inl wd1822) (Or.inl rfl) rfl D124_10 ?_
  refine s_Il gk1 (Or.inr ⟨1, D124_13, rfl⟩) ?_
  refine s_Ald (t := 1) (ty := .boolean) rfl q_zald rfl D124_14 ?_
  refine s_If c_eq (fun _ => rfl) (fun _ _ => rfl) (b_eq (tg := 24) (by decide)) D124_15.1 P124_24 (?_ : rSnd _ _ 18 _)
  refine s_Ll gk2 (Or.inr ⟨2, D124_18, rfl⟩) ?_
  refine s_lc D124_19 kc_L_1 (by decide) ?_
  refine s_BinL q_lor nl_or D124_20 ?_
  exact s_Go (pc' := 25) D124_21.1 (by decide) P124_25
theorem D125_0 : rDec M125 0 (.lload_n 1) 1 1 := ⟨by decide +kernel, rfl⟩
theorem D125_1 : rDec M125 1 (.ldc2_w 15) 3 4 := ⟨by decide +kernel, rfl⟩
theorem D125_4 : rDec M125 4 (.lcmp) 1 5 := ⟨by decide +kernel, rfl⟩
theorem D125_5 : rDec M125 5 (.ifCond .ge 14) 3 8 := ⟨by decide +kernel, rfl⟩
theorem D125_8 : rDec M125 8 (.aload_n 0) 1 9 := ⟨by decide +kernel, rfl⟩
theorem D125_9 : rDec M125 9 (.getfield 1) 3 12 := ⟨by decide +kernel, rfl⟩
theorem D125_12 : rDec M125 12 (.lload_n 1) 1 13 := ⟨by decide +kernel, rfl⟩
theorem D125_13 : rDec M125 13 (.invokestatic 23) 3 16 := ⟨by decide +kernel, rfl⟩
theorem D125_16 : rDec M125 16 (.ifCond .eq 7) 3 19 := ⟨by decide +kernel, rfl⟩
theorem D125_19 : rDec M125 19 (.iconst 1) 1 20 := ⟨by decide +kernel, rfl⟩
theorem D125_20 : rDec M125 20 (.goto 4) 3 23 := ⟨by decide +kernel, rfl⟩
theorem D125_23 : rDec M125 23 (.iconst 0) 1 24 := ⟨by decide +kernel, rfl⟩
theorem D125_24 : rDec M125 24 (.ireturn) 1 25 := ⟨by decide +kernel, rfl⟩
theorem P125_24 : rSnd lab M125 24 B125_24 := by
  exact s_Ri (Or.inr ⟨rfl, by decide⟩) D125_24.1
theorem P125_23 : rSnd lab M125 23 B125_23 := by
  refine s_ic D125_23 kc_i_0 (by decide) ?_
  exact P125_24
theorem P125_19 : rSnd lab M125 19 B125_19 := by
  refine s_ic D125_19 kc_i_1 (by decide) ?_
  exact s_Go (pc' := 24) D125_20.1 (by decide) P125_24
theorem P125_0 : rSnd lab M125 0 B125_0 := by
  refine s_Ent ?_
  refine s_Ll gk1 (Or.inr ⟨1, D125_0, rfl⟩) ?_
  refine s_ld2 rfl wd1772 D125_1 kc_J_1024 (by decide) ?_
  refine s_Lcmp D125_4 ?_
  refine s_If c_ge (fun _ => rfl) (fun _ _ => rfl) (b_ge (tg := 19) (by decide)) D125_5.1 P125_19 (?_ : rSnd _ _ 8 _)
  refine s_Al gk0 (Or.inr ⟨0, D125_8, rfl⟩) ?_
  refine s_Gf (ci := 15) (r := ("WordWrightModel$4", kT15, 1)) rfl (show 0 < 1 from by decide) rfl (Or.inl wd2161) (Or.inl rfl) rfl D125_9 ?_
  refine s_Ll gk1 (Or.inr ⟨1, D125_12, rfl⟩) ?_
  refine s_Cs (id := 283) rfl (l_SN (j := 11) rfl ok204 rfl rfl wd1775 D125_13.1) (?_ : rSnd _ _ 16 _)
  refine s_If c_eq (fun _ => rfl) (fun _ _ => rfl) (b_eq (tg := 23) (by decide)) D125_16.1 P125_23 (?_ : rSnd _ _ 19 _)
  exact P125_19
theorem D126_0 : rDec M126 0 (.ldc2_w 13) 3 3 := ⟨by decide +kernel, rfl⟩
theorem D126_3 : rDec M126 3 (.lreturn) 1 4 := ⟨by decide +kernel, rfl⟩
theorem P126_0 : rSnd lab M126 0 B126_0 := by
  refine s_Ent ?_
  refine s_ld2 rfl wd1718 D126_0 kc_J_1025 (by decide) ?_
  exact s_Rl rfl D126_3.1
theorem D127_0 : rDec M127 0 (.aload_n 0) 1 1 := ⟨by decide +kernel, rfl⟩
theorem D127_1 : rDec M127 1 (.getfield 1) 3 4 := ⟨by decide +kernel, rfl⟩
theorem D127_4 : rDec M127 4 (.lload_n 1) 1 5 := ⟨by decide +kernel, rfl⟩
theorem D127_5 : rDec M127 5 (.ldc2_w 15) 3 8 := ⟨by decide +kernel, rfl⟩
theorem D127_8 : rDec M127 8 (.lrem) 1 9 := ⟨by decide +kernel, rfl⟩
theorem D127_9 : rDec M127 9 (.iload_n 3) 1 10 := ⟨by decide +kernel, rfl⟩
theorem D127_10 : rDec M127 10 (.invokestatic 17) 3 13 := ⟨by decide +kernel, rfl⟩
theorem D127_13 : rDec M127 13 (.lstore 4) 2 15 := ⟨by decide +kernel, rfl⟩
theorem D127_15 : rDec M127 15 (.aload_n 0) 1 16 := ⟨by decide +kernel, rfl⟩
theorem D127_16 : rDec M127 16 (.getfield 1) 3 19 := ⟨by decide +kernel, rfl⟩
theorem D127_19 : rDec M127 19 (.lload 4) 2 21 := ⟨by decide +kernel, rfl⟩
theorem D127_21 : rDec M127 21 (.invokestatic 23) 3 24 := ⟨by decide +kernel, rfl⟩
theorem D127_24 : rDec M127 24 (.ifCond .eq 10) 3 27 := ⟨by decide +kernel, rfl⟩
theorem D127_27 : rDec M127 27 (.lload 4) 2 29 := ⟨by decide +kernel, rfl⟩
theorem D127_29 : rDec M127 29 (.lconst 1) 1 30 := ⟨by decide +kernel, rfl⟩
theorem D127_30 : rDec M127 30 (.lor) 1 31 := ⟨by decide +kernel, rfl⟩
theorem D127_31 : rDec M127 31 (.goto 5) 3 34 := ⟨by decide +kernel, rfl⟩
theorem D127_34 : rDec M127 34 (.lload 4) 2 36 := ⟨by decide +kernel, rfl⟩
theorem D127_36 : rDec M127 36 (.lreturn) 1 37 := ⟨by decide +kernel, rfl⟩
theorem P127_36 : rSnd lab M127 36 B127_36 := by
  exact s_Rl rfl D127_36.1
theorem P127_34 : rSnd lab M127 34 B127_34 := by
  refine s_Ll gk4 (Or.inl D127_34) ?_
  exact P127_36
theorem P127_0 : rSnd lab M127 0 B127_0 := by
  refine s_Ent ?_
  refine s_Al gk0 (Or.inr ⟨0, D127_0, rfl⟩) ?_
  refine s_Gf (ci := 15) (r := ("WordWrightModel$4", kT15, 1)) rfl (show 0 < 1 from by decide) rfl (Or.inl wd2161) (Or.inl rfl) rfl D127_1 ?_
  refine s_Ll gk1 (Or.inr ⟨1, D127_4, rfl⟩) ?_
  refine s_ld2 rfl wd1772 D127_5 kc_J_1024 (by decide) ?_
  refine s_BinL q_lrem nl_rem D127_8 ?_
  refine s_Il gk3 (Or.inr ⟨3, D127_9, rfl⟩) ?_
  refine s_Cs (id := 302) rfl (l_SN (j := 12) rfl ok222 rfl rfl wd1766 D127_10.1) (?_ : rSnd _ _ 13 _)
  refine s_Ls dk4 (show 5 < 6 from by decide) (Or.inl D127_13) ?_
  refine s_Al gk0 (Or.inr ⟨0, D127_15, rfl⟩) ?_
  refine s_Gf (ci := 15) (r := ("WordWrightModel$4", kT15, 1)) rfl (show 0 < 1 from by decide) rfl (Or.inl wd2161) (Or.inl rfl) rfl D127_16 ?_
  refine s_Ll gk4 (Or.inl D127_19) ?_
  refine s_Cs (id := 283) rfl (l_SN (j := 11) rfl ok204 rfl rfl wd1775 D127_21.1) (?_ : rSnd _ _ 24 _)
  refine s_If c_eq (fun _ => rfl) (fun _ _ => rfl) (b_eq (tg := 34) (by decide)) D127_24.1 P127_34 (?_ : rSnd _ _ 27 _)
  refine s_Ll gk4 (Or.inl D127_27) ?_
  refine s_lc D127_29 kc_L_1 (by decide) ?_
  refine s_BinL q_lor nl_or D127_30 ?_
  exact s_Go (pc' := 36) D127_31.1 (by decide) P127_36
theorem D128_0 : rDec M128 0 (.aload_n 0) 1 1 := ⟨by decide +kernel, rfl⟩
theorem D128_1 : rDec M128 1 (.aload_n 1) 1 2 := ⟨by decide +kernel, rfl⟩
theorem D128_2 : rDec M128 2 (.putfield 1) 3 5 := ⟨by decide +kernel, rfl⟩
theorem D128_5 : rDec M128 5 (.aload_n 0) 1 6 := ⟨by decide +kernel, rfl⟩
theorem D128_6 : rDec M128 6 (.invokespecial 7) 3 9 := ⟨by decide +kernel, rfl⟩
theorem D128_9 : rDec M128 9 (.return_) 1 10 := ⟨by decide +kernel, rfl⟩
theorem P128_0 : rSnd lab M128 0 B128_0 := by
  refine s_Ent ?_
  refine s_Al gk0 (Or.inr ⟨0, D128_0, rfl⟩) ?_
  refine s_Al gk1 (Or.inr ⟨1, D128_1, rfl⟩) ?_
  refine s_Pf (ci := 15) (r := ("WordWrightModel$4", kT15, 1)) rfl (show 0 < 1 from by decide) rfl (Or.inr ⟨rfl, wd2161, rfl, rfl⟩) (Or.inl rfl) rfl (by decide) D128_2 ?_
  refine s_Al gk0 (Or.inr ⟨0, D128_5, rfl⟩) ?_
  refine s_Ci (id := 204) rfl (l_IN (j := 13) rfl ok163 rfl rfl rfl rfl wd1681 D128_6.1) (?_ : rSnd _ _ 9 _)
  exact s_Rv rfl D128_9.1
theorem D129_0 : rDec M129 0 (.lload_n 1) 1 1 := ⟨by decide +kernel, rfl⟩
theorem D129_1 : rDec M129 1 (.lconst 1) 1 2 := ⟨by decide +kernel, rfl⟩
theorem D129_2 : rDec M129 2 (.land) 1 3 := ⟨by decide +kernel, rfl⟩
theorem D129_3 : rDec M129 3 (.lconst 1) 1 4 := ⟨by decide +kernel, rfl⟩
theorem D129_4 : rDec M129 4 (.lcmp) 1 5 := ⟨by decide +kernel, rfl⟩
theorem D129_5 : rDec M129 5 (.ifCond .ne 7) 3 8 := ⟨by decide +kernel, rfl⟩
theorem D129_8 : rDec M129 8 (.iconst 1) 1 9 := ⟨by decide +kernel, rfl⟩
theorem D129_9 : rDec M129 9 (.goto 4) 3 12 := ⟨by decide +kernel, rfl⟩
theorem D129_12 : rDec M129 12 (.iconst 0) 1 13 := ⟨by decide +kernel, rfl⟩
theorem D129_13 : rDec M129 13 (.ireturn) 1 14 := ⟨by decide +kernel, rfl⟩
theorem P129_13 : rSnd lab M129 13 B129_13 := by
  exact s_Ri (Or.inr ⟨rfl, by decide⟩) D129_13.1
theorem P129_12 : rSnd lab M129 12 B129_12 := by
  refine s_ic D129_12 kc_i_0 (by decide) ?_
  exact P129_13
theorem P129_0 : rSnd lab M129 0 B129_0 := by
  refine s_Ent ?_
  refine s_Ll gk1 (Or.inr ⟨1, D129_0, rfl⟩) ?_
  refine s_lc D129_1 kc_L_1 (by decide) ?_
  refine s_BinL q_land nl_and D129_2 ?_
  refine s_lc D129_3 kc_L_1 (by decide) ?_
  refine s_Lcmp D129_4 ?_
  refine s_If c_ne (fun _ => rfl) (fun _ _ => rfl) (b_ne (tg := 12) (by decide)) D129_5.1 P129_12 (?_ : rSnd _ _ 8 _)
  refine s_ic D129_8 kc_i_1 (by decide) ?_
  exact s_Go (pc' := 13) D129_9.1 (by decide) P129_13
theorem D130_0 : rDec M130 0 (.lconst 0) 1 1 := ⟨by decide +kernel, rfl⟩
theorem D130_1 : rDec M130 1 (.lstore_n 1) 1 2 := ⟨by decide +kernel, rfl⟩
theorem D130_2 : rDec M130 2 (.iconst 0) 1 3 := ⟨by decide +kernel, rfl⟩
theorem D130_3 : rDec M130 3 (.istore_n 3) 1 4 := ⟨by decide +kernel, rfl⟩
theorem D130_4 : rDec M130 4 (.iload_n 3) 1 5 := ⟨by decide +kernel, rfl⟩
theorem D130_5 : rDec M130 5 (.aload_n 0) 1 6 := ⟨by decide +kernel, rfl⟩
theorem D130_6 : rDec M130 6 (.getfield 1) 3 9 := ⟨by decide +kernel, rfl⟩
theorem D130_9 : rDec M130 9 (.getfield 13) 3 12 := ⟨by decide +kernel, rfl⟩
theorem D130_12 : rDec M130 12 (.if_icmp .ge 31) 3 15 := ⟨by decide +kernel, rfl⟩
theorem D130_15 : rDec M130 15 (.lload_n 1) 1 16 := ⟨by decide +kernel, rfl⟩
theorem D130_16 : rDec M130 16 (.aload_n 0) 1 17 := ⟨by decide +kernel, rfl⟩
theorem D130_17 : rDec M130 17 (.getfield 1) 3 20 := ⟨by decide +kernel, rfl⟩
theorem D130_20 : rDec M130 20 (.getfield 19) 3 23 := ⟨by decide +kernel, rfl⟩
theorem D130_23 : rDec M130 23 (.iload_n 3) 1 24 := ⟨by decide +kernel, rfl⟩
theorem D130_24 : rDec M130 24 (.baload) 1 25 := ⟨by decide +kernel, rfl⟩
theorem D130_25 : rDec M130 25 (.ifCond .eq 9) 3 28 := ⟨by decide +kernel, rfl⟩
theorem D130_28 : rDec M130 28 (.lconst 1) 1 29 := ⟨by decide +kernel, rfl⟩
theorem D130_29 : rDec M130 29 (.iload_n 3) 1 30 := ⟨by decide +kernel, rfl⟩
theorem D130_30 : rDec M130 30 (.lshl) 1 31 := ⟨by decide +kernel, rfl⟩
theorem D130_31 : rDec M130 31 (.goto 4) 3 34 := ⟨by decide +kernel, rfl⟩
theorem D130_34 : rDec M130 34 (.lconst 0) 1 35 := ⟨by decide +kernel, rfl⟩
theorem D130_35 : rDec M130 35 (.lor) 1 36 := ⟨by decide +kernel, rfl⟩
theorem D130_36 : rDec M130 36 (.lstore_n 1) 1 37 := ⟨by decide +kernel, rfl⟩
theorem D130_37 : rDec M130 37 (.iinc 3 1) 3 40 := ⟨by decide +kernel, rfl⟩
theorem D130_40 : rDec M130 40 (.goto (-36)) 3 43 := ⟨by decide +kernel, rfl⟩
theorem D130_43 : rDec M130 43 (.lload_n 1) 1 44 := ⟨by decide +kernel, rfl⟩
theorem D130_44 : rDec M130 44 (.lreturn) 1 45 := ⟨by decide +kernel, rfl⟩
theorem P130_43 : rSnd lab M130 43 B130_43 := by
  refine s_Ll gk1 (Or.inr ⟨1, D130_43, rfl⟩) ?_
  exact s_Rl rfl D130_44.1
theorem P130_35 : rSnd lab M130 35 B130_35 := by
  refine s_BinL q_lor nl_or D130_35 ?_
  refine s_Ls dk1 (show 2 < 4 from by decide) (Or.inr ⟨1, D130_36, rfl⟩) ?_
  refine s_Inc gk3 sk3 (show 3 < 4 from by decide) kc_i_1 D130_37 ?_
  exact s_Go (pc' := 4) D130_40.1 (by decide) (s_Jb rfl)
theorem P130_34 : rSnd lab M130 34 B130_34 := by
  refine s_lc D130_34 kc_L_0 (by decide) ?_
  exact P130_35
theorem P130_4 : rSnd lab M130 4 B130_4 := by
  refine s_Il gk3 (Or.inr ⟨3, D130_4, rfl⟩) ?_
  refine s_Al gk0 (Or.inr ⟨0, D130_5, rfl⟩) ?_
  refine s_Gf (ci := 16) (r := ("WordWrightModel$5", kT16, 1)) rfl (show 0 < 1 from by decide) rfl (Or.inl wd2177) (Or.inl rfl) rfl D130_6 ?_
  refine s_Gf (ci := 19) (r := ("WordWrightModel$Dfa", kT19, 3)) rfl (show 0 < 3 from by decide) rfl (Or.inl wd1815) (Or.inl rfl) rfl D130_9 ?_
  refine s_Ic c_ge (i_ge (tg := 43) (by decide)) D130_12.1 P130_43 (?_ : rSnd _ _ 15 _)
  refine s_Ll gk1 (Or.inr ⟨1, D130_15, rfl⟩) ?_
  refine s_Al gk0 (Or.inr ⟨0, D130_16, rfl⟩) ?_
  refine s_Gf (ci := 16) (r := ("WordWrightModel$5", kT16, 1)) rfl (show 0 < 1 from by decide) rfl (Or.inl wd2177) (Or.inl rfl) rfl D130_17 ?_
  refine s_Gf (ci := 19) (r := ("WordWrightModel$Dfa", kT19, 3)) rfl (show 2 < 3 from by decide) rfl (Or.inl wd1823) (Or.inl rfl) rfl D130_20 ?_
  refine s_Il gk3 (Or.inr ⟨3, D130_23, rfl⟩) ?_
  refine s_Ald (t := 1) (ty := .boolean) rfl q_zald rfl D130_24 ?_
  refine s_If c_eq (fun _ => rfl) (fun _ _ => rfl) (b_eq (tg := 34) (by decide)) D130_25.1 P130_34 (?_ : rSnd _ _ 28 _)
  refine s_lc D130_28 kc_L_1 (by decide) ?_
  refine s_Il gk3 (Or.inr ⟨3, D130_29, rfl⟩) ?_
  refine s_ShL q_lshl nl_shl D130_30 ?_
  exact s_Go (pc' := 35) D130_31.1 (by decide) P130_35
theorem P130_0 : rSnd lab M130 0 B130_0 := by
  refine s_Ent ?_
  refine s_lc D130_0 kc_L_0 (by decide) ?_
  refine s_Ls dk1 (show 2 < 4 from by decide) (Or.inr ⟨1, D130_1, rfl⟩) ?_
  refine s_ic D130_2 kc_i_0 (by decide) ?_
  refine s_Is sk3 (show 3 < 4 from by decide) (Or.inr ⟨3, D130_3, rfl⟩) ?_
  exact P130_4
theorem D131_0 : rDec M131 0 (.lconst 0) 1 1 := ⟨by decide +kernel, rfl⟩
theorem D131_1 : rDec M131 1 (.lstore 4) 2 3 := ⟨by decide +kernel, rfl⟩
theorem D131_3 : rDec M131 3 (.iconst 0) 1 4 := ⟨by decide +kernel, rfl⟩
theorem D131_4 : rDec M131 4 (.istore 6) 2 6 := ⟨by decide +kernel, rfl⟩
theorem D131_6 : rDec M131 6 (.iload 6) 2 8 := ⟨by decide +kernel, rfl⟩
theorem D131_8 : rDec M131 8 (.aload_n 0) 1 9 := ⟨by decide +kernel, rfl⟩
theorem D131_9 : rDec M131 9 (.getfield 1) 3 12 := ⟨by decide +kernel, rfl⟩
theorem D131_12 : rDec M131 12 (.getfield 13) 3 15 := ⟨by decide +kernel, rfl⟩
theorem D131_15 : rDec M131 15 (.if_icmp .ge 41) 3 18 := ⟨by decide +kernel, rfl⟩
theorem D131_18 : rDec M131 18 (.lload 4) 2 20 := ⟨by decide +kernel, rfl⟩
theorem D131_20 : rDec M131 20 (.lload_n 1) 1 21 := ⟨by decide +kernel, rfl⟩
theorem D131_21 : rDec M131 21 (.aload_n 0) 1 22 := ⟨by decide +kernel, rfl⟩
theorem D131_22 : rDec M131 22 (.getfield 1) 3 25 := ⟨by decide +kernel, rfl⟩
theorem D131_25 : rDec M131 25 (.iload 6) 2 27 := ⟨by decide +kernel, rfl⟩
theorem D131_27 : rDec M131 27 (.iload_n 3) 1 28 := ⟨by decide +kernel, rfl⟩
theorem D131_28 : rDec M131 28 (.invokevirtual 23) 3 31 := ⟨by decide +kernel, rfl⟩
theorem D131_31 : rDec M131 31 (.lshr) 1 32 := ⟨by decide +kernel, rfl⟩
theorem D131_32 : rDec M131 32 (.lconst 1) 1 33 := ⟨by decide +kernel, rfl⟩
theorem D131_33 : rDec M131 33 (.land) 1 34 := ⟨by decide +kernel, rfl⟩
theorem D131_34 : rDec M131 34 (.lconst 1) 1 35 := ⟨by decide +kernel, rfl⟩
theorem D131_35 : rDec M131 35 (.lcmp) 1 36 := ⟨by decide +kernel, rfl⟩
theorem D131_36 : rDec M131 36 (.ifCond .ne 10) 3 39 := ⟨by decide +kernel, rfl⟩
theorem D131_39 : rDec M131 39 (.lconst 1) 1 40 := ⟨by decide +kernel, rfl⟩
theorem D131_40 : rDec M131 40 (.iload 6) 2 42 := ⟨by decide +kernel, rfl⟩
theorem D131_42 : rDec M131 42 (.lshl) 1 43 := ⟨by decide +kernel, rfl⟩
theorem D131_43 : rDec M131 43 (.goto 4) 3 46 := ⟨by decide +kernel, rfl⟩
theorem D131_46 : rDec M131 46 (.lconst 0) 1 47 := ⟨by decide +kernel, rfl⟩
theorem D131_47 : rDec M131 47 (.lor) 1 48 := ⟨by decide +kernel, rfl⟩
theorem D131_48 : rDec M131 48 (.lstore 4) 2 50 := ⟨by decide +kernel, rfl⟩
theorem D131_50 : rDec M131 50 (.iinc 6 1) 3 53 := ⟨by decide +kernel, rfl⟩
theorem D131_53 : rDec M131 53 (.goto (-47)) 3 56 := ⟨by decide +kernel, rfl⟩
theorem D131_56 : rDec M131 56 (.lload 4) 2 58 := ⟨by decide +kernel, rfl⟩
theorem D131_58 : rDec M131 58 (.lreturn) 1 59 := ⟨by decide +kernel, rfl⟩
theorem P131_56 : rSnd lab M131 56 B131_56 := by
  refine s_Ll gk4 (Or.inl D131_56) ?_
  exact s_Rl rfl D131_58.1
theorem P131_47 : rSnd lab M131 47 B131_47 := by
  refine s_BinL q_lor nl_or D131_47 ?_
  refine s_Ls dk4 (show 5 < 7 from by decide) (Or.inl D131_48) ?_
  refine s_Inc gk6 sk6 (show 6 < 7 from by decide) kc_i_1 D131_50 ?_
  exact s_Go (pc' := 6) D131_53.1 (by decide) (s_Jb rfl)
theorem P131_46 : rSnd lab M131 46 B131_46 := by
  refine s_lc D131_46 kc_L_0 (by decide) ?_
  exact P131_47
theorem P131_6 : rSnd lab M131 6 B131_6 := by
  refine s_Il gk6 (Or.inl D131_6) ?_
  refine s_Al gk0 (Or.inr ⟨0, D131_8, rfl⟩) ?_
  refine s_Gf (ci := 16) (r := ("WordWrightModel$5", kT16, 1)) rfl (show 0 < 1 from by decide) rfl (Or.inl wd2177) (Or.inl rfl) rfl D131_9 ?_
  refine s_Gf (ci := 19) (r := ("WordWrightModel$Dfa", kT19, 3)) rfl (show 0 < 3 from by decide) rfl (Or.inl wd1815) (Or.inl rfl) rfl D131_12 ?_
  refine s_Ic c_ge (i_ge (tg := 56) (by decide)) D131_15.1 P131_56 (?_ : rSnd _ _ 18 _)
  refine s_Ll gk4 (Or.inl D131_18) ?_
  refine s_Ll gk1 (Or.inr ⟨1, D131_20, rfl⟩) ?_
  refine s_Al gk0 (Or.inr ⟨0, D131_21, rfl⟩) ?_
  refine s_Gf (ci := 16) (r := ("WordWrightModel$5", kT16, 1)) rfl (show 0 < 1 from by decide) rfl (Or.inl wd2177) (Or.inl rfl) rfl D131_22 ?_
  refine s_Il gk6 (Or.inl D131_25) ?_
  refine s_Il gk3 (Or.inr ⟨3, D131_27, rfl⟩) ?_
  refine s_Cv (ln := 3) (kd := 40) (C := "WordWrightModel$Dfa") (by decide) (by decide +kernel) rfl (l_V rfl ok147 rfl wd1780 wd1739 wd1740 D131_28.1) (?_ : rSnd _ _ 31 _)
  refine s_ShL q_lshr nl_shr D131_31 ?_
  refine s_lc D131_32 kc_L_1 (by decide) ?_
  refine s_BinL q_land nl_and D131_33 ?_
  refine s_lc D131_34 kc_L_1 (by decide) ?_
  refine s_Lcmp D131_35 ?_
  refine s_If c_ne (fun _ => rfl) (fun _ _ => rfl) (b_ne (tg := 46) (by decide)) D131_36.1 P131_46 (?_ : rSnd _ _ 39 _)
  refine s_lc D131_39 kc_L_1 (by decide) ?_
  refine s_Il gk6 (Or.inl D131_40) ?_
  refine s_ShL q_lshl nl_shl D131_42 ?_
  exact s_Go (pc' := 47) D131_43.1 (by decide) P131_47
theorem P131_0 : rSnd lab M131 0 B131_0 := by
  refine s_Ent ?_
  refine s_lc D131_0 kc_L_0 (by decide) ?_
  refine s_Ls dk4 (show 5 < 7 from by decide) (Or.inl D131_1) ?_
  refine s_ic D131_3 kc_i_0 (by decide) ?_
  refine s_Is sk6 (show 6 < 7 from by decide) (Or.inl D131_4) ?_
  exact P131_6
theorem D132_0 : rDec M132 0 (.aload_n 0) 1 1 := ⟨by decide +kernel, rfl⟩
theorem D132_1 : rDec M132 1 (.aload_n 1) 1 2 := ⟨by decide +kernel, rfl⟩
theorem D132_2 : rDec M132 2 (.putfield 1) 3 5 := ⟨by decide +kernel, rfl⟩
theorem D132_5 : rDec M132 5 (.aload_n 0) 1 6 := ⟨by decide +kernel, rfl⟩
theorem D132_6 : rDec M132 6 (.invokespecial 7) 3 9 := ⟨by decide +kernel, rfl⟩
theorem D132_9 : rDec M132 9 (.return_) 1 10 := ⟨by decide +kernel, rfl⟩
theorem P132_0 : rSnd lab M132 0 B132_0 := by
  refine s_Ent ?_
  refine s_Al gk0 (Or.inr ⟨0, D132_0, rfl⟩) ?_
  refine s_Al gk1 (Or.inr ⟨1, D132_1, rfl⟩) ?_
  refine s_Pf (ci := 16) (r := ("WordWrightModel$5", kT16, 1)) rfl (show 0 < 1 from by decide) rfl (Or.inr ⟨rfl, wd2177, rfl, rfl⟩) (Or.inl rfl) rfl (by decide) D132_2 ?_
  refine s_Al gk0 (Or.inr ⟨0, D132_5, rfl⟩) ?_
  refine s_Ci (id := 204) rfl (l_IN (j := 14) rfl ok163 rfl rfl rfl rfl wd1681 D132_6.1) (?_ : rSnd _ _ 9 _)
  exact s_Rv rfl D132_9.1
theorem D133_0 : rDec M133 0 (.aload_n 0) 1 1 := ⟨by decide +kernel, rfl⟩
theorem D133_1 : rDec M133 1 (.getfield 7) 3 4 := ⟨by decide +kernel, rfl⟩
theorem D133_4 : rDec M133 4 (.lload_n 1) 1 5 := ⟨by decide +kernel, rfl⟩
theorem D133_5 : rDec M133 5 (.l2i) 1 6 := ⟨by decide +kernel, rfl⟩
theorem D133_6 : rDec M133 6 (.baload) 1 7 := ⟨by decide +kernel, rfl⟩
theorem D133_7 : rDec M133 7 (.ireturn) 1 8 := ⟨by decide +kernel, rfl⟩
theorem P133_0 : rSnd lab M133 0 B133_0 := by
  refine s_Ent ?_
  refine s_Al gk0 (Or.inr ⟨0, D133_0, rfl⟩) ?_
  refine s_Gf (ci := 17) (r := ("WordWrightModel$6", kT17, 2)) rfl (show 1 < 2 from by decide) rfl (Or.inl wd2199) (Or.inl rfl) rfl D133_1 ?_
  refine s_Ll gk1 (Or.inr ⟨1, D133_4, rfl⟩) ?_
  refine s_L2i D133_5 ?_
  refine s_Ald (t := 1) (ty := .boolean) rfl q_zald rfl D133_6 ?_
  exact s_Ri (Or.inr ⟨rfl, by decide⟩) D133_7.1
theorem D134_0 : rDec M134 0 (.lconst 0) 1 1 := ⟨by decide +kernel, rfl⟩
theorem D134_1 : rDec M134 1 (.lreturn) 1 2 := ⟨by decide +kernel, rfl⟩
theorem P134_0 : rSnd lab M134 0 B134_0 := by
  refine s_Ent ?_
  refine s_lc D134_0 kc_L_0 (by decide) ?_
  exact s_Rl rfl D134_1.1
theorem D135_0 : rDec M135 0 (.aload_n 0) 1 1 := ⟨by decide +kernel, rfl⟩
theorem D135_1 : rDec M135 1 (.getfield 1) 3 4 := ⟨by decide +kernel, rfl⟩
theorem D135_4 : rDec M135 4 (.lload_n 1) 1 5 := ⟨by decide +kernel, rfl⟩
theorem D135_5 : rDec M135 5 (.l2i) 1 6 := ⟨by decide +kernel, rfl⟩
theorem D135_6 : rDec M135 6 (.iload_n 3) 1 7 := ⟨by decide +kernel, rfl⟩
theorem D135_7 : rDec M135 7 (.invokevirtual 17) 3 10 := ⟨by decide +kernel, rfl⟩
theorem D135_10 : rDec M135 10 (.i2l) 1 11 := ⟨by decide +kernel, rfl⟩
theorem D135_11 : rDec M135 11 (.lreturn) 1 12 := ⟨by decide +kernel, rfl⟩
theorem P135_0 : rSnd lab M135 0 B135_0 := by
  refine s_Ent ?_
  refine s_Al gk0 (Or.inr ⟨0, D135_0, rfl⟩) ?_
  refine s_Gf (ci := 17) (r := ("WordWrightModel$6", kT17, 2)) rfl (show 0 < 2 from by decide) rfl (Or.inl wd2198) (Or.inl rfl) rfl D135_1 ?_
  refine s_Ll gk1 (Or.inr ⟨1, D135_4, rfl⟩) ?_
  refine s_L2i D135_5 ?_
  refine s_Il gk3 (Or.inr ⟨3, D135_6, rfl⟩) ?_
  refine s_Cv (ln := 3) (kd := 40) (C := "WordWrightModel$Dfa") (by decide) (by decide +kernel) rfl (l_V rfl ok147 rfl wd1784 wd1739 wd1740 D135_7.1) (?_ : rSnd _ _ 10 _)
  refine s_I2l D135_10 ?_
  exact s_Rl rfl D135_11.1
theorem D136_0 : rDec M136 0 (.aload_n 0) 1 1 := ⟨by decide +kernel, rfl⟩
theorem D136_1 : rDec M136 1 (.aload_n 1) 1 2 := ⟨by decide +kernel, rfl⟩
theorem D136_2 : rDec M136 2 (.putfield 1) 3 5 := ⟨by decide +kernel, rfl⟩
theorem D136_5 : rDec M136 5 (.aload_n 0) 1 6 := ⟨by decide +kernel, rfl⟩
theorem D136_6 : rDec M136 6 (.aload_n 2) 1 7 := ⟨by decide +kernel, rfl⟩
theorem D136_7 : rDec M136 7 (.putfield 7) 3 10 := ⟨by decide +kernel, rfl⟩
theorem D136_10 : rDec M136 10 (.aload_n 0) 1 11 := ⟨by decide +kernel, rfl⟩
theorem D136_11 : rDec M136 11 (.invokespecial 11) 3 14 := ⟨by decide +kernel, rfl⟩
theorem D136_14 : rDec M136 14 (.return_) 1 15 := ⟨by decide +kernel, rfl⟩
theorem P136_0 : rSnd lab M136 0 B136_0 := by
  refine s_Ent ?_
  refine s_Al gk0 (Or.inr ⟨0, D136_0, rfl⟩) ?_
  refine s_Al gk1 (Or.inr ⟨1, D136_1, rfl⟩) ?_
  refine s_Pf (ci := 17) (r := ("WordWrightModel$6", kT17, 2)) rfl (show 0 < 2 from by decide) rfl (Or.inr ⟨rfl, wd2198, rfl, rfl⟩) (Or.inl rfl) rfl (by decide) D136_2 ?_
  refine s_Al gk0 (Or.inr ⟨0, D136_5, rfl⟩) ?_
  refine s_Al gk2 (Or.inr ⟨2, D136_6, rfl⟩) ?_
  refine s_Pf (ci := 17) (r := ("WordWrightModel$6", kT17, 2)) rfl (show 1 < 2 from by decide) rfl (Or.inr ⟨rfl, wd2199, rfl, rfl⟩) (Or.inl rfl) rfl (by decide) D136_7 ?_
  refine s_Al gk0 (Or.inr ⟨0, D136_10, rfl⟩) ?_
  refine s_Ci (id := 204) rfl (l_IN (j := 15) rfl ok163 rfl rfl rfl rfl wd1681 D136_11.1) (?_ : rSnd _ _ 14 _)
  exact s_Rv rfl D136_14.1
theorem D137_0 : rDec M137 0 (.aload_n 0) 1 1 := ⟨by decide +kernel, rfl⟩
theorem D137_1 : rDec M137 1 (.getfield 21) 3 4 := ⟨by decide +kernel, rfl⟩
theorem D137_4 : rDec M137 4 (.iconst 2) 1 5 := ⟨by decide +kernel, rfl⟩
theorem D137_5 : rDec M137 5 (.aload_n 0) 1 6 := ⟨by decide +kernel, rfl⟩
theorem D137_6 : rDec M137 6 (.getfield 37) 3 9 := ⟨by decide +kernel, rfl⟩
theorem D137_9 : rDec M137 9 (.imul) 1 10 := ⟨by decide +kernel, rfl⟩
theorem D137_10 : rDec M137 10 (.iconst 0) 1 11 := ⟨by decide +kernel, rfl⟩
theorem D137_11 : rDec M137 11 (.iastore) 1 12 := ⟨by decide +kernel, rfl⟩
theorem D137_12 : rDec M137 12 (.aload_n 0) 1 13 := ⟨by decide +kernel, rfl⟩
theorem D137_13 : rDec M137 13 (.getfield 21) 3 16 := ⟨by decide +kernel, rfl⟩
theorem D137_16 : rDec M137 16 (.iconst 2) 1 17 := ⟨by decide +kernel, rfl⟩
theorem D137_17 : rDec M137 17 (.aload_n 0) 1 18 := ⟨by decide +kernel, rfl⟩
theorem D137_18 : rDec M137 18 (.getfield 37) 3 21 := ⟨by decide +kernel, rfl⟩
theorem D137_21 : rDec M137 21 (.imul) 1 22 := ⟨by decide +kernel, rfl⟩
theorem D137_22 : rDec M137 22 (.iconst 1) 1 23 := ⟨by decide +kernel, rfl⟩
theorem D137_23 : rDec M137 23 (.iadd) 1 24 := ⟨by decide +kernel, rfl⟩
theorem D137_24 : rDec M137 24 (.iconst 0) 1 25 := ⟨by decide +kernel, rfl⟩
theorem D137_25 : rDec M137 25 (.iastore) 1 26 := ⟨by decide +kernel, rfl⟩
theorem D137_26 : rDec M137 26 (.aload_n 0) 1 27 := ⟨by decide +kernel, rfl⟩
theorem D137_27 : rDec M137 27 (.dup) 1 28 := ⟨by decide +kernel, rfl⟩
theorem D137_28 : rDec M137 28 (.getfield 37) 3 31 := ⟨by decide +kernel, rfl⟩
theorem D137_31 : rDec M137 31 (.iconst 1) 1 32 := ⟨by decide +kernel, rfl⟩
theorem D137_32 : rDec M137 32 (.iadd) 1 33 := ⟨by decide +kernel, rfl⟩
theorem D137_33 : rDec M137 33 (.putfield 37) 3 36 := ⟨by decide +kernel, rfl⟩
theorem D137_36 : rDec M137 36 (.aload_n 0) 1 37 := ⟨by decide +kernel, rfl⟩
theorem D137_37 : rDec M137 37 (.iconst 0) 1 38 := ⟨by decide +kernel, rfl⟩
theorem D137_38 : rDec M137 38 (.putfield 33) 3 41 := ⟨by decide +kernel, rfl⟩
theorem D137_41 : rDec M137 41 (.aload_n 0) 1 42 := ⟨by decide +kernel, rfl⟩
theorem D137_42 : rDec M137 42 (.getfield 37) 3 45 := ⟨by decide +kernel, rfl⟩
theorem D137_45 : rDec M137 45 (.iconst 1) 1 46 := ⟨by decide +kernel, rfl⟩
theorem D137_46 : rDec M137 46 (.isub) 1 47 := ⟨by decide +kernel, rfl⟩
theorem D137_47 : rDec M137 47 (.ireturn) 1 48 := ⟨by decide +kernel, rfl⟩
theorem P137_0 : rSnd lab M137 0 B137_0 := by
  refine s_Ent ?_
  refine s_Al gk0 (Or.inr ⟨0, D137_0, rfl⟩) ?_
  refine s_Gf (ci := 2) (r := ("WordWright$Equations", kT2, 8)) rfl (show 4 < 8 from by decide) rfl (Or.inl wd269) (Or.inl rfl) rfl D137_1 ?_
  refine s_ic D137_4 kc_i_2 (by decide) ?_
  refine s_Al gk0 (Or.inr ⟨0, D137_5, rfl⟩) ?_
  refine s_Gf (ci := 2) (r := ("WordWright$Equations", kT2, 8)) rfl (show 2 < 8 from by decide) rfl (Or.inl wd264) (Or.inl rfl) rfl D137_6 ?_
  refine s_Bin q_imul n_mul rG2_x rE2_x D137_9 ?_
  refine s_ic D137_10 kc_i_0 (by decide) ?_
  refine s_Ast (t := 0) rfl q_iast rfl (by decide) D137_11 ?_
  refine s_Al gk0 (Or.inr ⟨0, D137_12, rfl⟩) ?_
  refine s_Gf (ci := 2) (r := ("WordWright$Equations", kT2, 8)) rfl (show 4 < 8 from by decide) rfl (Or.inl wd269) (Or.inl rfl) rfl D137_13 ?_
  refine s_ic D137_16 kc_i_2 (by decide) ?_
  refine s_Al gk0 (Or.inr ⟨0, D137_17, rfl⟩) ?_
  refine s_Gf (ci := 2) (r := ("WordWright$Equations", kT2, 8)) rfl (show 2 < 8 from by decide) rfl (Or.inl wd264) (Or.inl rfl) rfl D137_18 ?_
  refine s_Bin q_imul n_mul rG2_x rE2_x D137_21 ?_
  refine s_ic D137_22 kc_i_1 (by decide) ?_
  refine s_Bin q_iadd n_add rG2_x e_add D137_23 ?_
  refine s_ic D137_24 kc_i_0 (by decide) ?_
  refine s_Ast (t := 0) rfl q_iast rfl (by decide) D137_25 ?_
  refine s_Al gk0 (Or.inr ⟨0, D137_26, rfl⟩) ?_
  refine s_Dup D137_27 ?_
  refine s_Gf (ci := 2) (r := ("WordWright$Equations", kT2, 8)) rfl (show 2 < 8 from by decide) rfl (Or.inl wd264) (Or.inl rfl) rfl D137_28 ?_
  refine s_ic D137_31 kc_i_1 (by decide) ?_
  refine s_Bin q_iadd n_add rG2_x e_add D137_32 ?_
  refine s_Pf (ci := 2) (r := ("WordWright$Equations", kT2, 8)) rfl (show 2 < 8 from by decide) rfl (Or.inl ⟨rfl, Or.inl wd264⟩) (Or.inl rfl) rfl (by decide) D137_33 ?_
  refine s_Al gk0 (Or.inr ⟨0, D137_36, rfl⟩) ?_
  refine s_ic D137_37 kc_i_0 (by decide) ?_
  refine s_Pf (ci := 2) (r := ("WordWright$Equations", kT2, 8)) rfl (show 5 < 8 from by decide) rfl (Or.inl ⟨rfl, Or.inl wd272⟩) (Or.inl rfl) rfl (by decide) D137_38 ?_
  refine s_Al gk0 (Or.inr ⟨0, D137_41, rfl⟩) ?_
  refine s_Gf (ci := 2) (r := ("WordWright$Equations", kT2, 8)) rfl (show 2 < 8 from by decide) rfl (Or.inl wd264) (Or.inl rfl) rfl D137_42 ?_
  refine s_ic D137_45 kc_i_1 (by decide) ?_
  refine s_Bin q_isub n_sub rG2_x rE2_x D137_46 ?_
  exact s_Ri (Or.inl rfl) D137_47.1
theorem D138_0 : rDec M138 0 (.aload_n 0) 1 1 := ⟨by decide +kernel, rfl⟩
theorem D138_1 : rDec M138 1 (.invokespecial 3) 3 4 := ⟨by decide +kernel, rfl⟩
theorem D138_4 : rDec M138 4 (.aload_n 0) 1 5 := ⟨by decide +kernel, rfl⟩
theorem D138_5 : rDec M138 5 (.iconst 4) 1 6 := ⟨by decide +kernel, rfl⟩
theorem D138_6 : rDec M138 6 (.newarray .int) 2 8 := ⟨by decide +kernel, rfl⟩
theorem D138_8 : rDec M138 8 (.putfield 9) 3 11 := ⟨by decide +kernel, rfl⟩
theorem D138_11 : rDec M138 11 (.aload_n 0) 1 12 := ⟨by decide +kernel, rfl⟩
theorem D138_12 : rDec M138 12 (.iconst 4) 1 13 := ⟨by decide +kernel, rfl⟩
theorem D138_13 : rDec M138 13 (.newarray .int) 2 15 := ⟨by decide +kernel, rfl⟩
theorem D138_15 : rDec M138 15 (.putfield 15) 3 18 := ⟨by decide +kernel, rfl⟩
theorem D138_18 : rDec M138 18 (.aload_n 0) 1 19 := ⟨by decide +kernel, rfl⟩
theorem D138_19 : rDec M138 19 (.bipush 48) 2 21 := ⟨by decide +kernel, rfl⟩
theorem D138_21 : rDec M138 21 (.newarray .int) 2 23 := ⟨by decide +kernel, rfl⟩
theorem D138_23 : rDec M138 23 (.putfield 18) 3 26 := ⟨by decide +kernel, rfl⟩
theorem D138_26 : rDec M138 26 (.aload_n 0) 1 27 := ⟨by decide +kernel, rfl⟩
theorem D138_27 : rDec M138 27 (.bipush 8) 2 29 := ⟨by decide +kernel, rfl⟩
theorem D138_29 : rDec M138 29 (.newarray .int) 2 31 := ⟨by decide +kernel, rfl⟩
theorem D138_31 : rDec M138 31 (.putfield 21) 3 34 := ⟨by decide +kernel, rfl⟩
theorem D138_34 : rDec M138 34 (.aload_n 0) 1 35 := ⟨by decide +kernel, rfl⟩
theorem D138_35 : rDec M138 35 (.iconst 4) 1 36 := ⟨by decide +kernel, rfl⟩
theorem D138_36 : rDec M138 36 (.newarray .int) 2 38 := ⟨by decide +kernel, rfl⟩
theorem D138_38 : rDec M138 38 (.putfield 24) 3 41 := ⟨by decide +kernel, rfl⟩
theorem D138_41 : rDec M138 41 (.aload_n 0) 1 42 := ⟨by decide +kernel, rfl⟩
theorem D138_42 : rDec M138 42 (.getfield 9) 3 45 := ⟨by decide +kernel, rfl⟩
theorem D138_45 : rDec M138 45 (.iconst 1) 1 46 := ⟨by decide +kernel, rfl⟩
theorem D138_46 : rDec M138 46 (.invokestatic 27) 3 49 := ⟨by decide +kernel, rfl⟩
theorem D138_49 : rDec M138 49 (.aload_n 0) 1 50 := ⟨by decide +kernel, rfl⟩
theorem D138_50 : rDec M138 50 (.getfield 15) 3 53 := ⟨by decide +kernel, rfl⟩
theorem D138_53 : rDec M138 53 (.iconst 1) 1 54 := ⟨by decide +kernel, rfl⟩
theorem D138_54 : rDec M138 54 (.invokestatic 27) 3 57 := ⟨by decide +kernel, rfl⟩
theorem D138_57 : rDec M138 57 (.return_) 1 58 := ⟨by decide +kernel, rfl⟩
theorem P138_0 : rSnd lab M138 0 B138_0 := by
  refine s_Ent ?_
  refine s_Al gk0 (Or.inr ⟨0, D138_0, rfl⟩) ?_
  refine s_Oi rfl wd255 wd62 wd63 D138_1 ?_
  refine s_Al gk0 (Or.inr ⟨0, D138_4, rfl⟩) ?_
  refine s_ic D138_5 kc_i_4 (by decide) ?_
  refine s_Nwa (t := 0) rfl (q_newa (at_ := .int) (Or.inl rfl)) (fun ht _ => ht _ wd91) D138_6 ?_
  refine s_Pf (ci := 2) (r := ("WordWright$Equations", kT2, 8)) rfl (show 0 < 8 from by decide) rfl (Or.inr ⟨rfl, wd259, rfl, rfl⟩) (Or.inl rfl) rfl (by decide) D138_8 ?_
  refine s_Al gk0 (Or.inr ⟨0, D138_11, rfl⟩) ?_
  refine s_ic D138_12 kc_i_4 (by decide) ?_
  refine s_Nwa (t := 0) rfl (q_newa (at_ := .int) (Or.inl rfl)) (fun ht _ => ht _ wd91) D138_13 ?_
  refine s_Pf (ci := 2) (r := ("WordWright$Equations", kT2, 8)) rfl (show 1 < 8 from by decide) rfl (Or.inr ⟨rfl, wd261, rfl, rfl⟩) (Or.inl rfl) rfl (by decide) D138_15 ?_
  refine s_Al gk0 (Or.inr ⟨0, D138_18, rfl⟩) ?_
  refine s_bi D138_19 kc_b_48 (by decide) ?_
  refine s_Nwa (t := 0) rfl (q_newa (at_ := .int) (Or.inl rfl)) (fun ht _ => ht _ wd91) D138_21 ?_
  refine s_Pf (ci := 2) (r := ("WordWright$Equations", kT2, 8)) rfl (show 3 < 8 from by decide) rfl (Or.inr ⟨rfl, wd267, rfl, rfl⟩) (Or.inl rfl) rfl (by decide) D138_23 ?_
  refine s_Al gk0 (Or.inr ⟨0, D138_26, rfl⟩) ?_
  refine s_bi D138_27 kc_b_8 (by decide) ?_
  refine s_Nwa (t := 0) rfl (q_newa (at_ := .int) (Or.inl rfl)) (fun ht _ => ht _ wd91) D138_29 ?_
  refine s_Pf (ci := 2) (r := ("WordWright$Equations", kT2, 8)) rfl (show 4 < 8 from by decide) rfl (Or.inr ⟨rfl, wd269, rfl, rfl⟩) (Or.inl rfl) rfl (by decide) D138_31 ?_
  refine s_Al gk0 (Or.inr ⟨0, D138_34, rfl⟩) ?_
  refine s_ic D138_35 kc_i_4 (by decide) ?_
  refine s_Nwa (t := 0) rfl (q_newa (at_ := .int) (Or.inl rfl)) (fun ht _ => ht _ wd91) D138_36 ?_
  refine s_Pf (ci := 2) (r := ("WordWright$Equations", kT2, 8)) rfl (show 7 < 8 from by decide) rfl (Or.inr ⟨rfl, wd276, rfl, rfl⟩) (Or.inl rfl) rfl (by decide) D138_38 ?_
  refine s_Al gk0 (Or.inr ⟨0, D138_41, rfl⟩) ?_
  refine s_Gf (ci := 2) (r := ("WordWright$Equations", kT2, 8)) rfl (show 0 < 8 from by decide) rfl (Or.inl wd259) (Or.inl rfl) rfl D138_42 ?_
  refine s_ic D138_45 kc_i_1 (by decide) ?_
  refine s_Cs (id := 3) rfl (l_S rfl ok3 rfl wd256 wd257 D138_46.1) (?_ : rSnd _ _ 49 _)
  refine s_Al gk0 (Or.inr ⟨0, D138_49, rfl⟩) ?_
  refine s_Gf (ci := 2) (r := ("WordWright$Equations", kT2, 8)) rfl (show 1 < 8 from by decide) rfl (Or.inl wd261) (Or.inl rfl) rfl D138_50 ?_
  refine s_ic D138_53 kc_i_1 (by decide) ?_
  refine s_Cs (id := 3) rfl (l_S rfl ok3 rfl wd256 wd257 D138_54.1) (?_ : rSnd _ _ 57 _)
  exact s_Rv rfl D138_57.1
theorem D139_0 : rDec M139 0 (.aload_n 0) 1 1 := ⟨by decide +kernel, rfl⟩
theorem D139_1 : rDec M139 1 (.aload_n 1) 1 2 := ⟨by decide +kernel, rfl⟩
theorem D139_2 : rDec M139 2 (.getfield 41) 3 5 := ⟨by decide +kernel, rfl⟩
theorem D139_5 : rDec M139 5 (.putfield 46) 3 8 := ⟨by decide +kernel, rfl⟩
theorem D139_8 : rDec M139 8 (.aload_n 1) 1 9 := ⟨by decide +kernel, rfl⟩
theorem D139_9 : rDec M139 9 (.getfield 47) 3 12 := ⟨by decide +kernel, rfl⟩
theorem D139_12 : rDec M139 12 (.iconst 0) 1 13 := ⟨by decide +kernel, rfl⟩
theorem D139_13 : rDec M139 13 (.aload_n 0) 1 14 := ⟨by decide +kernel, rfl⟩
theorem D139_14 : rDec M139 14 (.getfield 24) 3 17 := ⟨by decide +kernel, rfl⟩
theorem D139_17 : rDec M139 17 (.iconst 0) 1 18 := ⟨by decide +kernel, rfl⟩
theorem D139_18 : rDec M139 18 (.iconst 4) 1 19 := ⟨by decide +kernel, rfl⟩
theorem D139_19 : rDec M139 19 (.invokestatic 48) 3 22 := ⟨by decide +kernel, rfl⟩
theorem D139_22 : rDec M139 22 (.aload_n 0) 1 23 := ⟨by decide +kernel, rfl⟩
theorem D139_23 : rDec M139 23 (.iconst 1) 1 24 := ⟨by decide +kernel, rfl⟩
theorem D139_24 : rDec M139 24 (.putfield 33) 3 27 := ⟨by decide +kernel, rfl⟩
theorem D139_27 : rDec M139 27 (.return_) 1 28 := ⟨by decide +kernel, rfl⟩
theorem P139_0 : rSnd lab M139 0 B139_0 := by
  refine s_Ent ?_
  refine s_Al gk0 (Or.inr ⟨0, D139_0, rfl⟩) ?_
  refine s_Al gk1 (Or.inr ⟨1, D139_1, rfl⟩) ?_
  refine s_Gf (ci := 8) (r := ("WordWright$Solver", kT8, 11)) rfl (show 0 < 11 from by decide) rfl (Or.inl wd302) (Or.inl rfl) rfl D139_2 ?_
  refine s_Pf (ci := 2) (r := ("WordWright$Equations", kT2, 8)) rfl (show 6 < 8 from by decide) rfl (Or.inl ⟨rfl, Or.inl wd274⟩) (Or.inl rfl) rfl (by decide) D139_5 ?_
  refine s_Al gk1 (Or.inr ⟨1, D139_8, rfl⟩) ?_
  refine s_Gf (ci := 8) (r := ("WordWright$Solver", kT8, 11)) rfl (show 1 < 11 from by decide) rfl (Or.inl wd305) (Or.inl rfl) rfl D139_9 ?_
  refine s_ic D139_12 kc_i_0 (by decide) ?_
  refine s_Al gk0 (Or.inr ⟨0, D139_13, rfl⟩) ?_
  refine s_Gf (ci := 2) (r := ("WordWright$Equations", kT2, 8)) rfl (show 7 < 8 from by decide) rfl (Or.inl wd276) (Or.inl rfl) rfl D139_14 ?_
  refine s_ic D139_17 kc_i_0 (by decide) ?_
  refine s_ic D139_18 kc_i_4 (by decide) ?_
  refine s_Cpy rfl wd589 wd584 wd583 wd17 D139_19 ?_
  refine s_Al gk0 (Or.inr ⟨0, D139_22, rfl⟩) ?_
  refine s_ic D139_23 kc_i_1 (by decide) ?_
  refine s_Pf (ci := 2) (r := ("WordWright$Equations", kT2, 8)) rfl (show 5 < 8 from by decide) rfl (Or.inl ⟨rfl, Or.inl wd272⟩) (Or.inl rfl) rfl (by decide) D139_24 ?_
  exact s_Rv rfl D139_27.1
theorem D140_0 : rDec M140 0 (.iconst 0) 1 1 := ⟨by decide +kernel, rfl⟩
theorem D140_1 : rDec M140 1 (.istore_n 1) 1 2 := ⟨by decide +kernel, rfl⟩
theorem D140_2 : rDec M140 2 (.iconst 0) 1 3 := ⟨by decide +kernel, rfl⟩
theorem D140_3 : rDec M140 3 (.istore_n 2) 1 4 := ⟨by decide +kernel, rfl⟩
theorem D140_4 : rDec M140 4 (.iload_n 2) 1 5 := ⟨by decide +kernel, rfl⟩
theorem D140_5 : rDec M140 5 (.iconst 2) 1 6 := ⟨by decide +kernel, rfl⟩
theorem D140_6 : rDec M140 6 (.aload_n 0) 1 7 := ⟨by decide +kernel, rfl⟩
theorem D140_7 : rDec M140 7 (.getfield 37) 3 10 := ⟨by decide +kernel, rfl⟩
theorem D140_10 : rDec M140 10 (.imul) 1 11 := ⟨by decide +kernel, rfl⟩
theorem D140_11 : rDec M140 11 (.if_icmp .ge 18) 3 14 := ⟨by decide +kernel, rfl⟩
theorem D140_29 : rDec M140 29 (.iload_n 1) 1 30 := ⟨by decide +kernel, rfl⟩
theorem D140_30 : rDec M140 30 (.ireturn) 1 31 := ⟨by decide +kernel, rfl⟩
theorem P140_29 : rSnd lab M140 29 B140_29 := by
  refine s_Il gk1 (Or.inr ⟨1, D140_29, rfl⟩) ?_
  exact s_Ri (Or.inl rfl) D140_30.1
theorem P140_0 : rSnd lab M140 0 B140_0 := by
  refine s_Ent ?_
  refine s_ic D140_0 kc_i_0 (by decide) ?_
  refine s_Is sk1 (show 1 < 3 from by decide) (Or.inr ⟨1, D140_1, rfl⟩) ?_
  refine s_ic D140_2 kc_i_0 (by decide) ?_
  refine s_Is sk2 (show 2 < 3 from by decide) (Or.inr ⟨2, D140_3, rfl⟩) ?_
  refine s_Il gk2 (Or.inr ⟨2, D140_4, rfl⟩) ?_
  refine s_ic D140_5 kc_i_2 (by decide) ?_
  refine s_Al gk0 (Or.inr ⟨0, D140_6, rfl⟩) ?_
  refine s_Gf (ci := 2) (r := ("WordWright$Equations", kT2, 8)) rfl (show 2 < 8 from by decide) rfl (Or.inl wd264) (Or.inl rfl) rfl D140_7 ?_
  refine s_Bin q_imul n_mul rG2_x rE2_x D140_10 ?_
  refine s_Ic c_ge (i_ge (tg := 29) (by decide)) D140_11.1 P140_29 (?_ : rSnd _ _ 14 _)
  exact rSnd_none
theorem D141_0 : rDec M141 0 (.aload_n 0) 1 1 := ⟨by decide +kernel, rfl⟩
theorem D141_1 : rDec M141 1 (.getfield 15) 3 4 := ⟨by decide +kernel, rfl⟩
theorem D141_4 : rDec M141 4 (.iload_n 1) 1 5 := ⟨by decide +kernel, rfl⟩
theorem D141_5 : rDec M141 5 (.iaload) 1 6 := ⟨by decide +kernel, rfl⟩
theorem D141_6 : rDec M141 6 (.istore 4) 2 8 := ⟨by decide +kernel, rfl⟩
theorem D141_8 : rDec M141 8 (.aload_n 0) 1 9 := ⟨by decide +kernel, rfl⟩
theorem D141_9 : rDec M141 9 (.getfield 9) 3 12 := ⟨by decide +kernel, rfl⟩
theorem D141_12 : rDec M141 12 (.iload_n 1) 1 13 := ⟨by decide +kernel, rfl⟩
theorem D141_13 : rDec M141 13 (.iload_n 2) 1 14 := ⟨by decide +kernel, rfl⟩
theorem D141_14 : rDec M141 14 (.iastore) 1 15 := ⟨by decide +kernel, rfl⟩
theorem D141_15 : rDec M141 15 (.aload_n 0) 1 16 := ⟨by decide +kernel, rfl⟩
theorem D141_16 : rDec M141 16 (.getfield 15) 3 19 := ⟨by decide +kernel, rfl⟩
theorem D141_19 : rDec M141 19 (.iload_n 1) 1 20 := ⟨by decide +kernel, rfl⟩
theorem D141_20 : rDec M141 20 (.iload_n 3) 1 21 := ⟨by decide +kernel, rfl⟩
theorem D141_21 : rDec M141 21 (.iastore) 1 22 := ⟨by decide +kernel, rfl⟩
theorem D141_22 : rDec M141 22 (.aload_n 0) 1 23 := ⟨by decide +kernel, rfl⟩
theorem D141_23 : rDec M141 23 (.iconst 0) 1 24 := ⟨by decide +kernel, rfl⟩
theorem D141_24 : rDec M141 24 (.putfield 33) 3 27 := ⟨by decide +kernel, rfl⟩
theorem D141_27 : rDec M141 27 (.iload 4) 2 29 := ⟨by decide +kernel, rfl⟩
theorem D141_29 : rDec M141 29 (.ireturn) 1 30 := ⟨by decide +kernel, rfl⟩
theorem P141_0 : rSnd lab M141 0 B141_0 := by
  refine s_Ent ?_
  refine s_Al gk0 (Or.inr ⟨0, D141_0, rfl⟩) ?_
  refine s_Gf (ci := 2) (r := ("WordWright$Equations", kT2, 8)) rfl (show 1 < 8 from by decide) rfl (Or.inl wd261) (Or.inl rfl) rfl D141_1 ?_
  refine s_Il gk1 (Or.inr ⟨1, D141_4, rfl⟩) ?_
  refine s_Ial D141_5 ?_
  refine s_Is sk4 (show 4 < 5 from by decide) (Or.inl D141_6) ?_
  refine s_Al gk0 (Or.inr ⟨0, D141_8, rfl⟩) ?_
  refine s_Gf (ci := 2) (r := ("WordWright$Equations", kT2, 8)) rfl (show 0 < 8 from by decide) rfl (Or.inl wd259) (Or.inl rfl) rfl D141_9 ?_
  refine s_Il gk1 (Or.inr ⟨1, D141_12, rfl⟩) ?_
  refine s_Il gk2 (Or.inr ⟨2, D141_13, rfl⟩) ?_
  refine s_Ast (t := 0) rfl q_iast rfl (by decide) D141_14 ?_
  refine s_Al gk0 (Or.inr ⟨0, D141_15, rfl⟩) ?_
  refine s_Gf (ci := 2) (r := ("WordWright$Equations", kT2, 8)) rfl (show 1 < 8 from by decide) rfl (Or.inl wd261) (Or.inl rfl) rfl D141_16 ?_
  refine s_Il gk1 (Or.inr ⟨1, D141_19, rfl⟩) ?_
  refine s_Il gk3 (Or.inr ⟨3, D141_20, rfl⟩) ?_
  refine s_Ast (t := 0) rfl q_iast rfl (by decide) D141_21 ?_
  refine s_Al gk0 (Or.inr ⟨0, D141_22, rfl⟩) ?_
  refine s_ic D141_23 kc_i_0 (by decide) ?_
  refine s_Pf (ci := 2) (r := ("WordWright$Equations", kT2, 8)) rfl (show 5 < 8 from by decide) rfl (Or.inl ⟨rfl, Or.inl wd272⟩) (Or.inl rfl) rfl (by decide) D141_24 ?_
  refine s_Il gk4 (Or.inl D141_27) ?_
  exact s_Ri (Or.inl rfl) D141_29.1
theorem D142_0 : rDec M142 0 (.aload_n 0) 1 1 := ⟨by decide +kernel, rfl⟩
theorem D142_1 : rDec M142 1 (.invokevirtual 22) 3 4 := ⟨by decide +kernel, rfl⟩
theorem D142_4 : rDec M142 4 (.iconst 0) 1 5 := ⟨by decide +kernel, rfl⟩
theorem D142_5 : rDec M142 5 (.invokestatic 26) 3 8 := ⟨by decide +kernel, rfl⟩
theorem D142_8 : rDec M142 8 (.areturn) 1 9 := ⟨by decide +kernel, rfl⟩
theorem P142_0 : rSnd lab M142 0 B142_0 := by
  refine s_Ent ?_
  refine s_Al gk0 (Or.inr ⟨0, D142_0, rfl⟩) ?_
  refine s_Cv (ln := 3) (kd := 38) (C := "WordWrightModel$9") (by decide) (by decide +kernel) rfl (l_V rfl ok146 rfl wd2326 wd2301 wd2867 D142_1.1) (?_ : rSnd _ _ 4 _)
  refine s_ic D142_4 kc_i_0 (by decide) ?_
  refine s_Cs (id := 291) rfl (l_SN (j := 16) rfl ok211 rfl rfl wd2311 D142_5.1) (?_ : rSnd _ _ 8 _)
  exact s_Ra (Or.inr ⟨_, rfl⟩) D142_8.1
theorem D143_0 : rDec M143 0 (.aload_n 0) 1 1 := ⟨by decide +kernel, rfl⟩
theorem D143_1 : rDec M143 1 (.invokevirtual 22) 3 4 := ⟨by decide +kernel, rfl⟩
theorem D143_4 : rDec M143 4 (.newarray .boolean) 2 6 := ⟨by decide +kernel, rfl⟩
theorem D143_6 : rDec M143 6 (.astore_n 3) 1 7 := ⟨by decide +kernel, rfl⟩
theorem D143_7 : rDec M143 7 (.iconst 0) 1 8 := ⟨by decide +kernel, rfl⟩
theorem D143_8 : rDec M143 8 (.istore 4) 2 10 := ⟨by decide +kernel, rfl⟩
theorem D143_10 : rDec M143 10 (.iload 4) 2 12 := ⟨by decide +kernel, rfl⟩
theorem D143_12 : rDec M143 12 (.aload_n 3) 1 13 := ⟨by decide +kernel, rfl⟩
theorem D143_13 : rDec M143 13 (.arraylength) 1 14 := ⟨by decide +kernel, rfl⟩
theorem D143_14 : rDec M143 14 (.if_icmp .ge 64) 3 17 := ⟨by decide +kernel, rfl⟩
theorem D143_17 : rDec M143 17 (.aload_n 1) 1 18 := ⟨by decide +kernel, rfl⟩
theorem D143_18 : rDec M143 18 (.iload 4) 2 20 := ⟨by decide +kernel, rfl⟩
theorem D143_20 : rDec M143 20 (.baload) 1 21 := ⟨by decide +kernel, rfl⟩
theorem D143_21 : rDec M143 21 (.ifCond .eq 51) 3 24 := ⟨by decide +kernel, rfl⟩
theorem D143_24 : rDec M143 24 (.aload_n 3) 1 25 := ⟨by decide +kernel, rfl⟩
theorem D143_25 : rDec M143 25 (.aload_n 0) 1 26 := ⟨by decide +kernel, rfl⟩
theorem D143_26 : rDec M143 26 (.getfield 1) 3 29 := ⟨by decide +kernel, rfl⟩
theorem D143_29 : rDec M143 29 (.iload 4) 2 31 := ⟨by decide +kernel, rfl⟩
theorem D143_31 : rDec M143 31 (.aload_n 0) 1 32 := ⟨by decide +kernel, rfl⟩
theorem D143_32 : rDec M143 32 (.getfield 7) 3 35 := ⟨by decide +kernel, rfl⟩
theorem D143_35 : rDec M143 35 (.getfield 16) 3 38 := ⟨by decide +kernel, rfl⟩
theorem D143_38 : rDec M143 38 (.idiv) 1 39 := ⟨by decide +kernel, rfl⟩
theorem D143_39 : rDec M143 39 (.iload_n 2) 1 40 := ⟨by decide +kernel, rfl⟩
theorem D143_40 : rDec M143 40 (.invokevirtual 32) 3 43 := ⟨by decide +kernel, rfl⟩
theorem D143_43 : rDec M143 43 (.aload_n 0) 1 44 := ⟨by decide +kernel, rfl⟩
theorem D143_44 : rDec M143 44 (.getfield 7) 3 47 := ⟨by decide +kernel, rfl⟩
theorem D143_47 : rDec M143 47 (.getfield 16) 3 50 := ⟨by decide +kernel, rfl⟩
theorem D143_50 : rDec M143 50 (.imul) 1 51 := ⟨by decide +kernel, rfl⟩
theorem D143_51 : rDec M143 51 (.aload_n 0) 1 52 := ⟨by decide +kernel, rfl⟩
theorem D143_52 : rDec M143 52 (.getfield 7) 3 55 := ⟨by decide +kernel, rfl⟩
theorem D143_55 : rDec M143 55 (.iload 4) 2 57 := ⟨by decide +kernel, rfl⟩
theorem D143_57 : rDec M143 57 (.aload_n 0) 1 58 := ⟨by decide +kernel, rfl⟩
theorem D143_58 : rDec M143 58 (.getfield 7) 3 61 := ⟨by decide +kernel, rfl⟩
theorem D143_61 : rDec M143 61 (.getfield 16) 3 64 := ⟨by decide +kernel, rfl⟩
theorem D143_64 : rDec M143 64 (.irem) 1 65 := ⟨by decide +kernel, rfl⟩
theorem D143_65 : rDec M143 65 (.iload_n 2) 1 66 := ⟨by decide +kernel, rfl⟩
theorem D143_66 : rDec M143 66 (.invokevirtual 32) 3 69 := ⟨by decide +kernel, rfl⟩
theorem D143_69 : rDec M143 69 (.iadd) 1 70 := ⟨by decide +kernel, rfl⟩
theorem D143_70 : rDec M143 70 (.iconst 1) 1 71 := ⟨by decide +kernel, rfl⟩
theorem D143_71 : rDec M143 71 (.bastore) 1 72 := ⟨by decide +kernel, rfl⟩
theorem D143_72 : rDec M143 72 (.iinc 4 1) 3 75 := ⟨by decide +kernel, rfl⟩
theorem D143_75 : rDec M143 75 (.goto (-65)) 3 78 := ⟨by decide +kernel, rfl⟩
theorem D143_78 : rDec M143 78 (.aload_n 3) 1 79 := ⟨by decide +kernel, rfl⟩
theorem D143_79 : rDec M143 79 (.areturn) 1 80 := ⟨by decide +kernel, rfl⟩
theorem P143_78 : rSnd lab M143 78 B143_78 := by
  refine s_Al gk3 (Or.inr ⟨3, D143_78, rfl⟩) ?_
  exact s_Ra (Or.inr ⟨_, rfl⟩) D143_79.1
theorem P143_72 : rSnd lab M143 72 B143_72 := by
  refine s_Inc gk4 sk4 (show 4 < 5 from by decide) kc_i_1 D143_72 ?_
  exact s_Go (pc' := 10) D143_75.1 (by decide) (s_Jb rfl)
theorem P143_10 : rSnd lab M143 10 B143_10 := by
  refine s_Il gk4 (Or.inl D143_10) ?_
  refine s_Al gk3 (Or.inr ⟨3, D143_12, rfl⟩) ?_
  refine s_Len D143_13 ?_
  refine s_Ic c_ge (i_ge (tg := 78) (by decide)) D143_14.1 P143_78 (?_ : rSnd _ _ 17 _)
  refine s_Al gk1 (Or.inr ⟨1, D143_17, rfl⟩) ?_
  refine s_Il gk4 (Or.inl D143_18) ?_
  refine s_Ald (t := 1) (ty := .boolean) rfl q_zald rfl D143_20 ?_
  refine s_If c_eq (fun _ => rfl) (fun _ _ => rfl) (b_eq (tg := 72) (by decide)) D143_21.1 P143_72 (?_ : rSnd _ _ 24 _)
  refine s_Al gk3 (Or.inr ⟨3, D143_24, rfl⟩) ?_
  refine s_Al gk0 (Or.inr ⟨0, D143_25, rfl⟩) ?_
  refine s_Gf (ci := 18) (r := ("WordWrightModel$9", kT18, 2)) rfl (show 0 < 2 from by decide) rfl (Or.inl wd2278) (Or.inl rfl) rfl D143_26 ?_
  refine s_Il gk4 (Or.inl D143_29) ?_
  refine s_Al gk0 (Or.inr ⟨0, D143_31, rfl⟩) ?_
  refine s_Gf (ci := 18) (r := ("WordWrightModel$9", kT18, 2)) rfl (show 1 < 2 from by decide) rfl (Or.inl wd2279) (Or.inl rfl) rfl D143_32 ?_
  refine s_Gf (ci := 19) (r := ("WordWrightModel$Dfa", kT19, 3)) rfl (show 0 < 3 from by decide) rfl (Or.inl wd1813) (Or.inl rfl) rfl D143_35 ?_
  refine s_Div q_idiv n_div g_div D143_38 ?_
  refine s_Il gk2 (Or.inr ⟨2, D143_39, rfl⟩) ?_
  refine s_Cv (ln := 3) (kd := 40) (C := "WordWrightModel$Dfa") (by decide) (by decide +kernel) rfl (l_V rfl ok147 rfl wd2368 wd1739 wd1740 D143_40.1) (?_ : rSnd _ _ 43 _)
  refine s_Al gk0 (Or.inr ⟨0, D143_43, rfl⟩) ?_
  refine s_Gf (ci := 18) (r := ("WordWrightModel$9", kT18, 2)) rfl (show 1 < 2 from by decide) rfl (Or.inl wd2279) (Or.inl rfl) rfl D143_44 ?_
  refine s_Gf (ci := 19) (r := ("WordWrightModel$Dfa", kT19, 3)) rfl (show 0 < 3 from by decide) rfl (Or.inl wd1813) (Or.inl rfl) rfl D143_47 ?_
  refine s_Bin q_imul n_mul rG2_x rE2_x D143_50 ?_
  refine s_Al gk0 (Or.inr ⟨0, D143_51, rfl⟩) ?_
  refine s_Gf (ci := 18) (r := ("WordWrightModel$9", kT18, 2)) rfl (show 1 < 2 from by decide) rfl (Or.inl wd2279) (Or.inl rfl) rfl D143_52 ?_
  refine s_Il gk4 (Or.inl D143_55) ?_
  refine s_Al gk0 (Or.inr ⟨0, D143_57, rfl⟩) ?_
  refine s_Gf (ci := 18) (r := ("WordWrightModel$9", kT18, 2)) rfl (show 1 < 2 from by decide) rfl (Or.inl wd2279) (Or.inl rfl) rfl D143_58 ?_
  refine s_Gf (ci := 19) (r := ("WordWrightModel$Dfa", kT19, 3)) rfl (show 0 < 3 from by decide) rfl (Or.inl wd1813) (Or.inl rfl) rfl D143_61 ?_
  refine s_Div q_irem n_rem rG2_x D143_64 ?_
  refine s_Il gk2 (Or.inr ⟨2, D143_65, rfl⟩) ?_
  refine s_Cv (ln := 3) (kd := 40) (C := "WordWrightModel$Dfa") (by decide) (by decide +kernel) rfl (l_V rfl ok147 rfl wd2368 wd1739 wd1740 D143_66.1) (?_ : rSnd _ _ 69 _)
  refine s_Bin q_iadd n_add rG2_x e_add D143_69 ?_
  refine s_ic D143_70 kc_i_1 (by decide) ?_
  refine s_Ast (t := 1) rfl q_zast rfl (by decide) D143_71 ?_
  exact P143_72
theorem P143_0 : rSnd lab M143 0 B143_0 := by
  refine s_Ent ?_
  refine s_Al gk0 (Or.inr ⟨0, D143_0, rfl⟩) ?_
  refine s_Cv (ln := 3) (kd := 38) (C := "WordWrightModel$9") (by decide) (by decide +kernel) rfl (l_V rfl ok146 rfl wd2326 wd2301 wd2867 D143_1.1) (?_ : rSnd _ _ 4 _)
  refine s_Nwa (t := 1) rfl (q_newa (at_ := .boolean) (Or.inr (Or.inr rfl))) (fun ht _ => ht _ wd147) D143_4 ?_
  refine s_As sk3 (show 3 < 5 from by decide) (Or.inr ⟨3, D143_6, rfl⟩) ?_
  refine s_ic D143_7 kc_i_0 (by decide) ?_
  refine s_Is sk4 (show 4 < 5 from by decide) (Or.inl D143_8) ?_
  exact P143_10
theorem D144_0 : rDec M144 0 (.aload_n 0) 1 1 := ⟨by decide +kernel, rfl⟩
theorem D144_1 : rDec M144 1 (.aload_n 1) 1 2 := ⟨by decide +kernel, rfl⟩
theorem D144_2 : rDec M144 2 (.putfield 1) 3 5 := ⟨by decide +kernel, rfl⟩
theorem D144_5 : rDec M144 5 (.aload_n 0) 1 6 := ⟨by decide +kernel, rfl⟩
theorem D144_6 : rDec M144 6 (.aload_n 2) 1 7 := ⟨by decide +kernel, rfl⟩
theorem D144_7 : rDec M144 7 (.putfield 7) 3 10 := ⟨by decide +kernel, rfl⟩
theorem D144_10 : rDec M144 10 (.aload_n 0) 1 11 := ⟨by decide +kernel, rfl⟩
theorem D144_11 : rDec M144 11 (.invokespecial 10) 3 14 := ⟨by decide +kernel, rfl⟩
theorem D144_14 : rDec M144 14 (.return_) 1 15 := ⟨by decide +kernel, rfl⟩
theorem P144_0 : rSnd lab M144 0 B144_0 := by
  refine s_Ent ?_
  refine s_Al gk0 (Or.inr ⟨0, D144_0, rfl⟩) ?_
  refine s_Al gk1 (Or.inr ⟨1, D144_1, rfl⟩) ?_
  refine s_Pf (ci := 18) (r := ("WordWrightModel$9", kT18, 2)) rfl (show 0 < 2 from by decide) rfl (Or.inr ⟨rfl, wd2278, rfl, rfl⟩) (Or.inl rfl) rfl (by decide) D144_2 ?_
  refine s_Al gk0 (Or.inr ⟨0, D144_5, rfl⟩) ?_
  refine s_Al gk2 (Or.inr ⟨2, D144_6, rfl⟩) ?_
  refine s_Pf (ci := 18) (r := ("WordWrightModel$9", kT18, 2)) rfl (show 1 < 2 from by decide) rfl (Or.inr ⟨rfl, wd2279, rfl, rfl⟩) (Or.inl rfl) rfl (by decide) D144_7 ?_
  refine s_Al gk0 (Or.inr ⟨0, D144_10, rfl⟩) ?_
  refine s_Ci (id := 195) rfl (l_IN (j := 17) rfl ok158 rfl rfl rfl rfl wd2275 D144_11.1) (?_ : rSnd _ _ 14 _)
  exact s_Rv rfl D144_14.1
theorem D145_0 : rDec M145 0 (.aload_n 0) 1 1 := ⟨by decide +kernel, rfl⟩
theorem D145_1 : rDec M145 1 (.getfield 1) 3 4 := ⟨by decide +kernel, rfl⟩
theorem D145_4 : rDec M145 4 (.getfield 36) 3 7 := ⟨by decide +kernel, rfl⟩
theorem D145_7 : rDec M145 7 (.iload_n 1) 1 8 := ⟨by decide +kernel, rfl⟩
theorem D145_8 : rDec M145 8 (.aload_n 0) 1 9 := ⟨by decide +kernel, rfl⟩
theorem D145_9 : rDec M145 9 (.getfield 7) 3 12 := ⟨by decide +kernel, rfl⟩
theorem D145_12 : rDec M145 12 (.getfield 16) 3 15 := ⟨by decide +kernel, rfl⟩
theorem D145_15 : rDec M145 15 (.idiv) 1 16 := ⟨by decide +kernel, rfl⟩
theorem D145_16 : rDec M145 16 (.baload) 1 17 := ⟨by decide +kernel, rfl⟩
theorem D145_17 : rDec M145 17 (.ifCond .eq 27) 3 20 := ⟨by decide +kernel, rfl⟩
theorem D145_20 : rDec M145 20 (.aload_n 0) 1 21 := ⟨by decide +kernel, rfl⟩
theorem D145_21 : rDec M145 21 (.getfield 7) 3 24 := ⟨by decide +kernel, rfl⟩
theorem D145_24 : rDec M145 24 (.getfield 36) 3 27 := ⟨by decide +kernel, rfl⟩
theorem D145_27 : rDec M145 27 (.iload_n 1) 1 28 := ⟨by decide +kernel, rfl⟩
theorem D145_28 : rDec M145 28 (.aload_n 0) 1 29 := ⟨by decide +kernel, rfl⟩
theorem D145_29 : rDec M145 29 (.getfield 7) 3 32 := ⟨by decide +kernel, rfl⟩
theorem D145_32 : rDec M145 32 (.getfield 16) 3 35 := ⟨by decide +kernel, rfl⟩
theorem D145_35 : rDec M145 35 (.irem) 1 36 := ⟨by decide +kernel, rfl⟩
theorem D145_36 : rDec M145 36 (.baload) 1 37 := ⟨by decide +kernel, rfl⟩
theorem D145_37 : rDec M145 37 (.ifCond .ne 7) 3 40 := ⟨by decide +kernel, rfl⟩
theorem D145_40 : rDec M145 40 (.iconst 1) 1 41 := ⟨by decide +kernel, rfl⟩
theorem D145_41 : rDec M145 41 (.goto 4) 3 44 := ⟨by decide +kernel, rfl⟩
theorem D145_44 : rDec M145 44 (.iconst 0) 1 45 := ⟨by decide +kernel, rfl⟩
theorem D145_45 : rDec M145 45 (.ireturn) 1 46 := ⟨by decide +kernel, rfl⟩
theorem P145_45 : rSnd lab M145 45 B145_45 := by
  exact s_Ri (Or.inr ⟨rfl, by decide⟩) D145_45.1
theorem P145_44 : rSnd lab M145 44 B145_44 := by
  refine s_ic D145_44 kc_i_0 (by decide) ?_
  exact P145_45
theorem P145_0 : rSnd lab M145 0 B145_0 := by
  refine s_Ent ?_
  refine s_Al gk0 (Or.inr ⟨0, D145_0, rfl⟩) ?_
  refine s_Gf (ci := 18) (r := ("WordWrightModel$9", kT18, 2)) rfl (show 0 < 2 from by decide) rfl (Or.inl wd2278) (Or.inl rfl) rfl D145_1 ?_
  refine s_Gf (ci := 19) (r := ("WordWrightModel$Dfa", kT19, 3)) rfl (show 2 < 3 from by decide) rfl (Or.inl wd1825) (Or.inl rfl) rfl D145_4 ?_
  refine s_Il gk1 (Or.inr ⟨1, D145_7, rfl⟩) ?_
  refine s_Al gk0 (Or.inr ⟨0, D145_8, rfl⟩) ?_
  refine s_Gf (ci := 18) (r := ("WordWrightModel$9", kT18, 2)) rfl (show 1 < 2 from by decide) rfl (Or.inl wd2279) (Or.inl rfl) rfl D145_9 ?_
  refine s_Gf (ci := 19) (r := ("WordWrightModel$Dfa", kT19, 3)) rfl (show 0 < 3 from by decide) rfl (Or.inl wd1813) (Or.inl rfl) rfl D145_12 ?_
  refine s_Div q_idiv n_div g_div D145_15 ?_
  refine s_Ald (t := 1) (ty := .boolean) rfl q_zald rfl D145_16 ?_
  refine s_If c_eq (fun _ => rfl) (fun _ _ => rfl) (b_eq (tg := 44) (by decide)) D145_17.1 P145_44 (?_ : rSnd _ _ 20 _)
  refine s_Al gk0 (Or.inr ⟨0, D145_20, rfl⟩) ?_
  refine s_Gf (ci := 18) (r := ("WordWrightModel$9", kT18, 2)) rfl (show 1 < 2 from by decide) rfl (Or.inl wd2279) (Or.inl rfl) rfl D145_21 ?_
  refine s_Gf (ci := 19) (r := ("WordWrightModel$Dfa", kT19, 3)) rfl (show 2 < 3 from by decide) rfl (Or.inl wd1825) (Or.inl rfl) rfl D145_24 ?_
  refine s_Il gk1 (Or.inr ⟨1, D145_27, rfl⟩) ?_
  refine s_Al gk0 (Or.inr ⟨0, D145_28, rfl⟩) ?_
  refine s_Gf (ci := 18) (r := ("WordWrightModel$9", kT18, 2)) rfl (show 1 < 2 from by decide) rfl (Or.inl wd2279) (Or.inl rfl) rfl D145_29 ?_
  refine s_Gf (ci := 19) (r := ("WordWrightModel$Dfa", kT19, 3)) rfl (show 0 < 3 from by decide) rfl (Or.inl wd1813) (Or.inl rfl) rfl D145_32 ?_
  refine s_Div q_irem n_rem rG2_x D145_35 ?_
  refine s_Ald (t := 1) (ty := .boolean) rfl q_zald rfl D145_36 ?_
  refine s_If c_ne (fun _ => rfl) (fun _ _ => rfl) (b_ne (tg := 44) (by decide)) D145_37.1 P145_44 (?_ : rSnd _ _ 40 _)
  refine s_ic D145_40 kc_i_1 (by decide) ?_
  exact s_Go (pc' := 45) D145_41.1 (by decide) P145_45
theorem D146_0 : rDec M146 0 (.aload_n 0) 1 1 := ⟨by decide +kernel, rfl⟩
theorem D146_1 : rDec M146 1 (.getfield 1) 3 4 := ⟨by decide +kernel, rfl⟩
theorem D146_4 : rDec M146 4 (.getfield 16) 3 7 := ⟨by decide +kernel, rfl⟩
theorem D146_7 : rDec M146 7 (.aload_n 0) 1 8 := ⟨by decide +kernel, rfl⟩
theorem D146_8 : rDec M146 8 (.getfield 7) 3 11 := ⟨by decide +kernel, rfl⟩
theorem D146_11 : rDec M146 11 (.getfield 16) 3 14 := ⟨by decide +kernel, rfl⟩
theorem D146_14 : rDec M146 14 (.imul) 1 15 := ⟨by decide +kernel, rfl⟩
theorem D146_15 : rDec M146 15 (.ireturn) 1 16 := ⟨by decide +kernel, rfl⟩
theorem P146_0 : rSnd lab M146 0 B146_0 := by
  refine s_Ent ?_
  refine s_Al gk0 (Or.inr ⟨0, D146_0, rfl⟩) ?_
  refine s_Gf (ci := 18) (r := ("WordWrightModel$9", kT18, 2)) rfl (show 0 < 2 from by decide) rfl (Or.inl wd2278) (Or.inl rfl) rfl D146_1 ?_
  refine s_Gf (ci := 19) (r := ("WordWrightModel$Dfa", kT19, 3)) rfl (show 0 < 3 from by decide) rfl (Or.inl wd1813) (Or.inl rfl) rfl D146_4 ?_
  refine s_Al gk0 (Or.inr ⟨0, D146_7, rfl⟩) ?_
  refine s_Gf (ci := 18) (r := ("WordWrightModel$9", kT18, 2)) rfl (show 1 < 2 from by decide) rfl (Or.inl wd2279) (Or.inl rfl) rfl D146_8 ?_
  refine s_Gf (ci := 19) (r := ("WordWrightModel$Dfa", kT19, 3)) rfl (show 0 < 3 from by decide) rfl (Or.inl wd1813) (Or.inl rfl) rfl D146_11 ?_
  refine s_Bin q_imul n_mul rG2_x rE2_x D146_14 ?_
  exact s_Ri (Or.inl rfl) D146_15.1
theorem D147_0 : rDec M147 0 (.aload_n 0) 1 1 := ⟨by decide +kernel, rfl⟩
theorem D147_1 : rDec M147 1 (.getfield 15) 3 4 := ⟨by decide +kernel, rfl⟩
theorem D147_4 : rDec M147 4 (.iload_n 1) 1 5 := ⟨by decide +kernel, rfl⟩
theorem D147_5 : rDec M147 5 (.iconst 4) 1 6 := ⟨by decide +kernel, rfl⟩
theorem D147_6 : rDec M147 6 (.imul) 1 7 := ⟨by decide +kernel, rfl⟩
theorem D147_7 : rDec M147 7 (.iload_n 2) 1 8 := ⟨by decide +kernel, rfl⟩
theorem D147_8 : rDec M147 8 (.iadd) 1 9 := ⟨by decide +kernel, rfl⟩
theorem D147_9 : rDec M147 9 (.iaload) 1 10 := ⟨by decide +kernel, rfl⟩
theorem D147_10 : rDec M147 10 (.ireturn) 1 11 := ⟨by decide +kernel, rfl⟩
theorem P147_0 : rSnd lab M147 0 B147_0 := by
  refine s_Ent ?_
  refine s_Al gk0 (Or.inr ⟨0, D147_0, rfl⟩) ?_
  refine s_Gf (ci := 19) (r := ("WordWrightModel$Dfa", kT19, 3)) rfl (show 1 < 3 from by decide) rfl (Or.inl wd1819) (Or.inl rfl) rfl D147_1 ?_
  refine s_Il gk1 (Or.inr ⟨1, D147_4, rfl⟩) ?_
  refine s_ic D147_5 kc_i_4 (by decide) ?_
  refine s_Bin q_imul n_mul rG2_x rE2_x D147_6 ?_
  refine s_Il gk2 (Or.inr ⟨2, D147_7, rfl⟩) ?_
  refine s_Bin q_iadd n_add rG2_x e_add D147_8 ?_
  refine s_Ial D147_9 ?_
  exact s_Ri (Or.inl rfl) D147_10.1
theorem D148_0 : rDec M148 0 (.iconst 0) 1 1 := ⟨by decide +kernel, rfl⟩
theorem D148_1 : rDec M148 1 (.istore_n 2) 1 2 := ⟨by decide +kernel, rfl⟩
theorem D148_2 : rDec M148 2 (.iload_n 1) 1 3 := ⟨by decide +kernel, rfl⟩
theorem D148_3 : rDec M148 3 (.invokestatic 27) 3 6 := ⟨by decide +kernel, rfl⟩
theorem D148_6 : rDec M148 6 (.iconst 1) 1 7 := ⟨by decide +kernel, rfl⟩
theorem D148_7 : rDec M148 7 (.isub) 1 8 := ⟨by decide +kernel, rfl⟩
theorem D148_8 : rDec M148 8 (.istore_n 3) 1 9 := ⟨by decide +kernel, rfl⟩
theorem D148_9 : rDec M148 9 (.iload_n 3) 1 10 := ⟨by decide +kernel, rfl⟩
theorem D148_10 : rDec M148 10 (.ifCond .lt 22) 3 13 := ⟨by decide +kernel, rfl⟩
theorem D148_13 : rDec M148 13 (.aload_n 0) 1 14 := ⟨by decide +kernel, rfl⟩
theorem D148_14 : rDec M148 14 (.iload_n 2) 1 15 := ⟨by decide +kernel, rfl⟩
theorem D148_15 : rDec M148 15 (.iload_n 1) 1 16 := ⟨by decide +kernel, rfl⟩
theorem D148_16 : rDec M148 16 (.iconst 2) 1 17 := ⟨by decide +kernel, rfl⟩
theorem D148_17 : rDec M148 17 (.iload_n 3) 1 18 := ⟨by decide +kernel, rfl⟩
theorem D148_18 : rDec M148 18 (.imul) 1 19 := ⟨by decide +kernel, rfl⟩
theorem D148_19 : rDec M148 19 (.ishr) 1 20 := ⟨by decide +kernel, rfl⟩
theorem D148_20 : rDec M148 20 (.iconst 3) 1 21 := ⟨by decide +kernel, rfl⟩
theorem D148_21 : rDec M148 21 (.iand) 1 22 := ⟨by decide +kernel, rfl⟩
theorem D148_22 : rDec M148 22 (.invokevirtual 23) 3 25 := ⟨by decide +kernel, rfl⟩
theorem D148_25 : rDec M148 25 (.istore_n 2) 1 26 := ⟨by decide +kernel, rfl⟩
theorem D148_26 : rDec M148 26 (.iinc 3 (-1)) 3 29 := ⟨by decide +kernel, rfl⟩
theorem D148_29 : rDec M148 29 (.goto (-20)) 3 32 := ⟨by decide +kernel, rfl⟩
theorem D148_32 : rDec M148 32 (.aload_n 0) 1 33 := ⟨by decide +kernel, rfl⟩
theorem D148_33 : rDec M148 33 (.getfield 19) 3 36 := ⟨by decide +kernel, rfl⟩
theorem D148_36 : rDec M148 36 (.iload_n 2) 1 37 := ⟨by decide +kernel, rfl⟩
theorem D148_37 : rDec M148 37 (.baload) 1 38 := ⟨by decide +kernel, rfl⟩
theorem D148_38 : rDec M148 38 (.ireturn) 1 39 := ⟨by decide +kernel, rfl⟩
theorem P148_32 : rSnd lab M148 32 B148_32 := by
  refine s_Al gk0 (Or.inr ⟨0, D148_32, rfl⟩) ?_
  refine s_Gf (ci := 19) (r := ("WordWrightModel$Dfa", kT19, 3)) rfl (show 2 < 3 from by decide) rfl (Or.inl wd1821) (Or.inl rfl) rfl D148_33 ?_
  refine s_Il gk2 (Or.inr ⟨2, D148_36, rfl⟩) ?_
  refine s_Ald (t := 1) (ty := .boolean) rfl q_zald rfl D148_37 ?_
  exact s_Ri (Or.inr ⟨rfl, by decide⟩) D148_38.1
theorem P148_9 : rSnd lab M148 9 B148_9 := by
  refine s_Il gk3 (Or.inr ⟨3, D148_9, rfl⟩) ?_
  refine s_If c_lt (fun _ => rfl) (fun _ _ => rfl) (b_lt (tg := 32) (by decide)) D148_10.1 P148_32 (?_ : rSnd _ _ 13 _)
  refine s_Al gk0 (Or.inr ⟨0, D148_13, rfl⟩) ?_
  refine s_Il gk2 (Or.inr ⟨2, D148_14, rfl⟩) ?_
  refine s_Il gk1 (Or.inr ⟨1, D148_15, rfl⟩) ?_
  refine s_ic D148_16 kc_i_2 (by decide) ?_
  refine s_Il gk3 (Or.inr ⟨3, D148_17, rfl⟩) ?_
  refine s_Bin q_imul n_mul rG2_x rE2_x D148_18 ?_
  refine s_Bin q_ishr n_shr g_shr rE2_x D148_19 ?_
  refine s_ic D148_20 kc_i_3 (by decide) ?_
  refine s_Bin q_iand n_and g_and rE2_x D148_21 ?_
  refine s_Cv (ln := 3) (kd := 40) (C := "WordWrightModel$Dfa") (by decide) (by decide +kernel) rfl (l_V rfl ok147 rfl wd2191 wd1739 wd1740 D148_22.1) (?_ : rSnd _ _ 25 _)
  refine s_Is sk2 (show 2 < 4 from by decide) (Or.inr ⟨2, D148_25, rfl⟩) ?_
  refine s_Inc gk3 sk3 (show 3 < 4 from by decide) kc_i_m1 D148_26 ?_
  exact s_Go (pc' := 9) D148_29.1 (by decide) (s_Jb rfl)
theorem P148_0 : rSnd lab M148 0 B148_0 := by
  refine s_Ent ?_
  refine s_ic D148_0 kc_i_0 (by decide) ?_
  refine s_Is sk2 (show 2 < 4 from by decide) (Or.inr ⟨2, D148_1, rfl⟩) ?_
  refine s_Il gk1 (Or.inr ⟨1, D148_2, rfl⟩) ?_
  refine s_Cs (id := 262) rfl (l_SN (j := 18) rfl ok194 rfl rfl wd2401 D148_3.1) (?_ : rSnd _ _ 6 _)
  refine s_ic D148_6 kc_i_1 (by decide) ?_
  refine s_Bin q_isub n_sub rG2_x rE2_x D148_7 ?_
  refine s_Is sk3 (show 3 < 4 from by decide) (Or.inr ⟨3, D148_8, rfl⟩) ?_
  exact P148_9
theorem D149_0 : rDec M149 0 (.aload_n 0) 1 1 := ⟨by decide +kernel, rfl⟩
theorem D149_1 : rDec M149 1 (.invokespecial 3) 3 4 := ⟨by decide +kernel, rfl⟩
theorem D149_4 : rDec M149 4 (.aload_n 0) 1 5 := ⟨by decide +kernel, rfl⟩
theorem D149_5 : rDec M149 5 (.iload_n 1) 1 6 := ⟨by decide +kernel, rfl⟩
theorem D149_6 : rDec M149 6 (.putfield 9) 3 9 := ⟨by decide +kernel, rfl⟩
theorem D149_9 : rDec M149 9 (.aload_n 0) 1 10 := ⟨by decide +kernel, rfl⟩
theorem D149_10 : rDec M149 10 (.iload_n 1) 1 11 := ⟨by decide +kernel, rfl⟩
theorem D149_11 : rDec M149 11 (.iconst 4) 1 12 := ⟨by decide +kernel, rfl⟩
theorem D149_12 : rDec M149 12 (.imul) 1 13 := ⟨by decide +kernel, rfl⟩
theorem D149_13 : rDec M149 13 (.newarray .int) 2 15 := ⟨by decide +kernel, rfl⟩
theorem D149_15 : rDec M149 15 (.putfield 15) 3 18 := ⟨by decide +kernel, rfl⟩
theorem D149_18 : rDec M149 18 (.aload_n 0) 1 19 := ⟨by decide +kernel, rfl⟩
theorem D149_19 : rDec M149 19 (.iload_n 1) 1 20 := ⟨by decide +kernel, rfl⟩
theorem D149_20 : rDec M149 20 (.newarray .boolean) 2 22 := ⟨by decide +kernel, rfl⟩
theorem D149_22 : rDec M149 22 (.putfield 19) 3 25 := ⟨by decide +kernel, rfl⟩
theorem D149_25 : rDec M149 25 (.return_) 1 26 := ⟨by decide +kernel, rfl⟩
theorem P149_0 : rSnd lab M149 0 B149_0 := by
  refine s_Ent ?_
  refine s_Al gk0 (Or.inr ⟨0, D149_0, rfl⟩) ?_
  refine s_Oi rfl wd1811 wd62 wd63 D149_1 ?_
  refine s_Al gk0 (Or.inr ⟨0, D149_4, rfl⟩) ?_
  refine s_Il gk1 (Or.inr ⟨1, D149_5, rfl⟩) ?_
  refine s_Pf (ci := 19) (r := ("WordWrightModel$Dfa", kT19, 3)) rfl (show 0 < 3 from by decide) rfl (Or.inr ⟨rfl, wd1812, rfl, rfl⟩) (Or.inl rfl) rfl (by decide) D149_6 ?_
  refine s_Al gk0 (Or.inr ⟨0, D149_9, rfl⟩) ?_
  refine s_Il gk1 (Or.inr ⟨1, D149_10, rfl⟩) ?_
  refine s_ic D149_11 kc_i_4 (by decide) ?_
  refine s_Bin q_imul n_mul rG2_x rE2_x D149_12 ?_
  refine s_Nwa (t := 0) rfl (q_newa (at_ := .int) (Or.inl rfl)) (fun ht _ => ht _ wd91) D149_13 ?_
  refine s_Pf (ci := 19) (r := ("WordWrightModel$Dfa", kT19, 3)) rfl (show 1 < 3 from by decide) rfl (Or.inr ⟨rfl, wd1819, rfl, rfl⟩) (Or.inl rfl) rfl (by decide) D149_15 ?_
  refine s_Al gk0 (Or.inr ⟨0, D149_18, rfl⟩) ?_
  refine s_Il gk1 (Or.inr ⟨1, D149_19, rfl⟩) ?_
  refine s_Nwa (t := 1) rfl (q_newa (at_ := .boolean) (Or.inr (Or.inr rfl))) (fun ht _ => ht _ wd147) D149_20 ?_
  refine s_Pf (ci := 19) (r := ("WordWrightModel$Dfa", kT19, 3)) rfl (show 2 < 3 from by decide) rfl (Or.inr ⟨rfl, wd1821, rfl, rfl⟩) (Or.inl rfl) rfl (by decide) D149_22 ?_
  exact s_Rv rfl D149_25.1
theorem D150_0 : rDec M150 0 (.aload_n 0) 1 1 := ⟨by decide +kernel, rfl⟩
theorem D150_1 : rDec M150 1 (.invokevirtual 31) 3 4 := ⟨by decide +kernel, rfl⟩
theorem D150_4 : rDec M150 4 (.iconst 0) 1 5 := ⟨by decide +kernel, rfl⟩
theorem D150_5 : rDec M150 5 (.baload) 1 6 := ⟨by decide +kernel, rfl⟩
theorem D150_6 : rDec M150 6 (.ifCond .ne 7) 3 9 := ⟨by decide +kernel, rfl⟩
theorem D150_9 : rDec M150 9 (.iconst 1) 1 10 := ⟨by decide +kernel, rfl⟩
theorem D150_10 : rDec M150 10 (.goto 4) 3 13 := ⟨by decide +kernel, rfl⟩
theorem D150_13 : rDec M150 13 (.iconst 0) 1 14 := ⟨by decide +kernel, rfl⟩
theorem D150_14 : rDec M150 14 (.ireturn) 1 15 := ⟨by decide +kernel, rfl⟩
theorem P150_14 : rSnd lab M150 14 B150_14 := by
  exact s_Ri (Or.inr ⟨rfl, by decide⟩) D150_14.1
theorem P150_13 : rSnd lab M150 13 B150_13 := by
  refine s_ic D150_13 kc_i_0 (by decide) ?_
  exact P150_14
theorem P150_0 : rSnd lab M150 0 B150_0 := by
  refine s_Ent ?_
  refine s_Al gk0 (Or.inr ⟨0, D150_0, rfl⟩) ?_
  refine s_Cv (ln := 3) (kd := 40) (C := "WordWrightModel$Dfa") (by decide) (by decide +kernel) rfl (l_V rfl ok151 rfl wd2377 wd2188 wd2189 D150_1.1) (?_ : rSnd _ _ 4 _)
  refine s_ic D150_4 kc_i_0 (by decide) ?_
  refine s_Ald (t := 1) (ty := .boolean) rfl q_zald rfl D150_5 ?_
  refine s_If c_ne (fun _ => rfl) (fun _ _ => rfl) (b_ne (tg := 13) (by decide)) D150_6.1 P150_13 (?_ : rSnd _ _ 9 _)
  refine s_ic D150_9 kc_i_1 (by decide) ?_
  exact s_Go (pc' := 14) D150_10.1 (by decide) P150_14
theorem D151_0 : rDec M151 0 (.aload_n 0) 1 1 := ⟨by decide +kernel, rfl⟩
theorem D151_1 : rDec M151 1 (.getfield 9) 3 4 := ⟨by decide +kernel, rfl⟩
theorem D151_4 : rDec M151 4 (.newarray .boolean) 2 6 := ⟨by decide +kernel, rfl⟩
theorem D151_6 : rDec M151 6 (.astore_n 1) 1 7 := ⟨by decide +kernel, rfl⟩
theorem D151_7 : rDec M151 7 (.iconst 0) 1 8 := ⟨by decide +kernel, rfl⟩
theorem D151_8 : rDec M151 8 (.istore_n 2) 1 9 := ⟨by decide +kernel, rfl⟩
theorem D151_9 : rDec M151 9 (.iload_n 2) 1 10 := ⟨by decide +kernel, rfl⟩
theorem D151_10 : rDec M151 10 (.aload_n 0) 1 11 := ⟨by decide +kernel, rfl⟩
theorem D151_11 : rDec M151 11 (.getfield 9) 3 14 := ⟨by decide +kernel, rfl⟩
theorem D151_14 : rDec M151 14 (.if_icmp .gt 67) 3 17 := ⟨by decide +kernel, rfl⟩
theorem D151_17 : rDec M151 17 (.iconst 0) 1 18 := ⟨by decide +kernel, rfl⟩
theorem D151_18 : rDec M151 18 (.istore_n 3) 1 19 := ⟨by decide +kernel, rfl⟩
theorem D151_19 : rDec M151 19 (.iload_n 3) 1 20 := ⟨by decide +kernel, rfl⟩
theorem D151_20 : rDec M151 20 (.aload_n 0) 1 21 := ⟨by decide +kernel, rfl⟩
theorem D151_21 : rDec M151 21 (.getfield 9) 3 24 := ⟨by decide +kernel, rfl⟩
theorem D151_24 : rDec M151 24 (.if_icmp .ge 51) 3 27 := ⟨by decide +kernel, rfl⟩
theorem D151_27 : rDec M151 27 (.aload_n 1) 1 28 := ⟨by decide +kernel, rfl⟩
theorem D151_28 : rDec M151 28 (.iload_n 3) 1 29 := ⟨by decide +kernel, rfl⟩
theorem D151_29 : rDec M151 29 (.dup2) 1 30 := ⟨by decide +kernel, rfl⟩
theorem D151_30 : rDec M151 30 (.baload) 1 31 := ⟨by decide +kernel, rfl⟩
theorem D151_31 : rDec M151 31 (.aload_n 0) 1 32 := ⟨by decide +kernel, rfl⟩
theorem D151_32 : rDec M151 32 (.getfield 19) 3 35 := ⟨by decide +kernel, rfl⟩
theorem D151_35 : rDec M151 35 (.iload_n 3) 1 36 := ⟨by decide +kernel, rfl⟩
theorem D151_36 : rDec M151 36 (.baload) 1 37 := ⟨by decide +kernel, rfl⟩
theorem D151_37 : rDec M151 37 (.ior) 1 38 := ⟨by decide +kernel, rfl⟩
theorem D151_38 : rDec M151 38 (.bastore) 1 39 := ⟨by decide +kernel, rfl⟩
theorem D151_39 : rDec M151 39 (.iconst 0) 1 40 := ⟨by decide +kernel, rfl⟩
theorem D151_40 : rDec M151 40 (.istore 4) 2 42 := ⟨by decide +kernel, rfl⟩
theorem D151_42 : rDec M151 42 (.iload 4) 2 44 := ⟨by decide +kernel, rfl⟩
theorem D151_44 : rDec M151 44 (.iconst 4) 1 45 := ⟨by decide +kernel, rfl⟩
theorem D151_45 : rDec M151 45 (.if_icmp .ge 24) 3 48 := ⟨by decide +kernel, rfl⟩
theorem D151_48 : rDec M151 48 (.aload_n 1) 1 49 := ⟨by decide +kernel, rfl⟩
theorem D151_49 : rDec M151 49 (.iload_n 3) 1 50 := ⟨by decide +kernel, rfl⟩
theorem D151_50 : rDec M151 50 (.dup2) 1 51 := ⟨by decide +kernel, rfl⟩
theorem D151_51 : rDec M151 51 (.baload) 1 52 := ⟨by decide +kernel, rfl⟩
theorem D151_52 : rDec M151 52 (.aload_n 1) 1 53 := ⟨by decide +kernel, rfl⟩
theorem D151_53 : rDec M151 53 (.aload_n 0) 1 54 := ⟨by decide +kernel, rfl⟩
theorem D151_54 : rDec M151 54 (.iload_n 3) 1 55 := ⟨by decide +kernel, rfl⟩
theorem D151_55 : rDec M151 55 (.iload 4) 2 57 := ⟨by decide +kernel, rfl⟩
theorem D151_57 : rDec M151 57 (.invokevirtual 23) 3 60 := ⟨by decide +kernel, rfl⟩
theorem D151_60 : rDec M151 60 (.baload) 1 61 := ⟨by decide +kernel, rfl⟩
theorem D151_61 : rDec M151 61 (.ior) 1 62 := ⟨by decide +kernel, rfl⟩
theorem D151_62 : rDec M151 62 (.bastore) 1 63 := ⟨by decide +kernel, rfl⟩
theorem D151_63 : rDec M151 63 (.iinc 4 1) 3 66 := ⟨by decide +kernel, rfl⟩
theorem D151_66 : rDec M151 66 (.goto (-24)) 3 69 := ⟨by decide +kernel, rfl⟩
theorem D151_69 : rDec M151 69 (.iinc 3 1) 3 72 := ⟨by decide +kernel, rfl⟩
theorem D151_72 : rDec M151 72 (.goto (-53)) 3 75 := ⟨by decide +kernel, rfl⟩
theorem D151_75 : rDec M151 75 (.iinc 2 1) 3 78 := ⟨by decide +kernel, rfl⟩
theorem D151_78 : rDec M151 78 (.goto (-69)) 3 81 := ⟨by decide +kernel, rfl⟩
theorem D151_81 : rDec M151 81 (.aload_n 1) 1 82 := ⟨by decide +kernel, rfl⟩
theorem D151_82 : rDec M151 82 (.areturn) 1 83 := ⟨by decide +kernel, rfl⟩
theorem P151_81 : rSnd lab M151 81 B151_81 := by
  refine s_Al gk1 (Or.inr ⟨1, D151_81, rfl⟩) ?_
  exact s_Ra (Or.inr ⟨_, rfl⟩) D151_82.1
theorem P151_75 : rSnd lab M151 75 B151_75 := by
  refine s_Inc gk2 sk2 (show 2 < 5 from by decide) kc_i_1 D151_75 ?_
  exact s_Go (pc' := 9) D151_78.1 (by decide) (s_Jb rfl)
theorem P151_69 : rSnd lab M151 69 B151_69 := by
  refine s_Inc gk3 sk3 (show 3 < 5 from by decide) kc_i_1 D151_69 ?_
  exact s_Go (pc' := 19) D151_72.1 (by decide) (s_Jb rfl)
theorem P151_42 : rSnd lab M151 42 B151_42 := by
  refine s_Il gk4 (Or.inl D151_42) ?_
  refine s_ic D151_44 kc_i_4 (by decide) ?_
  refine s_Ic c_ge (i_ge (tg := 69) (by decide)) D151_45.1 P151_69 (?_ : rSnd _ _ 48 _)
  refine s_Al gk1 (Or.inr ⟨1, D151_48, rfl⟩) ?_
  refine s_Il gk3 (Or.inr ⟨3, D151_49, rfl⟩) ?_
  refine s_Dup2 D151_50 ?_
  refine s_Ald (t := 1) (ty := .boolean) rfl q_zald rfl D151_51 ?_
  refine s_Al gk1 (Or.inr ⟨1, D151_52, rfl⟩) ?_
  refine s_Al gk0 (Or.inr ⟨0, D151_53, rfl⟩) ?_
  refine s_Il gk3 (Or.inr ⟨3, D151_54, rfl⟩) ?_
  refine s_Il gk4 (Or.inl D151_55) ?_
  refine s_Cv (ln := 3) (kd := 40) (C := "WordWrightModel$Dfa") (by decide) (by decide +kernel) rfl (l_V rfl ok147 rfl wd2191 wd1739 wd1740 D151_57.1) (?_ : rSnd _ _ 60 _)
  refine s_Ald (t := 1) (ty := .boolean) rfl q_zald rfl D151_60 ?_
  refine s_Bin q_ior n_or rG2_x rE2_x D151_61 ?_
  refine s_Ast (t := 1) rfl q_zast rfl (by decide) D151_62 ?_
  refine s_Inc gk4 sk4 (show 4 < 5 from by decide) kc_i_1 D151_63 ?_
  exact s_Go (pc' := 42) D151_66.1 (by decide) (s_Jb rfl)
theorem P151_19 : rSnd lab M151 19 B151_19 := by
  refine s_Il gk3 (Or.inr ⟨3, D151_19, rfl⟩) ?_
  refine s_Al gk0 (Or.inr ⟨0, D151_20, rfl⟩) ?_
  refine s_Gf (ci := 19) (r := ("WordWrightModel$Dfa", kT19, 3)) rfl (show 0 < 3 from by decide) rfl (Or.inl wd1812) (Or.inl rfl) rfl D151_21 ?_
  refine s_Ic c_ge (i_ge (tg := 75) (by decide)) D151_24.1 P151_75 (?_ : rSnd _ _ 27 _)
  refine s_Al gk1 (Or.inr ⟨1, D151_27, rfl⟩) ?_
  refine s_Il gk3 (Or.inr ⟨3, D151_28, rfl⟩) ?_
  refine s_Dup2 D151_29 ?_
  refine s_Ald (t := 1) (ty := .boolean) rfl q_zald rfl D151_30 ?_
  refine s_Al gk0 (Or.inr ⟨0, D151_31, rfl⟩) ?_
  refine s_Gf (ci := 19) (r := ("WordWrightModel$Dfa", kT19, 3)) rfl (show 2 < 3 from by decide) rfl (Or.inl wd1821) (Or.inl rfl) rfl D151_32 ?_
  refine s_Il gk3 (Or.inr ⟨3, D151_35, rfl⟩) ?_
  refine s_Ald (t := 1) (ty := .boolean) rfl q_zald rfl D151_36 ?_
  refine s_Bin q_ior n_or rG2_x rE2_x D151_37 ?_
  refine s_Ast (t := 1) rfl q_zast rfl (by decide) D151_38 ?_
  refine s_ic D151_39 kc_i_0 (by decide) ?_
  refine s_Is sk4 (show 4 < 5 from by decide) (Or.inl D151_40) ?_
  exact P151_42
theorem P151_9 : rSnd lab M151 9 B151_9 := by
  refine s_Il gk2 (Or.inr ⟨2, D151_9, rfl⟩) ?_
  refine s_Al gk0 (Or.inr ⟨0, D151_10, rfl⟩) ?_
  refine s_Gf (ci := 19) (r := ("WordWrightModel$Dfa", kT19, 3)) rfl (show 0 < 3 from by decide) rfl (Or.inl wd1812) (Or.inl rfl) rfl D151_11 ?_
  refine s_Ic c_gt (i_gt (tg := 81) (by decide)) D151_14.1 P151_81 (?_ : rSnd _ _ 17 _)
  refine s_ic D151_17 kc_i_0 (by decide) ?_
  refine s_Is sk3 (show 3 < 5 from by decide) (Or.inr ⟨3, D151_18, rfl⟩) ?_
  exact P151_19
theorem P151_0 : rSnd lab M151 0 B151_0 := by
  refine s_Ent ?_
  refine s_Al gk0 (Or.inr ⟨0, D151_0, rfl⟩) ?_
  refine s_Gf (ci := 19) (r := ("WordWrightModel$Dfa", kT19, 3)) rfl (show 0 < 3 from by decide) rfl (Or.inl wd1812) (Or.inl rfl) rfl D151_1 ?_
  refine s_Nwa (t := 1) rfl (q_newa (at_ := .boolean) (Or.inr (Or.inr rfl))) (fun ht _ => ht _ wd147) D151_4 ?_
  refine s_As sk1 (show 1 < 5 from by decide) (Or.inr ⟨1, D151_6, rfl⟩) ?_
  refine s_ic D151_7 kc_i_0 (by decide) ?_
  refine s_Is sk2 (show 2 < 5 from by decide) (Or.inr ⟨2, D151_8, rfl⟩) ?_
  exact P151_9
theorem D152_0 : rDec M152 0 (.aload_n 0) 1 1 := ⟨by decide +kernel, rfl⟩
theorem D152_1 : rDec M152 1 (.getfield 9) 3 4 := ⟨by decide +kernel, rfl⟩
theorem D152_4 : rDec M152 4 (.aload_n 1) 1 5 := ⟨by decide +kernel, rfl⟩
theorem D152_5 : rDec M152 5 (.getfield 9) 3 8 := ⟨by decide +kernel, rfl⟩
theorem D152_8 : rDec M152 8 (.if_icmp .ne 7) 3 11 := ⟨by decide +kernel, rfl⟩
theorem D152_11 : rDec M152 11 (.iconst 1) 1 12 := ⟨by decide +kernel, rfl⟩
theorem D152_12 : rDec M152 12 (.goto 4) 3 15 := ⟨by decide +kernel, rfl⟩
theorem D152_15 : rDec M152 15 (.iconst 0) 1 16 := ⟨by decide +kernel, rfl⟩
theorem D152_16 : rDec M152 16 (.istore_n 2) 1 17 := ⟨by decide +kernel, rfl⟩
theorem D152_17 : rDec M152 17 (.iconst 0) 1 18 := ⟨by decide +kernel, rfl⟩
theorem D152_18 : rDec M152 18 (.istore_n 3) 1 19 := ⟨by decide +kernel, rfl⟩
theorem D152_19 : rDec M152 19 (.iload_n 3) 1 20 := ⟨by decide +kernel, rfl⟩
theorem D152_20 : rDec M152 20 (.aload_n 0) 1 21 := ⟨by decide +kernel, rfl⟩
theorem D152_21 : rDec M152 21 (.getfield 9) 3 24 := ⟨by decide +kernel, rfl⟩
theorem D152_24 : rDec M152 24 (.if_icmp .ge 74) 3 27 := ⟨by decide +kernel, rfl⟩
theorem D152_27 : rDec M152 27 (.iload_n 2) 1 28 := ⟨by decide +kernel, rfl⟩
theorem D152_28 : rDec M152 28 (.ifCond .eq 70) 3 31 := ⟨by decide +kernel, rfl⟩
theorem D152_31 : rDec M152 31 (.aload_n 0) 1 32 := ⟨by decide +kernel, rfl⟩
theorem D152_32 : rDec M152 32 (.getfield 19) 3 35 := ⟨by decide +kernel, rfl⟩
theorem D152_35 : rDec M152 35 (.iload_n 3) 1 36 := ⟨by decide +kernel, rfl⟩
theorem D152_36 : rDec M152 36 (.baload) 1 37 := ⟨by decide +kernel, rfl⟩
theorem D152_37 : rDec M152 37 (.aload_n 1) 1 38 := ⟨by decide +kernel, rfl⟩
theorem D152_38 : rDec M152 38 (.getfield 19) 3 41 := ⟨by decide +kernel, rfl⟩
theorem D152_41 : rDec M152 41 (.iload_n 3) 1 42 := ⟨by decide +kernel, rfl⟩
theorem D152_42 : rDec M152 42 (.baload) 1 43 := ⟨by decide +kernel, rfl⟩
theorem D152_43 : rDec M152 43 (.if_icmp .ne 7) 3 46 := ⟨by decide +kernel, rfl⟩
theorem D152_46 : rDec M152 46 (.iconst 1) 1 47 := ⟨by decide +kernel, rfl⟩
theorem D152_47 : rDec M152 47 (.goto 4) 3 50 := ⟨by decide +kernel, rfl⟩
theorem D152_50 : rDec M152 50 (.iconst 0) 1 51 := ⟨by decide +kernel, rfl⟩
theorem D152_51 : rDec M152 51 (.istore_n 2) 1 52 := ⟨by decide +kernel, rfl⟩
theorem D152_52 : rDec M152 52 (.iconst 0) 1 53 := ⟨by decide +kernel, rfl⟩
theorem D152_53 : rDec M152 53 (.istore 4) 2 55 := ⟨by decide +kernel, rfl⟩
theorem D152_55 : rDec M152 55 (.iload 4) 2 57 := ⟨by decide +kernel, rfl⟩
theorem D152_57 : rDec M152 57 (.iconst 4) 1 58 := ⟨by decide +kernel, rfl⟩
theorem D152_58 : rDec M152 58 (.if_icmp .ge 34) 3 61 := ⟨by decide +kernel, rfl⟩
theorem D152_61 : rDec M152 61 (.iload_n 2) 1 62 := ⟨by decide +kernel, rfl⟩
theorem D152_62 : rDec M152 62 (.aload_n 0) 1 63 := ⟨by decide +kernel, rfl⟩
theorem D152_63 : rDec M152 63 (.iload_n 3) 1 64 := ⟨by decide +kernel, rfl⟩
theorem D152_64 : rDec M152 64 (.iload 4) 2 66 := ⟨by decide +kernel, rfl⟩
theorem D152_66 : rDec M152 66 (.invokevirtual 23) 3 69 := ⟨by decide +kernel, rfl⟩
theorem D152_69 : rDec M152 69 (.aload_n 1) 1 70 := ⟨by decide +kernel, rfl⟩
theorem D152_70 : rDec M152 70 (.iload_n 3) 1 71 := ⟨by decide +kernel, rfl⟩
theorem D152_71 : rDec M152 71 (.iload 4) 2 73 := ⟨by decide +kernel, rfl⟩
theorem D152_73 : rDec M152 73 (.invokevirtual 23) 3 76 := ⟨by decide +kernel, rfl⟩
theorem D152_76 : rDec M152 76 (.if_icmp .ne 7) 3 79 := ⟨by decide +kernel, rfl⟩
theorem D152_79 : rDec M152 79 (.iconst 1) 1 80 := ⟨by decide +kernel, rfl⟩
theorem D152_80 : rDec M152 80 (.goto 4) 3 83 := ⟨by decide +kernel, rfl⟩
theorem D152_84 : rDec M152 84 (.iand) 1 85 := ⟨by decide +kernel, rfl⟩
theorem D152_85 : rDec M152 85 (.istore_n 2) 1 86 := ⟨by decide +kernel, rfl⟩
theorem D152_86 : rDec M152 86 (.iinc 4 1) 3 89 := ⟨by decide +kernel, rfl⟩
theorem D152_89 : rDec M152 89 (.goto (-34)) 3 92 := ⟨by decide +kernel, rfl⟩
theorem D152_92 : rDec M152 92 (.iinc 3 1) 3 95 := ⟨by decide +kernel, rfl⟩
theorem D152_95 : rDec M152 95 (.goto (-76)) 3 98 := ⟨by decide +kernel, rfl⟩
theorem D152_98 : rDec M152 98 (.iload_n 2) 1 99 := ⟨by decide +kernel, rfl⟩
theorem D152_99 : rDec M152 99 (.ireturn) 1 100 := ⟨by decide +kernel, rfl⟩
theorem P152_98 : rSnd lab M152 98 B152_98 := by
  refine s_Il gk2 (Or.inr ⟨2, D152_98, rfl⟩) ?_
  exact s_Ri (Or.inr ⟨rfl, by decide⟩) D152_99.1
theorem P152_92 : rSnd lab M152 92 B152_92 := by
  refine s_Inc gk3 sk3 (show 3 < 5 from by decide) kc_i_1 D152_92 ?_
  exact s_Go (pc' := 19) D152_95.1 (by decide) (s_Jb rfl)
theorem P152_84 : rSnd lab M152 84 B152_84 := by
  refine s_Bin q_iand n_and g_and rE2_x D152_84 ?_
  refine s_Is sk2 (show 2 < 5 from by decide) (Or.inr ⟨2, D152_85, rfl⟩) ?_
  refine s_Inc gk4 sk4 (show 4 < 5 from by decide) kc_i_1 D152_86 ?_
  exact s_Go (pc' := 55) D152_89.1 (by decide) (s_Jb rfl)
theorem P152_55 : rSnd lab M152 55 B152_55 := by
  refine s_Il gk4 (Or.inl D152_55) ?_
  refine s_ic D152_57 kc_i_4 (by decide) ?_
  refine s_Ic c_ge (i_ge (tg := 92) (by decide)) D152_58.1 P152_92 (?_ : rSnd _ _ 61 _)
  refine s_Il gk2 (Or.inr ⟨2, D152_61, rfl⟩) ?_
  refine s_Al gk0 (Or.inr ⟨0, D152_62, rfl⟩) ?_
  refine s_Il gk3 (Or.inr ⟨3, D152_63, rfl⟩) ?_
  refine s_Il gk4 (Or.inl D152_64) ?_
  refine s_Cv (ln := 3) (kd := 40) (C := "WordWrightModel$Dfa") (by decide) (by decide +kernel) rfl (l_V rfl ok147 rfl wd2191 wd1739 wd1740 D152_66.1) (?_ : rSnd _ _ 69 _)
  refine s_Al gk1 (Or.inr ⟨1, D152_69, rfl⟩) ?_
  refine s_Il gk3 (Or.inr ⟨3, D152_70, rfl⟩) ?_
  refine s_Il gk4 (Or.inl D152_71) ?_
  refine s_Cv (ln := 3) (kd := 40) (C := "WordWrightModel$Dfa") (by decide) (by decide +kernel) rfl (l_V rfl ok147 rfl wd2191 wd1739 wd1740 D152_73.1) (?_ : rSnd _ _ 76 _)
  refine s_Ic c_ne (i_ne (tg := 83) (by decide)) D152_76.1 rSnd_none (?_ : rSnd _ _ 79 _)
  refine s_ic D152_79 kc_i_1 (by decide) ?_
  exact s_Go (pc' := 84) D152_80.1 (by decide) P152_84
theorem P152_51 : rSnd lab M152 51 B152_51 := by
  refine s_Is sk2 (show 2 < 5 from by decide) (Or.inr ⟨2, D152_51, rfl⟩) ?_
  refine s_ic D152_52 kc_i_0 (by decide) ?_
  refine s_Is sk4 (show 4 < 5 from by decide) (Or.inl D152_53) ?_
  exact P152_55
theorem P152_50 : rSnd lab M152 50 B152_50 := by
  refine s_ic D152_50 kc_i_0 (by decide) ?_
  exact P152_51
theorem P152_19 : rSnd lab M152 19 B152_19 := by
  refine s_Il gk3 (Or.inr ⟨3, D152_19, rfl⟩) ?_
  refine s_Al gk0 (Or.inr ⟨0, D152_20, rfl⟩) ?_
  refine s_Gf (ci := 19) (r := ("WordWrightModel$Dfa", kT19, 3)) rfl (show 0 < 3 from by decide) rfl (Or.inl wd1812) (Or.inl rfl) rfl D152_21 ?_
  refine s_Ic c_ge (i_ge (tg := 98) (by decide)) D152_24.1 P152_98 (?_ : rSnd _ _ 27 _)
  refine s_Il gk2 (Or.inr ⟨2, D152_27, rfl⟩) ?_
  refine s_If c_eq (fun _ => rfl) (fun _ _ => rfl) (b_eq (tg := 98) (by decide)) D152_28.1 P152_98 (?_ : rSnd _ _ 31 _)
  refine s_Al gk0 (Or.inr ⟨0, D152_31, rfl⟩) ?_
  refine s_Gf (ci := 19) (r := ("WordWrightModel$Dfa", kT19, 3)) rfl (show 2 < 3 from by decide) rfl (Or.inl wd1821) (Or.inl rfl) rfl D152_32 ?_
  refine s_Il gk3 (Or.inr ⟨3, D152_35, rfl⟩) ?_
  refine s_Ald (t := 1) (ty := .boolean) rfl q_zald rfl D152_36 ?_
  refine s_Al gk1 (Or.inr ⟨1, D152_37, rfl⟩) ?_
  refine s_Gf (ci := 19) (r := ("WordWrightModel$Dfa", kT19, 3)) rfl (show 2 < 3 from by decide) rfl (Or.inl wd1821) (Or.inl rfl) rfl D152_38 ?_
  refine s_Il gk3 (Or.inr ⟨3, D152_41, rfl⟩) ?_
  refine s_Ald (t := 1) (ty := .boolean) rfl q_zald rfl D152_42 ?_
  refine s_Ic c_ne (i_ne (tg := 50) (by decide)) D152_43.1 P152_50 (?_ : rSnd _ _ 46 _)
  refine s_ic D152_46 kc_i_1 (by decide) ?_
  exact s_Go (pc' := 51) D152_47.1 (by decide) P152_51
theorem P152_16 : rSnd lab M152 16 B152_16 := by
  refine s_Is sk2 (show 2 < 5 from by decide) (Or.inr ⟨2, D152_16, rfl⟩) ?_
  refine s_ic D152_17 kc_i_0 (by decide) ?_
  refine s_Is sk3 (show 3 < 5 from by decide) (Or.inr ⟨3, D152_18, rfl⟩) ?_
  exact P152_19
theorem P152_15 : rSnd lab M152 15 B152_15 := by
  refine s_ic D152_15 kc_i_0 (by decide) ?_
  exact P152_16
theorem P152_0 : rSnd lab M152 0 B152_0 := by
  refine s_Ent ?_
  refine s_Al gk0 (Or.inr ⟨0, D152_0, rfl⟩) ?_
  refine s_Gf (ci := 19) (r := ("WordWrightModel$Dfa", kT19, 3)) rfl (show 0 < 3 from by decide) rfl (Or.inl wd1812) (Or.inl rfl) rfl D152_1 ?_
  refine s_Al gk1 (Or.inr ⟨1, D152_4, rfl⟩) ?_
  refine s_Gf (ci := 19) (r := ("WordWrightModel$Dfa", kT19, 3)) rfl (show 0 < 3 from by decide) rfl (Or.inl wd1812) (Or.inl rfl) rfl D152_5 ?_
  refine s_Ic c_ne (i_ne (tg := 15) (by decide)) D152_8.1 P152_15 (?_ : rSnd _ _ 11 _)
  refine s_ic D152_11 kc_i_1 (by decide) ?_
  exact s_Go (pc' := 16) D152_12.1 (by decide) P152_16
