-- ===== rows and blocks, 4 =====
theorem D82_0 : rDec M82 0 (.iload_n 2) 1 1 := ⟨by decide +kernel, rfl⟩
theorem D82_1 : rDec M82 1 (.tableswitch 83 0 4 #[35, 40, 45, 54, 67]) 35 36 := ⟨by decide +kernel, rfl⟩
theorem D82_36 : rDec M82 36 (.aload_n 1) 1 37 := ⟨by decide +kernel, rfl⟩
theorem D82_37 : rDec M82 37 (.getfield 131) 3 40 := ⟨by decide +kernel, rfl⟩
theorem D82_40 : rDec M82 40 (.ireturn) 1 41 := ⟨by decide +kernel, rfl⟩
theorem D82_41 : rDec M82 41 (.aload_n 1) 1 42 := ⟨by decide +kernel, rfl⟩
theorem D82_42 : rDec M82 42 (.getfield 427) 3 45 := ⟨by decide +kernel, rfl⟩
theorem D82_45 : rDec M82 45 (.ireturn) 1 46 := ⟨by decide +kernel, rfl⟩
theorem D82_46 : rDec M82 46 (.aload_n 0) 1 47 := ⟨by decide +kernel, rfl⟩
theorem D82_47 : rDec M82 47 (.getfield 40) 3 50 := ⟨by decide +kernel, rfl⟩
theorem D82_50 : rDec M82 50 (.aload_n 1) 1 51 := ⟨by decide +kernel, rfl⟩
theorem D82_51 : rDec M82 51 (.invokevirtual 428) 3 54 := ⟨by decide +kernel, rfl⟩
theorem D82_54 : rDec M82 54 (.ireturn) 1 55 := ⟨by decide +kernel, rfl⟩
theorem D82_55 : rDec M82 55 (.aload_n 1) 1 56 := ⟨by decide +kernel, rfl⟩
theorem D82_56 : rDec M82 56 (.invokevirtual 432) 3 59 := ⟨by decide +kernel, rfl⟩
theorem D82_59 : rDec M82 59 (.ifCond .eq 7) 3 62 := ⟨by decide +kernel, rfl⟩
theorem D82_62 : rDec M82 62 (.iconst 1) 1 63 := ⟨by decide +kernel, rfl⟩
theorem D82_63 : rDec M82 63 (.goto 4) 3 66 := ⟨by decide +kernel, rfl⟩
theorem D82_66 : rDec M82 66 (.iconst 0) 1 67 := ⟨by decide +kernel, rfl⟩
theorem D82_67 : rDec M82 67 (.ireturn) 1 68 := ⟨by decide +kernel, rfl⟩
theorem D82_68 : rDec M82 68 (.aload_n 1) 1 69 := ⟨by decide +kernel, rfl⟩
theorem D82_69 : rDec M82 69 (.invokevirtual 432) 3 72 := ⟨by decide +kernel, rfl⟩
theorem D82_72 : rDec M82 72 (.ifCond .eq 7) 3 75 := ⟨by decide +kernel, rfl⟩
theorem D82_75 : rDec M82 75 (.iconst (-1)) 1 76 := ⟨by decide +kernel, rfl⟩
theorem D82_76 : rDec M82 76 (.goto 7) 3 79 := ⟨by decide +kernel, rfl⟩
theorem D82_79 : rDec M82 79 (.aload_n 1) 1 80 := ⟨by decide +kernel, rfl⟩
theorem D82_80 : rDec M82 80 (.invokevirtual 436) 3 83 := ⟨by decide +kernel, rfl⟩
theorem D82_83 : rDec M82 83 (.ireturn) 1 84 := ⟨by decide +kernel, rfl⟩
theorem D82_84 : rDec M82 84 (.aload_n 1) 1 85 := ⟨by decide +kernel, rfl⟩
theorem D82_85 : rDec M82 85 (.bipush 15) 2 87 := ⟨by decide +kernel, rfl⟩
theorem D82_87 : rDec M82 87 (.invokevirtual 439) 3 90 := ⟨by decide +kernel, rfl⟩
theorem D82_90 : rDec M82 90 (.ireturn) 1 91 := ⟨by decide +kernel, rfl⟩
theorem P82_84 : rSnd lab M82 84 B82_84 := by
  refine s_Al gk1 (Or.inr ⟨1, D82_84, rfl⟩) ?_
  refine s_bi D82_85 kc_b_15 (by decide) ?_
  refine s_Cv (ln := 3) (kd := 8) (C := "WordWright$Language") (by decide) (by decide +kernel) rfl (l_V rfl ok242 rfl wd790 wd791 wd792 D82_87.1) (?_ : rSnd _ _ 90 _)
  exact s_Ri (Or.inl rfl) D82_90.1
theorem P82_83 : rSnd lab M82 83 B82_83 := by
  exact s_Ri (Or.inl rfl) D82_83.1
theorem P82_79 : rSnd lab M82 79 B82_79 := by
  refine s_Al gk1 (Or.inr ⟨1, D82_79, rfl⟩) ?_
  refine s_Cv (ln := 3) (kd := 8) (C := "WordWright$Language") (by decide) (by decide +kernel) rfl (l_V rfl ok244 rfl wd789 wd785 wd786 D82_80.1) (?_ : rSnd _ _ 83 _)
  exact P82_83
theorem P82_68 : rSnd lab M82 68 B82_68 := by
  refine s_Al gk1 (Or.inr ⟨1, D82_68, rfl⟩) ?_
  refine s_Cv (ln := 3) (kd := 8) (C := "WordWright$Language") (by decide) (by decide +kernel) rfl (l_V rfl ok241 rfl wd780 wd781 wd782 D82_69.1) (?_ : rSnd _ _ 72 _)
  refine s_If c_eq (fun _ => rfl) (fun _ _ => rfl) (b_eq (tg := 79) (by decide)) D82_72.1 P82_79 (?_ : rSnd _ _ 75 _)
  refine s_ic D82_75 kc_i_m1 (by decide) ?_
  exact s_Go (pc' := 83) D82_76.1 (by decide) P82_83
theorem P82_67 : rSnd lab M82 67 B82_67 := by
  exact s_Ri (Or.inl rfl) D82_67.1
theorem P82_66 : rSnd lab M82 66 B82_66 := by
  refine s_ic D82_66 kc_i_0 (by decide) ?_
  exact P82_67
theorem P82_55 : rSnd lab M82 55 B82_55 := by
  refine s_Al gk1 (Or.inr ⟨1, D82_55, rfl⟩) ?_
  refine s_Cv (ln := 3) (kd := 8) (C := "WordWright$Language") (by decide) (by decide +kernel) rfl (l_V rfl ok241 rfl wd780 wd781 wd782 D82_56.1) (?_ : rSnd _ _ 59 _)
  refine s_If c_eq (fun _ => rfl) (fun _ _ => rfl) (b_eq (tg := 66) (by decide)) D82_59.1 P82_66 (?_ : rSnd _ _ 62 _)
  refine s_ic D82_62 kc_i_1 (by decide) ?_
  exact s_Go (pc' := 67) D82_63.1 (by decide) P82_67
theorem P82_46 : rSnd lab M82 46 B82_46 := by
  refine s_Al gk0 (Or.inr ⟨0, D82_46, rfl⟩) ?_
  refine s_Gf (ci := 0) (r := ("WordWright", kT0, 13)) rfl (show 7 < 13 from by decide) rfl (Or.inl wd443) (Or.inl rfl) rfl D82_47 ?_
  refine s_Al gk1 (Or.inr ⟨1, D82_50, rfl⟩) ?_
  refine s_Cv (ln := 3) (kd := 16) (C := "WordWright$Search") (by decide) (by decide +kernel) rfl (l_V rfl ok266 rfl wd776 wd777 wd778 D82_51.1) (?_ : rSnd _ _ 54 _)
  exact s_Ri (Or.inl rfl) D82_54.1
theorem P82_41 : rSnd lab M82 41 B82_41 := by
  refine s_Al gk1 (Or.inr ⟨1, D82_41, rfl⟩) ?_
  refine s_Gf (ci := 3) (r := ("WordWright$Language", kT3, 3)) rfl (show 1 < 3 from by decide) rfl (Or.inl wd80) (Or.inl rfl) rfl D82_42 ?_
  exact s_Ri (Or.inl rfl) D82_45.1
theorem P82_36 : rSnd lab M82 36 B82_36 := by
  refine s_Al gk1 (Or.inr ⟨1, D82_36, rfl⟩) ?_
  refine s_Gf (ci := 3) (r := ("WordWright$Language", kT3, 3)) rfl (show 0 < 3 from by decide) rfl (Or.inl wd74) (Or.inl rfl) rfl D82_37 ?_
  exact s_Ri (Or.inl rfl) D82_40.1
theorem P82_0 : rSnd lab M82 0 B82_0 := by
  refine s_Ent ?_
  refine s_Il gk2 (Or.inr ⟨2, D82_0, rfl⟩) ?_
  exact s_Tsw (tgd := 84) D82_1.1 rfl (by decide) (by decide) ⟨⟨36, by decide, P82_36⟩, ⟨41, by decide, P82_41⟩, ⟨46, by decide, P82_46⟩, ⟨55, by decide, P82_55⟩, ⟨68, by decide, P82_68⟩, trivial⟩ (by decide) P82_84
theorem D83_0 : rDec M83 0 (.aload_n 0) 1 1 := ⟨by decide +kernel, rfl⟩
theorem D83_1 : rDec M83 1 (.iload_n 1) 1 2 := ⟨by decide +kernel, rfl⟩
theorem D83_2 : rDec M83 2 (.invokevirtual 274) 3 5 := ⟨by decide +kernel, rfl⟩
theorem D83_5 : rDec M83 5 (.ifCond .eq 10) 3 8 := ⟨by decide +kernel, rfl⟩
theorem D83_15 : rDec M83 15 (.new 120) 3 18 := ⟨by decide +kernel, rfl⟩
theorem D83_18 : rDec M83 18 (.dup) 1 19 := ⟨by decide +kernel, rfl⟩
theorem D83_19 : rDec M83 19 (.ldc_w 277) 3 22 := ⟨by decide +kernel, rfl⟩
theorem D83_22 : rDec M83 22 (.invokespecial 124) 3 25 := ⟨by decide +kernel, rfl⟩
theorem D83_25 : rDec M83 25 (.athrow) 1 26 := ⟨by decide +kernel, rfl⟩
theorem P83_15 : rSnd lab M83 15 B83_15 := by
  exact s_Thr (ik := 120) (is := 277) (ic := 124) (text := "no such SCHEMA, or LETTER") (names := ["java/lang/RuntimeException", "java/lang/Exception"]) true rfl rfl (by decide) (by decide +kernel) (by decide +kernel) (by decide) rfl wd1351 wd38 (List.mem_of_getElem? (i := 2) rfl) at_WordWright_124 at_WordWright_124g D83_15.1 D83_18.1 (Or.inr ⟨rfl, D83_19.1, D83_22.1, D83_25.1⟩)
theorem P83_0 : rSnd lab M83 0 B83_0 := by
  refine s_Ent ?_
  refine s_Al gk0 (Or.inr ⟨0, D83_0, rfl⟩) ?_
  refine s_Il gk1 (Or.inr ⟨1, D83_1, rfl⟩) ?_
  refine s_Cv (ln := 3) (kd := 2) (C := "WordWright") (by decide) (by decide +kernel) rfl (l_V rfl ok77 rfl wd1560 wd1562 ws56 D83_2.1) (?_ : rSnd _ _ 5 _)
  refine s_If c_eq (fun _ => rfl) (fun _ _ => rfl) (b_eq (tg := 15) (by decide)) D83_5.1 P83_15 (?_ : rSnd _ _ 8 _)
  exact rSnd_none
theorem D84_0 : rDec M84 0 (.bipush 31) 2 2 := ⟨by decide +kernel, rfl⟩
theorem D84_2 : rDec M84 2 (.iload_n 0) 1 3 := ⟨by decide +kernel, rfl⟩
theorem D84_3 : rDec M84 3 (.invokestatic 379) 3 6 := ⟨by decide +kernel, rfl⟩
theorem D84_6 : rDec M84 6 (.isub) 1 7 := ⟨by decide +kernel, rfl⟩
theorem D84_7 : rDec M84 7 (.iconst 2) 1 8 := ⟨by decide +kernel, rfl⟩
theorem D84_8 : rDec M84 8 (.idiv) 1 9 := ⟨by decide +kernel, rfl⟩
theorem D84_9 : rDec M84 9 (.ireturn) 1 10 := ⟨by decide +kernel, rfl⟩
theorem P84_0 : rSnd lab M84 0 B84_0 := by
  refine s_Ent ?_
  refine s_bi D84_0 kc_b_31 (by decide) ?_
  refine s_Il gk0 (Or.inr ⟨0, D84_2, rfl⟩) ?_
  refine s_Cs (id := 2) rfl (l_S rfl ok2 rfl wd500 wd501 D84_3.1) (?_ : rSnd _ _ 6 _)
  refine s_Bin q_isub n_sub rG2_x rE2_x D84_6 ?_
  refine s_ic D84_7 kc_i_2 (by decide) ?_
  refine s_Div q_idiv n_div g_div D84_8 ?_
  exact s_Ri (Or.inl rfl) D84_9.1
theorem D85_0 : rDec M85 0 (.aload_n 0) 1 1 := ⟨by decide +kernel, rfl⟩
theorem D85_1 : rDec M85 1 (.iload_n 1) 1 2 := ⟨by decide +kernel, rfl⟩
theorem D85_2 : rDec M85 2 (.invokevirtual 171) 3 5 := ⟨by decide +kernel, rfl⟩
theorem D85_5 : rDec M85 5 (.ifCond .ne 13) 3 8 := ⟨by decide +kernel, rfl⟩
theorem D85_8 : rDec M85 8 (.new 120) 3 11 := ⟨by decide +kernel, rfl⟩
theorem D85_11 : rDec M85 11 (.dup) 1 12 := ⟨by decide +kernel, rfl⟩
theorem D85_12 : rDec M85 12 (.ldc 174) 2 14 := ⟨by decide +kernel, rfl⟩
theorem D85_14 : rDec M85 14 (.invokespecial 124) 3 17 := ⟨by decide +kernel, rfl⟩
theorem D85_17 : rDec M85 17 (.athrow) 1 18 := ⟨by decide +kernel, rfl⟩
theorem P85_0 : rSnd lab M85 0 B85_0 := by
  refine s_Ent ?_
  refine s_Al gk0 (Or.inr ⟨0, D85_0, rfl⟩) ?_
  refine s_Il gk1 (Or.inr ⟨1, D85_1, rfl⟩) ?_
  refine s_Cv (ln := 3) (kd := 2) (C := "WordWright") (by decide) (by decide +kernel) rfl (l_V rfl ok76 rfl wd1273 wd1275 ws53 D85_2.1) (?_ : rSnd _ _ 5 _)
  refine s_If c_ne (fun _ => rfl) (fun _ _ => rfl) (b_ne (tg := 18) (by decide)) D85_5.1 rSnd_none (?_ : rSnd _ _ 8 _)
  exact s_Thr (ik := 120) (is := 174) (ic := 124) (text := "no such MACHINE") (names := ["java/lang/RuntimeException", "java/lang/Exception"]) false rfl rfl (by decide) (by decide +kernel) (by decide +kernel) (by decide) rfl wd1351 wd38 (List.mem_of_getElem? (i := 0) rfl) at_WordWright_124 at_WordWright_124g D85_8.1 D85_11.1 (Or.inl ⟨rfl, D85_12.1, D85_14.1, D85_17.1⟩)
theorem D86_0 : rDec M86 0 (.aload_n 0) 1 1 := ⟨by decide +kernel, rfl⟩
theorem D86_1 : rDec M86 1 (.getfield 166) 3 4 := ⟨by decide +kernel, rfl⟩
theorem D86_4 : rDec M86 4 (.bipush 6) 2 6 := ⟨by decide +kernel, rfl⟩
theorem D86_6 : rDec M86 6 (.if_icmp .lt 13) 3 9 := ⟨by decide +kernel, rfl⟩
theorem D86_19 : rDec M86 19 (.aload_n 0) 1 20 := ⟨by decide +kernel, rfl⟩
theorem D86_20 : rDec M86 20 (.dup) 1 21 := ⟨by decide +kernel, rfl⟩
theorem D86_21 : rDec M86 21 (.getfield 166) 3 24 := ⟨by decide +kernel, rfl⟩
theorem D86_24 : rDec M86 24 (.iconst 1) 1 25 := ⟨by decide +kernel, rfl⟩
theorem D86_25 : rDec M86 25 (.iadd) 1 26 := ⟨by decide +kernel, rfl⟩
theorem D86_26 : rDec M86 26 (.putfield 166) 3 29 := ⟨by decide +kernel, rfl⟩
theorem D86_29 : rDec M86 29 (.aload_n 0) 1 30 := ⟨by decide +kernel, rfl⟩
theorem D86_30 : rDec M86 30 (.getfield 166) 3 33 := ⟨by decide +kernel, rfl⟩
theorem D86_33 : rDec M86 33 (.iconst 1) 1 34 := ⟨by decide +kernel, rfl⟩
theorem D86_34 : rDec M86 34 (.isub) 1 35 := ⟨by decide +kernel, rfl⟩
theorem D86_35 : rDec M86 35 (.ireturn) 1 36 := ⟨by decide +kernel, rfl⟩
theorem P86_19 : rSnd lab M86 19 B86_19 := by
  refine s_Al gk0 (Or.inr ⟨0, D86_19, rfl⟩) ?_
  refine s_Dup D86_20 ?_
  refine s_Gf (ci := 0) (r := ("WordWright", kT0, 13)) rfl (show 3 < 13 from by decide) rfl (Or.inl wd439) (Or.inl rfl) rfl D86_21 ?_
  refine s_ic D86_24 kc_i_1 (by decide) ?_
  refine s_Bin q_iadd n_add rG2_x e_add D86_25 ?_
  refine s_Pf (ci := 0) (r := ("WordWright", kT0, 13)) rfl (show 3 < 13 from by decide) rfl (Or.inl ⟨rfl, Or.inl wd439⟩) (Or.inl rfl) rfl (by decide) D86_26 ?_
  refine s_Al gk0 (Or.inr ⟨0, D86_29, rfl⟩) ?_
  refine s_Gf (ci := 0) (r := ("WordWright", kT0, 13)) rfl (show 3 < 13 from by decide) rfl (Or.inl wd439) (Or.inl rfl) rfl D86_30 ?_
  refine s_ic D86_33 kc_i_1 (by decide) ?_
  refine s_Bin q_isub n_sub rG2_x rE2_x D86_34 ?_
  exact s_Ri (Or.inl rfl) D86_35.1
theorem P86_0 : rSnd lab M86 0 B86_0 := by
  refine s_Ent ?_
  refine s_Al gk0 (Or.inr ⟨0, D86_0, rfl⟩) ?_
  refine s_Gf (ci := 0) (r := ("WordWright", kT0, 13)) rfl (show 3 < 13 from by decide) rfl (Or.inl wd439) (Or.inl rfl) rfl D86_1 ?_
  refine s_bi D86_4 kc_b_6 (by decide) ?_
  refine s_Ic c_lt (i_lt (tg := 19) (by decide)) D86_6.1 P86_19 (?_ : rSnd _ _ 9 _)
  exact rSnd_none
theorem D87_0 : rDec M87 0 (.aload_n 0) 1 1 := ⟨by decide +kernel, rfl⟩
theorem D87_1 : rDec M87 1 (.iload_n 1) 1 2 := ⟨by decide +kernel, rfl⟩
theorem D87_2 : rDec M87 2 (.iload_n 2) 1 3 := ⟨by decide +kernel, rfl⟩
theorem D87_3 : rDec M87 3 (.iload_n 3) 1 4 := ⟨by decide +kernel, rfl⟩
theorem D87_4 : rDec M87 4 (.invokevirtual 87) 3 7 := ⟨by decide +kernel, rfl⟩
theorem D87_7 : rDec M87 7 (.ifCond .ne 13) 3 10 := ⟨by decide +kernel, rfl⟩
theorem D87_10 : rDec M87 10 (.new 91) 3 13 := ⟨by decide +kernel, rfl⟩
theorem D87_13 : rDec M87 13 (.dup) 1 14 := ⟨by decide +kernel, rfl⟩
theorem D87_14 : rDec M87 14 (.ldc 93) 2 16 := ⟨by decide +kernel, rfl⟩
theorem D87_16 : rDec M87 16 (.invokespecial 95) 3 19 := ⟨by decide +kernel, rfl⟩
theorem D87_19 : rDec M87 19 (.athrow) 1 20 := ⟨by decide +kernel, rfl⟩
theorem D87_20 : rDec M87 20 (.aload_n 0) 1 21 := ⟨by decide +kernel, rfl⟩
theorem D87_21 : rDec M87 21 (.iload_n 1) 1 22 := ⟨by decide +kernel, rfl⟩
theorem D87_22 : rDec M87 22 (.iload_n 2) 1 23 := ⟨by decide +kernel, rfl⟩
theorem D87_23 : rDec M87 23 (.iload_n 3) 1 24 := ⟨by decide +kernel, rfl⟩
theorem D87_24 : rDec M87 24 (.invokevirtual 98) 3 27 := ⟨by decide +kernel, rfl⟩
theorem D87_27 : rDec M87 27 (.ifCond .ne 13) 3 30 := ⟨by decide +kernel, rfl⟩
theorem D87_40 : rDec M87 40 (.aload_n 0) 1 41 := ⟨by decide +kernel, rfl⟩
theorem D87_41 : rDec M87 41 (.invokevirtual 106) 3 44 := ⟨by decide +kernel, rfl⟩
theorem D87_44 : rDec M87 44 (.istore 4) 2 46 := ⟨by decide +kernel, rfl⟩
theorem D87_46 : rDec M87 46 (.iload 4) 2 48 := ⟨by decide +kernel, rfl⟩
theorem D87_48 : rDec M87 48 (.iconst (-1)) 1 49 := ⟨by decide +kernel, rfl⟩
theorem D87_49 : rDec M87 49 (.if_icmp .ne 52) 3 52 := ⟨by decide +kernel, rfl⟩
theorem D87_52 : rDec M87 52 (.aload_n 0) 1 53 := ⟨by decide +kernel, rfl⟩
theorem D87_53 : rDec M87 53 (.getfield 83) 3 56 := ⟨by decide +kernel, rfl⟩
theorem D87_56 : rDec M87 56 (.bipush 40) 2 58 := ⟨by decide +kernel, rfl⟩
theorem D87_58 : rDec M87 58 (.if_icmp .lt 13) 3 61 := ⟨by decide +kernel, rfl⟩
theorem D87_71 : rDec M87 71 (.aload_n 0) 1 72 := ⟨by decide +kernel, rfl⟩
theorem D87_72 : rDec M87 72 (.getfield 83) 3 75 := ⟨by decide +kernel, rfl⟩
theorem D87_75 : rDec M87 75 (.istore 4) 2 77 := ⟨by decide +kernel, rfl⟩
theorem D87_77 : rDec M87 77 (.aload_n 0) 1 78 := ⟨by decide +kernel, rfl⟩
theorem D87_78 : rDec M87 78 (.getfield 11) 3 81 := ⟨by decide +kernel, rfl⟩
theorem D87_81 : rDec M87 81 (.iload 4) 2 83 := ⟨by decide +kernel, rfl⟩
theorem D87_83 : rDec M87 83 (.aaload) 1 84 := ⟨by decide +kernel, rfl⟩
theorem D87_84 : rDec M87 84 (.aload_n 0) 1 85 := ⟨by decide +kernel, rfl⟩
theorem D87_85 : rDec M87 85 (.getfield 22) 3 88 := ⟨by decide +kernel, rfl⟩
theorem D87_88 : rDec M87 88 (.invokevirtual 112) 3 91 := ⟨by decide +kernel, rfl⟩
theorem D87_91 : rDec M87 91 (.aload_n 0) 1 92 := ⟨by decide +kernel, rfl⟩
theorem D87_92 : rDec M87 92 (.dup) 1 93 := ⟨by decide +kernel, rfl⟩
theorem D87_93 : rDec M87 93 (.getfield 83) 3 96 := ⟨by decide +kernel, rfl⟩
theorem D87_96 : rDec M87 96 (.iconst 1) 1 97 := ⟨by decide +kernel, rfl⟩
theorem D87_97 : rDec M87 97 (.iadd) 1 98 := ⟨by decide +kernel, rfl⟩
theorem D87_98 : rDec M87 98 (.putfield 83) 3 101 := ⟨by decide +kernel, rfl⟩
theorem D87_101 : rDec M87 101 (.iload 4) 2 103 := ⟨by decide +kernel, rfl⟩
theorem D87_103 : rDec M87 103 (.ireturn) 1 104 := ⟨by decide +kernel, rfl⟩
theorem P87_101 : rSnd lab M87 101 B87_101 := by
  refine s_Il gk4 (Or.inl D87_101) ?_
  exact s_Ri (Or.inl rfl) D87_103.1
theorem P87_71 : rSnd lab M87 71 B87_71 := by
  refine s_Al gk0 (Or.inr ⟨0, D87_71, rfl⟩) ?_
  refine s_Gf (ci := 0) (r := ("WordWright", kT0, 13)) rfl (show 1 < 13 from by decide) rfl (Or.inl wd437) (Or.inl rfl) rfl D87_72 ?_
  refine s_Is sk4 (show 4 < 5 from by decide) (Or.inl D87_75) ?_
  refine s_Al gk0 (Or.inr ⟨0, D87_77, rfl⟩) ?_
  refine s_Gf (ci := 0) (r := ("WordWright", kT0, 13)) rfl (show 0 < 13 from by decide) rfl (Or.inl wd436) (Or.inl rfl) rfl D87_78 ?_
  refine s_Il gk4 (Or.inl D87_81) ?_
  refine s_Aal D87_83 ?_
  refine s_Al gk0 (Or.inr ⟨0, D87_84, rfl⟩) ?_
  refine s_Gf (ci := 0) (r := ("WordWright", kT0, 13)) rfl (show 4 < 13 from by decide) rfl (Or.inl wd440) (Or.inl rfl) rfl D87_85 ?_
  refine s_Cv (ln := 3) (kd := 8) (C := "WordWright$Language") (by decide) (by decide +kernel) rfl (l_V rfl ok247 rfl wd1340 wd623 wd624 D87_88.1) (?_ : rSnd _ _ 91 _)
  refine s_Al gk0 (Or.inr ⟨0, D87_91, rfl⟩) ?_
  refine s_Dup D87_92 ?_
  refine s_Gf (ci := 0) (r := ("WordWright", kT0, 13)) rfl (show 1 < 13 from by decide) rfl (Or.inl wd437) (Or.inl rfl) rfl D87_93 ?_
  refine s_ic D87_96 kc_i_1 (by decide) ?_
  refine s_Bin q_iadd n_add rG2_x e_add D87_97 ?_
  refine s_Pf (ci := 0) (r := ("WordWright", kT0, 13)) rfl (show 1 < 13 from by decide) rfl (Or.inl ⟨rfl, Or.inl wd437⟩) (Or.inl rfl) rfl (by decide) D87_98 ?_
  exact P87_101
theorem P87_40 : rSnd lab M87 40 B87_40 := by
  refine s_Al gk0 (Or.inr ⟨0, D87_40, rfl⟩) ?_
  refine s_Cv (ln := 3) (kd := 2) (C := "WordWright") (by decide) (by decide +kernel) rfl (l_V rfl ok96 rfl wd1334 wd1336 ws55 D87_41.1) (?_ : rSnd _ _ 44 _)
  refine s_Is sk4 (show 4 < 5 from by decide) (Or.inl D87_44) ?_
  refine s_Il gk4 (Or.inl D87_46) ?_
  refine s_ic D87_48 kc_i_m1 (by decide) ?_
  refine s_Ic c_ne (i_ne (tg := 101) (by decide)) D87_49.1 P87_101 (?_ : rSnd _ _ 52 _)
  refine s_Al gk0 (Or.inr ⟨0, D87_52, rfl⟩) ?_
  refine s_Gf (ci := 0) (r := ("WordWright", kT0, 13)) rfl (show 1 < 13 from by decide) rfl (Or.inl wd437) (Or.inl rfl) rfl D87_53 ?_
  refine s_bi D87_56 kc_b_40 (by decide) ?_
  refine s_Ic c_lt (i_lt (tg := 71) (by decide)) D87_58.1 P87_71 (?_ : rSnd _ _ 61 _)
  exact rSnd_none
theorem P87_20 : rSnd lab M87 20 B87_20 := by
  refine s_Al gk0 (Or.inr ⟨0, D87_20, rfl⟩) ?_
  refine s_Il gk1 (Or.inr ⟨1, D87_21, rfl⟩) ?_
  refine s_Il gk2 (Or.inr ⟨2, D87_22, rfl⟩) ?_
  refine s_Il gk3 (Or.inr ⟨3, D87_23, rfl⟩) ?_
  refine s_Cv (ln := 3) (kd := 2) (C := "WordWright") (by decide) (by decide +kernel) rfl (l_V rfl ok64 rfl wd1280 wd1282 ws54 D87_24.1) (?_ : rSnd _ _ 27 _)
  refine s_If c_ne (fun _ => rfl) (fun _ _ => rfl) (b_ne (tg := 40) (by decide)) D87_27.1 P87_40 (?_ : rSnd _ _ 30 _)
  exact rSnd_none
theorem P87_0 : rSnd lab M87 0 B87_0 := by
  refine s_Ent ?_
  refine s_Al gk0 (Or.inr ⟨0, D87_0, rfl⟩) ?_
  refine s_Il gk1 (Or.inr ⟨1, D87_1, rfl⟩) ?_
  refine s_Il gk2 (Or.inr ⟨2, D87_2, rfl⟩) ?_
  refine s_Il gk3 (Or.inr ⟨3, D87_3, rfl⟩) ?_
  refine s_Cv (ln := 3) (kd := 2) (C := "WordWright") (by decide) (by decide +kernel) rfl (l_V rfl ok65 rfl wd1262 wd1264 ws51 D87_4.1) (?_ : rSnd _ _ 7 _)
  refine s_If c_ne (fun _ => rfl) (fun _ _ => rfl) (b_ne (tg := 20) (by decide)) D87_7.1 P87_20 (?_ : rSnd _ _ 10 _)
  exact s_Thr (ik := 91) (is := 93) (ic := 95) (text := "no such KIND, or no such a or b for it") (names := ["java/lang/RuntimeException", "java/lang/Exception"]) false rfl rfl (by decide) (by decide +kernel) (by decide +kernel) (by decide) rfl wd1277 wd27 (List.mem_of_getElem? (i := 9) rfl) at_WordWright_95 at_WordWright_95g D87_10.1 D87_13.1 (Or.inl ⟨rfl, D87_14.1, D87_16.1, D87_19.1⟩)
theorem D88_0 : rDec M88 0 (.iload_n 1) 1 1 := ⟨by decide +kernel, rfl⟩
theorem D88_1 : rDec M88 1 (.ifCond .lt 9) 3 4 := ⟨by decide +kernel, rfl⟩
theorem D88_4 : rDec M88 4 (.iload_n 1) 1 5 := ⟨by decide +kernel, rfl⟩
theorem D88_5 : rDec M88 5 (.bipush 9) 2 7 := ⟨by decide +kernel, rfl⟩
theorem D88_7 : rDec M88 7 (.if_icmp .le 14) 3 10 := ⟨by decide +kernel, rfl⟩
theorem D88_10 : rDec M88 10 (.new 91) 3 13 := ⟨by decide +kernel, rfl⟩
theorem D88_13 : rDec M88 13 (.dup) 1 14 := ⟨by decide +kernel, rfl⟩
theorem D88_14 : rDec M88 14 (.ldc_w 345) 3 17 := ⟨by decide +kernel, rfl⟩
theorem D88_17 : rDec M88 17 (.invokespecial 95) 3 20 := ⟨by decide +kernel, rfl⟩
theorem D88_20 : rDec M88 20 (.athrow) 1 21 := ⟨by decide +kernel, rfl⟩
theorem D88_21 : rDec M88 21 (.iload_n 1) 1 22 := ⟨by decide +kernel, rfl⟩
theorem D88_22 : rDec M88 22 (.bipush 8) 2 24 := ⟨by decide +kernel, rfl⟩
theorem D88_24 : rDec M88 24 (.if_icmp .lt 22) 3 27 := ⟨by decide +kernel, rfl⟩
theorem D88_27 : rDec M88 27 (.aload_n 0) 1 28 := ⟨by decide +kernel, rfl⟩
theorem D88_28 : rDec M88 28 (.getfield 75) 3 31 := ⟨by decide +kernel, rfl⟩
theorem D88_31 : rDec M88 31 (.aload_n 0) 1 32 := ⟨by decide +kernel, rfl⟩
theorem D88_32 : rDec M88 32 (.getfield 11) 3 35 := ⟨by decide +kernel, rfl⟩
theorem D88_35 : rDec M88 35 (.aload_n 0) 1 36 := ⟨by decide +kernel, rfl⟩
theorem D88_36 : rDec M88 36 (.getfield 17) 3 39 := ⟨by decide +kernel, rfl⟩
theorem D88_39 : rDec M88 39 (.aload_n 0) 1 40 := ⟨by decide +kernel, rfl⟩
theorem D88_40 : rDec M88 40 (.getfield 33) 3 43 := ⟨by decide +kernel, rfl⟩
theorem D88_43 : rDec M88 43 (.invokevirtual 333) 3 46 := ⟨by decide +kernel, rfl⟩
theorem D88_46 : rDec M88 46 (.aload_n 0) 1 47 := ⟨by decide +kernel, rfl⟩
theorem D88_47 : rDec M88 47 (.iload_n 1) 1 48 := ⟨by decide +kernel, rfl⟩
theorem D88_48 : rDec M88 48 (.invokevirtual 347) 3 51 := ⟨by decide +kernel, rfl⟩
theorem D88_51 : rDec M88 51 (.ireturn) 1 52 := ⟨by decide +kernel, rfl⟩
theorem P88_46 : rSnd lab M88 46 B88_46 := by
  refine s_Al gk0 (Or.inr ⟨0, D88_46, rfl⟩) ?_
  refine s_Il gk1 (Or.inr ⟨1, D88_47, rfl⟩) ?_
  refine s_Cv (ln := 3) (kd := 2) (C := "WordWright") (by decide) (by decide +kernel) rfl (l_V rfl ok56 rfl wd722 wd724 ws26 D88_48.1) (?_ : rSnd _ _ 51 _)
  exact s_Ri (Or.inl rfl) D88_51.1
theorem P88_21 : rSnd lab M88 21 B88_21 := by
  refine s_Il gk1 (Or.inr ⟨1, D88_21, rfl⟩) ?_
  refine s_bi D88_22 kc_b_8 (by decide) ?_
  refine s_Ic c_lt (i_lt (tg := 46) (by decide)) D88_24.1 P88_46 (?_ : rSnd _ _ 27 _)
  refine s_Al gk0 (Or.inr ⟨0, D88_27, rfl⟩) ?_
  refine s_Gf (ci := 0) (r := ("WordWright", kT0, 13)) rfl (show 12 < 13 from by decide) rfl (Or.inl wd448) (Or.inl rfl) rfl D88_28 ?_
  refine s_Al gk0 (Or.inr ⟨0, D88_31, rfl⟩) ?_
  refine s_Gf (ci := 0) (r := ("WordWright", kT0, 13)) rfl (show 0 < 13 from by decide) rfl (Or.inl wd436) (Or.inl rfl) rfl D88_32 ?_
  refine s_Al gk0 (Or.inr ⟨0, D88_35, rfl⟩) ?_
  refine s_Gf (ci := 0) (r := ("WordWright", kT0, 13)) rfl (show 2 < 13 from by decide) rfl (Or.inl wd438) (Or.inl rfl) rfl D88_36 ?_
  refine s_Al gk0 (Or.inr ⟨0, D88_39, rfl⟩) ?_
  refine s_Gf (ci := 0) (r := ("WordWright", kT0, 13)) rfl (show 6 < 13 from by decide) rfl (Or.inl wd442) (Or.inl rfl) rfl D88_40 ?_
  refine s_Cv (ln := 3) (kd := 12) (C := "WordWright$Program") (by decide) (by decide +kernel) rfl (l_V rfl ok257 rfl wd606 wd607 wd608 D88_43.1) (?_ : rSnd _ _ 46 _)
  exact P88_46
theorem P88_10 : rSnd lab M88 10 B88_10 := by
  exact s_Thr (ik := 91) (is := 345) (ic := 95) (text := "what is not 0 to 9") (names := ["java/lang/RuntimeException", "java/lang/Exception"]) true rfl rfl (by decide) (by decide +kernel) (by decide +kernel) (by decide) rfl wd1277 wd27 (List.mem_of_getElem? (i := 10) rfl) at_WordWright_95 at_WordWright_95g D88_10.1 D88_13.1 (Or.inr ⟨rfl, D88_14.1, D88_17.1, D88_20.1⟩)
theorem P88_0 : rSnd lab M88 0 B88_0 := by
  refine s_Ent ?_
  refine s_Il gk1 (Or.inr ⟨1, D88_0, rfl⟩) ?_
  refine s_If c_lt (fun _ => rfl) (fun _ _ => rfl) (b_lt (tg := 10) (by decide)) D88_1.1 P88_10 (?_ : rSnd _ _ 4 _)
  refine s_Il gk1 (Or.inr ⟨1, D88_4, rfl⟩) ?_
  refine s_bi D88_5 kc_b_9 (by decide) ?_
  refine s_Ic c_le (i_le (tg := 21) (by decide)) D88_7.1 P88_21 (?_ : rSnd _ _ 10 _)
  exact P88_10
theorem D89_0 : rDec M89 0 (.iconst 0) 1 1 := ⟨by decide +kernel, rfl⟩
theorem D89_1 : rDec M89 1 (.istore_n 1) 1 2 := ⟨by decide +kernel, rfl⟩
theorem D89_2 : rDec M89 2 (.iconst 0) 1 3 := ⟨by decide +kernel, rfl⟩
theorem D89_3 : rDec M89 3 (.istore_n 2) 1 4 := ⟨by decide +kernel, rfl⟩
theorem D89_4 : rDec M89 4 (.iload_n 2) 1 5 := ⟨by decide +kernel, rfl⟩
theorem D89_5 : rDec M89 5 (.aload_n 0) 1 6 := ⟨by decide +kernel, rfl⟩
theorem D89_6 : rDec M89 6 (.getfield 83) 3 9 := ⟨by decide +kernel, rfl⟩
theorem D89_9 : rDec M89 9 (.if_icmp .ge 21) 3 12 := ⟨by decide +kernel, rfl⟩
theorem D89_12 : rDec M89 12 (.iload_n 1) 1 13 := ⟨by decide +kernel, rfl⟩
theorem D89_13 : rDec M89 13 (.aload_n 0) 1 14 := ⟨by decide +kernel, rfl⟩
theorem D89_14 : rDec M89 14 (.getfield 11) 3 17 := ⟨by decide +kernel, rfl⟩
theorem D89_17 : rDec M89 17 (.iload_n 2) 1 18 := ⟨by decide +kernel, rfl⟩
theorem D89_18 : rDec M89 18 (.aaload) 1 19 := ⟨by decide +kernel, rfl⟩
theorem D89_19 : rDec M89 19 (.getfield 131) 3 22 := ⟨by decide +kernel, rfl⟩
theorem D89_22 : rDec M89 22 (.iadd) 1 23 := ⟨by decide +kernel, rfl⟩
theorem D89_23 : rDec M89 23 (.istore_n 1) 1 24 := ⟨by decide +kernel, rfl⟩
theorem D89_24 : rDec M89 24 (.iinc 2 1) 3 27 := ⟨by decide +kernel, rfl⟩
theorem D89_27 : rDec M89 27 (.goto (-23)) 3 30 := ⟨by decide +kernel, rfl⟩
theorem D89_30 : rDec M89 30 (.iload_n 1) 1 31 := ⟨by decide +kernel, rfl⟩
theorem D89_31 : rDec M89 31 (.i2d) 1 32 := ⟨by decide +kernel, rfl⟩
theorem D89_32 : rDec M89 32 (.aload_n 0) 1 33 := ⟨by decide +kernel, rfl⟩
theorem D89_33 : rDec M89 33 (.getfield 83) 3 36 := ⟨by decide +kernel, rfl⟩
theorem D89_36 : rDec M89 36 (.i2d) 1 37 := ⟨by decide +kernel, rfl⟩
theorem D89_37 : rDec M89 37 (.ddiv) 1 38 := ⟨by decide +kernel, rfl⟩
theorem D89_38 : rDec M89 38 (.dreturn) 1 39 := ⟨by decide +kernel, rfl⟩
theorem P89_30 : rSnd lab M89 30 B89_30 := by
  refine s_Il gk1 (Or.inr ⟨1, D89_30, rfl⟩) ?_
  refine s_I2d D89_31 ?_
  refine s_Al gk0 (Or.inr ⟨0, D89_32, rfl⟩) ?_
  refine s_Gf (ci := 0) (r := ("WordWright", kT0, 13)) rfl (show 1 < 13 from by decide) rfl (Or.inl wd437) (Or.inl rfl) rfl D89_33 ?_
  refine s_I2d D89_36 ?_
  refine s_Ddiv D89_37 ?_
  exact s_Rd rfl D89_38.1
theorem P89_4 : rSnd lab M89 4 B89_4 := by
  refine s_Il gk2 (Or.inr ⟨2, D89_4, rfl⟩) ?_
  refine s_Al gk0 (Or.inr ⟨0, D89_5, rfl⟩) ?_
  refine s_Gf (ci := 0) (r := ("WordWright", kT0, 13)) rfl (show 1 < 13 from by decide) rfl (Or.inl wd437) (Or.inl rfl) rfl D89_6 ?_
  refine s_Ic c_ge (i_ge (tg := 30) (by decide)) D89_9.1 P89_30 (?_ : rSnd _ _ 12 _)
  refine s_Il gk1 (Or.inr ⟨1, D89_12, rfl⟩) ?_
  refine s_Al gk0 (Or.inr ⟨0, D89_13, rfl⟩) ?_
  refine s_Gf (ci := 0) (r := ("WordWright", kT0, 13)) rfl (show 0 < 13 from by decide) rfl (Or.inl wd436) (Or.inl rfl) rfl D89_14 ?_
  refine s_Il gk2 (Or.inr ⟨2, D89_17, rfl⟩) ?_
  refine s_Aal D89_18 ?_
  refine s_Gf (ci := 3) (r := ("WordWright$Language", kT3, 3)) rfl (show 0 < 3 from by decide) rfl (Or.inl wd74) (Or.inl rfl) rfl D89_19 ?_
  refine s_Bin q_iadd n_add rG2_x e_add D89_22 ?_
  refine s_Is sk1 (show 1 < 3 from by decide) (Or.inr ⟨1, D89_23, rfl⟩) ?_
  refine s_Inc gk2 sk2 (show 2 < 3 from by decide) kc_i_1 D89_24 ?_
  exact s_Go (pc' := 4) D89_27.1 (by decide) (s_Jb rfl)
theorem P89_0 : rSnd lab M89 0 B89_0 := by
  refine s_Ent ?_
  refine s_ic D89_0 kc_i_0 (by decide) ?_
  refine s_Is sk1 (show 1 < 3 from by decide) (Or.inr ⟨1, D89_1, rfl⟩) ?_
  refine s_ic D89_2 kc_i_0 (by decide) ?_
  refine s_Is sk2 (show 2 < 3 from by decide) (Or.inr ⟨2, D89_3, rfl⟩) ?_
  exact P89_4
theorem D90_0 : rDec M90 0 (.aload_n 0) 1 1 := ⟨by decide +kernel, rfl⟩
theorem D90_1 : rDec M90 1 (.iload_n 1) 1 2 := ⟨by decide +kernel, rfl⟩
theorem D90_2 : rDec M90 2 (.invokevirtual 274) 3 5 := ⟨by decide +kernel, rfl⟩
theorem D90_5 : rDec M90 5 (.ifCond .ne 14) 3 8 := ⟨by decide +kernel, rfl⟩
theorem D90_8 : rDec M90 8 (.new 120) 3 11 := ⟨by decide +kernel, rfl⟩
theorem D90_11 : rDec M90 11 (.dup) 1 12 := ⟨by decide +kernel, rfl⟩
theorem D90_12 : rDec M90 12 (.ldc_w 295) 3 15 := ⟨by decide +kernel, rfl⟩
theorem D90_15 : rDec M90 15 (.invokespecial 124) 3 18 := ⟨by decide +kernel, rfl⟩
theorem D90_18 : rDec M90 18 (.athrow) 1 19 := ⟨by decide +kernel, rfl⟩
theorem P90_0 : rSnd lab M90 0 B90_0 := by
  refine s_Ent ?_
  refine s_Al gk0 (Or.inr ⟨0, D90_0, rfl⟩) ?_
  refine s_Il gk1 (Or.inr ⟨1, D90_1, rfl⟩) ?_
  refine s_Cv (ln := 3) (kd := 2) (C := "WordWright") (by decide) (by decide +kernel) rfl (l_V rfl ok77 rfl wd1560 wd1562 ws56 D90_2.1) (?_ : rSnd _ _ 5 _)
  refine s_If c_ne (fun _ => rfl) (fun _ _ => rfl) (b_ne (tg := 19) (by decide)) D90_5.1 rSnd_none (?_ : rSnd _ _ 8 _)
  exact s_Thr (ik := 120) (is := 295) (ic := 124) (text := "no such SCHEMA") (names := ["java/lang/RuntimeException", "java/lang/Exception"]) true rfl rfl (by decide) (by decide +kernel) (by decide +kernel) (by decide) rfl wd1351 wd38 (List.mem_of_getElem? (i := 11) rfl) at_WordWright_124 at_WordWright_124g D90_8.1 D90_11.1 (Or.inr ⟨rfl, D90_12.1, D90_15.1, D90_18.1⟩)
theorem D91_0 : rDec M91 0 (.lload_n 1) 1 1 := ⟨by decide +kernel, rfl⟩
theorem D91_1 : rDec M91 1 (.lstore_n 3) 1 2 := ⟨by decide +kernel, rfl⟩
theorem D91_2 : rDec M91 2 (.iconst 0) 1 3 := ⟨by decide +kernel, rfl⟩
theorem D91_3 : rDec M91 3 (.istore 5) 2 5 := ⟨by decide +kernel, rfl⟩
theorem D91_5 : rDec M91 5 (.iload 5) 2 7 := ⟨by decide +kernel, rfl⟩
theorem D91_7 : rDec M91 7 (.aload_n 0) 1 8 := ⟨by decide +kernel, rfl⟩
theorem D91_8 : rDec M91 8 (.getfield 83) 3 11 := ⟨by decide +kernel, rfl⟩
theorem D91_11 : rDec M91 11 (.if_icmp .ge 122) 3 14 := ⟨by decide +kernel, rfl⟩
theorem D91_14 : rDec M91 14 (.aload_n 0) 1 15 := ⟨by decide +kernel, rfl⟩
theorem D91_15 : rDec M91 15 (.getfield 11) 3 18 := ⟨by decide +kernel, rfl⟩
theorem D91_18 : rDec M91 18 (.iload 5) 2 20 := ⟨by decide +kernel, rfl⟩
theorem D91_20 : rDec M91 20 (.aaload) 1 21 := ⟨by decide +kernel, rfl⟩
theorem D91_21 : rDec M91 21 (.astore 6) 2 23 := ⟨by decide +kernel, rfl⟩
theorem D91_23 : rDec M91 23 (.iconst 0) 1 24 := ⟨by decide +kernel, rfl⟩
theorem D91_24 : rDec M91 24 (.istore 7) 2 26 := ⟨by decide +kernel, rfl⟩
theorem D91_26 : rDec M91 26 (.iload 7) 2 28 := ⟨by decide +kernel, rfl⟩
theorem D91_28 : rDec M91 28 (.iconst 5) 1 29 := ⟨by decide +kernel, rfl⟩
theorem D91_29 : rDec M91 29 (.if_icmp .gt 25) 3 32 := ⟨by decide +kernel, rfl⟩
theorem D91_32 : rDec M91 32 (.lload_n 3) 1 33 := ⟨by decide +kernel, rfl⟩
theorem D91_33 : rDec M91 33 (.ldc2_w 362) 3 36 := ⟨by decide +kernel, rfl⟩
theorem D91_36 : rDec M91 36 (.lmul) 1 37 := ⟨by decide +kernel, rfl⟩
theorem D91_37 : rDec M91 37 (.aload_n 0) 1 38 := ⟨by decide +kernel, rfl⟩
theorem D91_38 : rDec M91 38 (.aload 6) 2 40 := ⟨by decide +kernel, rfl⟩
theorem D91_40 : rDec M91 40 (.iload 7) 2 42 := ⟨by decide +kernel, rfl⟩
theorem D91_42 : rDec M91 42 (.invokevirtual 127) 3 45 := ⟨by decide +kernel, rfl⟩
theorem D91_45 : rDec M91 45 (.i2l) 1 46 := ⟨by decide +kernel, rfl⟩
theorem D91_46 : rDec M91 46 (.ladd) 1 47 := ⟨by decide +kernel, rfl⟩
theorem D91_47 : rDec M91 47 (.lstore_n 3) 1 48 := ⟨by decide +kernel, rfl⟩
theorem D91_48 : rDec M91 48 (.iinc 7 1) 3 51 := ⟨by decide +kernel, rfl⟩
theorem D91_51 : rDec M91 51 (.goto (-25)) 3 54 := ⟨by decide +kernel, rfl⟩
theorem D91_54 : rDec M91 54 (.lload_n 3) 1 55 := ⟨by decide +kernel, rfl⟩
theorem D91_55 : rDec M91 55 (.ldc2_w 362) 3 58 := ⟨by decide +kernel, rfl⟩
theorem D91_58 : rDec M91 58 (.lmul) 1 59 := ⟨by decide +kernel, rfl⟩
theorem D91_59 : rDec M91 59 (.aload 6) 2 61 := ⟨by decide +kernel, rfl⟩
theorem D91_61 : rDec M91 61 (.iconst 2) 1 62 := ⟨by decide +kernel, rfl⟩
theorem D91_62 : rDec M91 62 (.aload_n 0) 1 63 := ⟨by decide +kernel, rfl⟩
theorem D91_63 : rDec M91 63 (.getfield 26) 3 66 := ⟨by decide +kernel, rfl⟩
theorem D91_66 : rDec M91 66 (.invokevirtual 153) 3 69 := ⟨by decide +kernel, rfl⟩
theorem D91_69 : rDec M91 69 (.i2l) 1 70 := ⟨by decide +kernel, rfl⟩
theorem D91_70 : rDec M91 70 (.ladd) 1 71 := ⟨by decide +kernel, rfl⟩
theorem D91_71 : rDec M91 71 (.lstore_n 3) 1 72 := ⟨by decide +kernel, rfl⟩
theorem D91_72 : rDec M91 72 (.lload_n 3) 1 73 := ⟨by decide +kernel, rfl⟩
theorem D91_73 : rDec M91 73 (.ldc2_w 362) 3 76 := ⟨by decide +kernel, rfl⟩
theorem D91_76 : rDec M91 76 (.lmul) 1 77 := ⟨by decide +kernel, rfl⟩
theorem D91_77 : rDec M91 77 (.aload 6) 2 79 := ⟨by decide +kernel, rfl⟩
theorem D91_79 : rDec M91 79 (.iconst 5) 1 80 := ⟨by decide +kernel, rfl⟩
theorem D91_80 : rDec M91 80 (.aload_n 0) 1 81 := ⟨by decide +kernel, rfl⟩
theorem D91_81 : rDec M91 81 (.getfield 26) 3 84 := ⟨by decide +kernel, rfl⟩
theorem D91_84 : rDec M91 84 (.invokevirtual 153) 3 87 := ⟨by decide +kernel, rfl⟩
theorem D91_87 : rDec M91 87 (.i2l) 1 88 := ⟨by decide +kernel, rfl⟩
theorem D91_88 : rDec M91 88 (.ladd) 1 89 := ⟨by decide +kernel, rfl⟩
theorem D91_89 : rDec M91 89 (.lstore_n 3) 1 90 := ⟨by decide +kernel, rfl⟩
theorem D91_90 : rDec M91 90 (.iconst 0) 1 91 := ⟨by decide +kernel, rfl⟩
theorem D91_91 : rDec M91 91 (.istore 7) 2 93 := ⟨by decide +kernel, rfl⟩
theorem D91_93 : rDec M91 93 (.iload 7) 2 95 := ⟨by decide +kernel, rfl⟩
theorem D91_95 : rDec M91 95 (.aload 6) 2 97 := ⟨by decide +kernel, rfl⟩
theorem D91_97 : rDec M91 97 (.getfield 131) 3 100 := ⟨by decide +kernel, rfl⟩
theorem D91_100 : rDec M91 100 (.iconst 4) 1 101 := ⟨by decide +kernel, rfl⟩
theorem D91_101 : rDec M91 101 (.imul) 1 102 := ⟨by decide +kernel, rfl⟩
theorem D91_102 : rDec M91 102 (.if_icmp .ge 25) 3 105 := ⟨by decide +kernel, rfl⟩
theorem D91_105 : rDec M91 105 (.lload_n 3) 1 106 := ⟨by decide +kernel, rfl⟩
theorem D91_106 : rDec M91 106 (.ldc2_w 362) 3 109 := ⟨by decide +kernel, rfl⟩
theorem D91_109 : rDec M91 109 (.lmul) 1 110 := ⟨by decide +kernel, rfl⟩
theorem D91_110 : rDec M91 110 (.aload 6) 2 112 := ⟨by decide +kernel, rfl⟩
theorem D91_112 : rDec M91 112 (.getfield 481) 3 115 := ⟨by decide +kernel, rfl⟩
theorem D91_115 : rDec M91 115 (.iload 7) 2 117 := ⟨by decide +kernel, rfl⟩
theorem D91_117 : rDec M91 117 (.iaload) 1 118 := ⟨by decide +kernel, rfl⟩
theorem D91_118 : rDec M91 118 (.i2l) 1 119 := ⟨by decide +kernel, rfl⟩
theorem D91_119 : rDec M91 119 (.ladd) 1 120 := ⟨by decide +kernel, rfl⟩
theorem D91_120 : rDec M91 120 (.lstore_n 3) 1 121 := ⟨by decide +kernel, rfl⟩
theorem D91_121 : rDec M91 121 (.iinc 7 1) 3 124 := ⟨by decide +kernel, rfl⟩
theorem D91_124 : rDec M91 124 (.goto (-31)) 3 127 := ⟨by decide +kernel, rfl⟩
theorem D91_127 : rDec M91 127 (.iinc 5 1) 3 130 := ⟨by decide +kernel, rfl⟩
theorem D91_130 : rDec M91 130 (.goto (-125)) 3 133 := ⟨by decide +kernel, rfl⟩
theorem D91_133 : rDec M91 133 (.lload_n 3) 1 134 := ⟨by decide +kernel, rfl⟩
theorem D91_134 : rDec M91 134 (.lreturn) 1 135 := ⟨by decide +kernel, rfl⟩
theorem P91_133 : rSnd lab M91 133 B91_133 := by
  refine s_Ll gk3 (Or.inr ⟨3, D91_133, rfl⟩) ?_
  exact s_Rl rfl D91_134.1
theorem P91_127 : rSnd lab M91 127 B91_127 := by
  refine s_Inc gk5 sk5 (show 5 < 8 from by decide) kc_i_1 D91_127 ?_
  exact s_Go (pc' := 5) D91_130.1 (by decide) (s_Jb rfl)
theorem P91_93 : rSnd lab M91 93 B91_93 := by
  refine s_Il gk7 (Or.inl D91_93) ?_
  refine s_Al gk6 (Or.inl D91_95) ?_
  refine s_Gf (ci := 3) (r := ("WordWright$Language", kT3, 3)) rfl (show 0 < 3 from by decide) rfl (Or.inl wd74) (Or.inl rfl) rfl D91_97 ?_
  refine s_ic D91_100 kc_i_4 (by decide) ?_
  refine s_Bin q_imul n_mul rG2_x rE2_x D91_101 ?_
  refine s_Ic c_ge (i_ge (tg := 127) (by decide)) D91_102.1 P91_127 (?_ : rSnd _ _ 105 _)
  refine s_Ll gk3 (Or.inr ⟨3, D91_105, rfl⟩) ?_
  refine s_ld2 rfl wd721 D91_106 kc_J_31 (by decide) ?_
  refine s_BinL q_lmul nl_mul D91_109 ?_
  refine s_Al gk6 (Or.inl D91_110) ?_
  refine s_Gf (ci := 3) (r := ("WordWright$Language", kT3, 3)) rfl (show 2 < 3 from by decide) rfl (Or.inl wd83) (Or.inl rfl) rfl D91_112 ?_
  refine s_Il gk7 (Or.inl D91_115) ?_
  refine s_Ial D91_117 ?_
  refine s_I2l D91_118 ?_
  refine s_BinL q_ladd nl_add D91_119 ?_
  refine s_Ls dk3 (show 4 < 8 from by decide) (Or.inr ⟨3, D91_120, rfl⟩) ?_
  refine s_Inc gk7 sk7 (show 7 < 8 from by decide) kc_i_1 D91_121 ?_
  exact s_Go (pc' := 93) D91_124.1 (by decide) (s_Jb rfl)
theorem P91_54 : rSnd lab M91 54 B91_54 := by
  refine s_Ll gk3 (Or.inr ⟨3, D91_54, rfl⟩) ?_
  refine s_ld2 rfl wd721 D91_55 kc_J_31 (by decide) ?_
  refine s_BinL q_lmul nl_mul D91_58 ?_
  refine s_Al gk6 (Or.inl D91_59) ?_
  refine s_ic D91_61 kc_i_2 (by decide) ?_
  refine s_Al gk0 (Or.inr ⟨0, D91_62, rfl⟩) ?_
  refine s_Gf (ci := 0) (r := ("WordWright", kT0, 13)) rfl (show 5 < 13 from by decide) rfl (Or.inl wd441) (Or.inl rfl) rfl D91_63 ?_
  refine s_Cv (ln := 3) (kd := 8) (C := "WordWright$Language") (by decide) (by decide +kernel) rfl (l_V rfl ok248 rfl wd806 wd807 wd808 D91_66.1) (?_ : rSnd _ _ 69 _)
  refine s_I2l D91_69 ?_
  refine s_BinL q_ladd nl_add D91_70 ?_
  refine s_Ls dk3 (show 4 < 8 from by decide) (Or.inr ⟨3, D91_71, rfl⟩) ?_
  refine s_Ll gk3 (Or.inr ⟨3, D91_72, rfl⟩) ?_
  refine s_ld2 rfl wd721 D91_73 kc_J_31 (by decide) ?_
  refine s_BinL q_lmul nl_mul D91_76 ?_
  refine s_Al gk6 (Or.inl D91_77) ?_
  refine s_ic D91_79 kc_i_5 (by decide) ?_
  refine s_Al gk0 (Or.inr ⟨0, D91_80, rfl⟩) ?_
  refine s_Gf (ci := 0) (r := ("WordWright", kT0, 13)) rfl (show 5 < 13 from by decide) rfl (Or.inl wd441) (Or.inl rfl) rfl D91_81 ?_
  refine s_Cv (ln := 3) (kd := 8) (C := "WordWright$Language") (by decide) (by decide +kernel) rfl (l_V rfl ok248 rfl wd806 wd807 wd808 D91_84.1) (?_ : rSnd _ _ 87 _)
  refine s_I2l D91_87 ?_
  refine s_BinL q_ladd nl_add D91_88 ?_
  refine s_Ls dk3 (show 4 < 8 from by decide) (Or.inr ⟨3, D91_89, rfl⟩) ?_
  refine s_ic D91_90 kc_i_0 (by decide) ?_
  refine s_Is sk7 (show 7 < 8 from by decide) (Or.inl D91_91) ?_
  exact P91_93
theorem P91_26 : rSnd lab M91 26 B91_26 := by
  refine s_Il gk7 (Or.inl D91_26) ?_
  refine s_ic D91_28 kc_i_5 (by decide) ?_
  refine s_Ic c_gt (i_gt (tg := 54) (by decide)) D91_29.1 P91_54 (?_ : rSnd _ _ 32 _)
  refine s_Ll gk3 (Or.inr ⟨3, D91_32, rfl⟩) ?_
  refine s_ld2 rfl wd721 D91_33 kc_J_31 (by decide) ?_
  refine s_BinL q_lmul nl_mul D91_36 ?_
  refine s_Al gk0 (Or.inr ⟨0, D91_37, rfl⟩) ?_
  refine s_Al gk6 (Or.inl D91_38) ?_
  refine s_Il gk7 (Or.inl D91_40) ?_
  refine s_Cv (ln := 3) (kd := 2) (C := "WordWright") (by decide) (by decide +kernel) rfl (l_V rfl ok82 rfl wd772 wd774 ws34 D91_42.1) (?_ : rSnd _ _ 45 _)
  refine s_I2l D91_45 ?_
  refine s_BinL q_ladd nl_add D91_46 ?_
  refine s_Ls dk3 (show 4 < 8 from by decide) (Or.inr ⟨3, D91_47, rfl⟩) ?_
  refine s_Inc gk7 sk7 (show 7 < 8 from by decide) kc_i_1 D91_48 ?_
  exact s_Go (pc' := 26) D91_51.1 (by decide) (s_Jb rfl)
theorem P91_5 : rSnd lab M91 5 B91_5 := by
  refine s_Il gk5 (Or.inl D91_5) ?_
  refine s_Al gk0 (Or.inr ⟨0, D91_7, rfl⟩) ?_
  refine s_Gf (ci := 0) (r := ("WordWright", kT0, 13)) rfl (show 1 < 13 from by decide) rfl (Or.inl wd437) (Or.inl rfl) rfl D91_8 ?_
  refine s_Ic c_ge (i_ge (tg := 133) (by decide)) D91_11.1 P91_133 (?_ : rSnd _ _ 14 _)
  refine s_Al gk0 (Or.inr ⟨0, D91_14, rfl⟩) ?_
  refine s_Gf (ci := 0) (r := ("WordWright", kT0, 13)) rfl (show 0 < 13 from by decide) rfl (Or.inl wd436) (Or.inl rfl) rfl D91_15 ?_
  refine s_Il gk5 (Or.inl D91_18) ?_
  refine s_Aal D91_20 ?_
  refine s_As sk6 (show 6 < 8 from by decide) (Or.inl D91_21) ?_
  refine s_ic D91_23 kc_i_0 (by decide) ?_
  refine s_Is sk7 (show 7 < 8 from by decide) (Or.inl D91_24) ?_
  exact P91_26
theorem P91_0 : rSnd lab M91 0 B91_0 := by
  refine s_Ent ?_
  refine s_Ll gk1 (Or.inr ⟨1, D91_0, rfl⟩) ?_
  refine s_Ls dk3 (show 4 < 8 from by decide) (Or.inr ⟨3, D91_1, rfl⟩) ?_
  refine s_ic D91_2 kc_i_0 (by decide) ?_
  refine s_Is sk5 (show 5 < 8 from by decide) (Or.inl D91_3) ?_
  exact P91_5
theorem D92_0 : rDec M92 0 (.lload_n 1) 1 1 := ⟨by decide +kernel, rfl⟩
theorem D92_1 : rDec M92 1 (.lstore_n 3) 1 2 := ⟨by decide +kernel, rfl⟩
theorem D92_2 : rDec M92 2 (.iconst 0) 1 3 := ⟨by decide +kernel, rfl⟩
theorem D92_3 : rDec M92 3 (.istore 5) 2 5 := ⟨by decide +kernel, rfl⟩
theorem D92_5 : rDec M92 5 (.iload 5) 2 7 := ⟨by decide +kernel, rfl⟩
theorem D92_7 : rDec M92 7 (.aload_n 0) 1 8 := ⟨by decide +kernel, rfl⟩
theorem D92_8 : rDec M92 8 (.getfield 166) 3 11 := ⟨by decide +kernel, rfl⟩
theorem D92_11 : rDec M92 11 (.if_icmp .ge 121) 3 14 := ⟨by decide +kernel, rfl⟩
theorem D92_132 : rDec M92 132 (.lload_n 3) 1 133 := ⟨by decide +kernel, rfl⟩
theorem D92_133 : rDec M92 133 (.lreturn) 1 134 := ⟨by decide +kernel, rfl⟩
theorem P92_132 : rSnd lab M92 132 B92_132 := by
  refine s_Ll gk3 (Or.inr ⟨3, D92_132, rfl⟩) ?_
  exact s_Rl rfl D92_133.1
theorem P92_0 : rSnd lab M92 0 B92_0 := by
  refine s_Ent ?_
  refine s_Ll gk1 (Or.inr ⟨1, D92_0, rfl⟩) ?_
  refine s_Ls dk3 (show 4 < 6 from by decide) (Or.inr ⟨3, D92_1, rfl⟩) ?_
  refine s_ic D92_2 kc_i_0 (by decide) ?_
  refine s_Is sk5 (show 5 < 6 from by decide) (Or.inl D92_3) ?_
  refine s_Il gk5 (Or.inl D92_5) ?_
  refine s_Al gk0 (Or.inr ⟨0, D92_7, rfl⟩) ?_
  refine s_Gf (ci := 0) (r := ("WordWright", kT0, 13)) rfl (show 3 < 13 from by decide) rfl (Or.inl wd439) (Or.inl rfl) rfl D92_8 ?_
  refine s_Ic c_ge (i_ge (tg := 132) (by decide)) D92_11.1 P92_132 (?_ : rSnd _ _ 14 _)
  exact rSnd_none
theorem D93_0 : rDec M93 0 (.lload_n 1) 1 1 := ⟨by decide +kernel, rfl⟩
theorem D93_1 : rDec M93 1 (.lstore_n 3) 1 2 := ⟨by decide +kernel, rfl⟩
theorem D93_2 : rDec M93 2 (.iconst 0) 1 3 := ⟨by decide +kernel, rfl⟩
theorem D93_3 : rDec M93 3 (.istore 5) 2 5 := ⟨by decide +kernel, rfl⟩
theorem D93_5 : rDec M93 5 (.iload 5) 2 7 := ⟨by decide +kernel, rfl⟩
theorem D93_7 : rDec M93 7 (.bipush 10) 2 9 := ⟨by decide +kernel, rfl⟩
theorem D93_9 : rDec M93 9 (.if_icmp .gt 57) 3 12 := ⟨by decide +kernel, rfl⟩
theorem D93_12 : rDec M93 12 (.iconst 0) 1 13 := ⟨by decide +kernel, rfl⟩
theorem D93_13 : rDec M93 13 (.istore 6) 2 15 := ⟨by decide +kernel, rfl⟩
theorem D93_15 : rDec M93 15 (.iload 6) 2 17 := ⟨by decide +kernel, rfl⟩
theorem D93_17 : rDec M93 17 (.iconst 3) 1 18 := ⟨by decide +kernel, rfl⟩
theorem D93_18 : rDec M93 18 (.if_icmp .ge 42) 3 21 := ⟨by decide +kernel, rfl⟩
theorem D93_21 : rDec M93 21 (.iconst 0) 1 22 := ⟨by decide +kernel, rfl⟩
theorem D93_22 : rDec M93 22 (.istore 7) 2 24 := ⟨by decide +kernel, rfl⟩
theorem D93_24 : rDec M93 24 (.iload 7) 2 26 := ⟨by decide +kernel, rfl⟩
theorem D93_26 : rDec M93 26 (.iconst 3) 1 27 := ⟨by decide +kernel, rfl⟩
theorem D93_27 : rDec M93 27 (.if_icmp .gt 27) 3 30 := ⟨by decide +kernel, rfl⟩
theorem D93_30 : rDec M93 30 (.lload_n 3) 1 31 := ⟨by decide +kernel, rfl⟩
theorem D93_31 : rDec M93 31 (.ldc2_w 362) 3 34 := ⟨by decide +kernel, rfl⟩
theorem D93_34 : rDec M93 34 (.lmul) 1 35 := ⟨by decide +kernel, rfl⟩
theorem D93_35 : rDec M93 35 (.aload_n 0) 1 36 := ⟨by decide +kernel, rfl⟩
theorem D93_36 : rDec M93 36 (.iload 5) 2 38 := ⟨by decide +kernel, rfl⟩
theorem D93_38 : rDec M93 38 (.iload 6) 2 40 := ⟨by decide +kernel, rfl⟩
theorem D93_40 : rDec M93 40 (.iload 7) 2 42 := ⟨by decide +kernel, rfl⟩
theorem D93_42 : rDec M93 42 (.invokevirtual 337) 3 45 := ⟨by decide +kernel, rfl⟩
theorem D93_45 : rDec M93 45 (.i2l) 1 46 := ⟨by decide +kernel, rfl⟩
theorem D93_46 : rDec M93 46 (.ladd) 1 47 := ⟨by decide +kernel, rfl⟩
theorem D93_47 : rDec M93 47 (.lstore_n 3) 1 48 := ⟨by decide +kernel, rfl⟩
theorem D93_48 : rDec M93 48 (.iinc 7 1) 3 51 := ⟨by decide +kernel, rfl⟩
theorem D93_51 : rDec M93 51 (.goto (-27)) 3 54 := ⟨by decide +kernel, rfl⟩
theorem D93_54 : rDec M93 54 (.iinc 6 1) 3 57 := ⟨by decide +kernel, rfl⟩
theorem D93_57 : rDec M93 57 (.goto (-42)) 3 60 := ⟨by decide +kernel, rfl⟩
theorem D93_60 : rDec M93 60 (.iinc 5 1) 3 63 := ⟨by decide +kernel, rfl⟩
theorem D93_63 : rDec M93 63 (.goto (-58)) 3 66 := ⟨by decide +kernel, rfl⟩
theorem D93_66 : rDec M93 66 (.lload_n 3) 1 67 := ⟨by decide +kernel, rfl⟩
theorem D93_67 : rDec M93 67 (.lreturn) 1 68 := ⟨by decide +kernel, rfl⟩
theorem P93_66 : rSnd lab M93 66 B93_66 := by
  refine s_Ll gk3 (Or.inr ⟨3, D93_66, rfl⟩) ?_
  exact s_Rl rfl D93_67.1
theorem P93_60 : rSnd lab M93 60 B93_60 := by
  refine s_Inc gk5 sk5 (show 5 < 8 from by decide) kc_i_1 D93_60 ?_
  exact s_Go (pc' := 5) D93_63.1 (by decide) (s_Jb rfl)
theorem P93_54 : rSnd lab M93 54 B93_54 := by
  refine s_Inc gk6 sk6 (show 6 < 8 from by decide) kc_i_1 D93_54 ?_
  exact s_Go (pc' := 15) D93_57.1 (by decide) (s_Jb rfl)
theorem P93_24 : rSnd lab M93 24 B93_24 := by
  refine s_Il gk7 (Or.inl D93_24) ?_
  refine s_ic D93_26 kc_i_3 (by decide) ?_
  refine s_Ic c_gt (i_gt (tg := 54) (by decide)) D93_27.1 P93_54 (?_ : rSnd _ _ 30 _)
  refine s_Ll gk3 (Or.inr ⟨3, D93_30, rfl⟩) ?_
  refine s_ld2 rfl wd721 D93_31 kc_J_31 (by decide) ?_
  refine s_BinL q_lmul nl_mul D93_34 ?_
  refine s_Al gk0 (Or.inr ⟨0, D93_35, rfl⟩) ?_
  refine s_Il gk5 (Or.inl D93_36) ?_
  refine s_Il gk6 (Or.inl D93_38) ?_
  refine s_Il gk7 (Or.inl D93_40) ?_
  refine s_Cv (ln := 3) (kd := 2) (C := "WordWright") (by decide) (by decide +kernel) rfl (l_V rfl ok105 rfl wd1248 wd1250 ws50 D93_42.1) (?_ : rSnd _ _ 45 _)
  refine s_I2l D93_45 ?_
  refine s_BinL q_ladd nl_add D93_46 ?_
  refine s_Ls dk3 (show 4 < 8 from by decide) (Or.inr ⟨3, D93_47, rfl⟩) ?_
  refine s_Inc gk7 sk7 (show 7 < 8 from by decide) kc_i_1 D93_48 ?_
  exact s_Go (pc' := 24) D93_51.1 (by decide) (s_Jb rfl)
theorem P93_15 : rSnd lab M93 15 B93_15 := by
  refine s_Il gk6 (Or.inl D93_15) ?_
  refine s_ic D93_17 kc_i_3 (by decide) ?_
  refine s_Ic c_ge (i_ge (tg := 60) (by decide)) D93_18.1 P93_60 (?_ : rSnd _ _ 21 _)
  refine s_ic D93_21 kc_i_0 (by decide) ?_
  refine s_Is sk7 (show 7 < 8 from by decide) (Or.inl D93_22) ?_
  exact P93_24
theorem P93_5 : rSnd lab M93 5 B93_5 := by
  refine s_Il gk5 (Or.inl D93_5) ?_
  refine s_bi D93_7 kc_b_10 (by decide) ?_
  refine s_Ic c_gt (i_gt (tg := 66) (by decide)) D93_9.1 P93_66 (?_ : rSnd _ _ 12 _)
  refine s_ic D93_12 kc_i_0 (by decide) ?_
  refine s_Is sk6 (show 6 < 8 from by decide) (Or.inl D93_13) ?_
  exact P93_15
theorem P93_0 : rSnd lab M93 0 B93_0 := by
  refine s_Ent ?_
  refine s_Ll gk1 (Or.inr ⟨1, D93_0, rfl⟩) ?_
  refine s_Ls dk3 (show 4 < 8 from by decide) (Or.inr ⟨3, D93_1, rfl⟩) ?_
  refine s_ic D93_2 kc_i_0 (by decide) ?_
  refine s_Is sk5 (show 5 < 8 from by decide) (Or.inl D93_3) ?_
  exact P93_5
theorem D94_0 : rDec M94 0 (.aload_n 0) 1 1 := ⟨by decide +kernel, rfl⟩
theorem D94_1 : rDec M94 1 (.iload_n 1) 1 2 := ⟨by decide +kernel, rfl⟩
theorem D94_2 : rDec M94 2 (.invokevirtual 116) 3 5 := ⟨by decide +kernel, rfl⟩
theorem D94_5 : rDec M94 5 (.ifCond .ne 13) 3 8 := ⟨by decide +kernel, rfl⟩
theorem D94_8 : rDec M94 8 (.new 120) 3 11 := ⟨by decide +kernel, rfl⟩
theorem D94_11 : rDec M94 11 (.dup) 1 12 := ⟨by decide +kernel, rfl⟩
theorem D94_12 : rDec M94 12 (.ldc 122) 2 14 := ⟨by decide +kernel, rfl⟩
theorem D94_14 : rDec M94 14 (.invokespecial 124) 3 17 := ⟨by decide +kernel, rfl⟩
theorem D94_17 : rDec M94 17 (.athrow) 1 18 := ⟨by decide +kernel, rfl⟩
theorem D94_18 : rDec M94 18 (.iload_n 2) 1 19 := ⟨by decide +kernel, rfl⟩
theorem D94_19 : rDec M94 19 (.ifCond .lt 23) 3 22 := ⟨by decide +kernel, rfl⟩
theorem D94_22 : rDec M94 22 (.iload_n 2) 1 23 := ⟨by decide +kernel, rfl⟩
theorem D94_23 : rDec M94 23 (.aload_n 0) 1 24 := ⟨by decide +kernel, rfl⟩
theorem D94_24 : rDec M94 24 (.getfield 11) 3 27 := ⟨by decide +kernel, rfl⟩
theorem D94_27 : rDec M94 27 (.iload_n 1) 1 28 := ⟨by decide +kernel, rfl⟩
theorem D94_28 : rDec M94 28 (.aaload) 1 29 := ⟨by decide +kernel, rfl⟩
theorem D94_29 : rDec M94 29 (.getfield 131) 3 32 := ⟨by decide +kernel, rfl⟩
theorem D94_32 : rDec M94 32 (.if_icmp .ge 10) 3 35 := ⟨by decide +kernel, rfl⟩
theorem D94_35 : rDec M94 35 (.iload_n 3) 1 36 := ⟨by decide +kernel, rfl⟩
theorem D94_36 : rDec M94 36 (.invokestatic 134) 3 39 := ⟨by decide +kernel, rfl⟩
theorem D94_39 : rDec M94 39 (.ifCond .ne 13) 3 42 := ⟨by decide +kernel, rfl⟩
theorem D94_42 : rDec M94 42 (.new 120) 3 45 := ⟨by decide +kernel, rfl⟩
theorem D94_45 : rDec M94 45 (.dup) 1 46 := ⟨by decide +kernel, rfl⟩
theorem D94_46 : rDec M94 46 (.ldc 137) 2 48 := ⟨by decide +kernel, rfl⟩
theorem D94_48 : rDec M94 48 (.invokespecial 124) 3 51 := ⟨by decide +kernel, rfl⟩
theorem D94_51 : rDec M94 51 (.athrow) 1 52 := ⟨by decide +kernel, rfl⟩
theorem D94_52 : rDec M94 52 (.aload_n 0) 1 53 := ⟨by decide +kernel, rfl⟩
theorem D94_53 : rDec M94 53 (.getfield 11) 3 56 := ⟨by decide +kernel, rfl⟩
theorem D94_56 : rDec M94 56 (.iload_n 1) 1 57 := ⟨by decide +kernel, rfl⟩
theorem D94_57 : rDec M94 57 (.aaload) 1 58 := ⟨by decide +kernel, rfl⟩
theorem D94_58 : rDec M94 58 (.iload_n 2) 1 59 := ⟨by decide +kernel, rfl⟩
theorem D94_59 : rDec M94 59 (.iload_n 3) 1 60 := ⟨by decide +kernel, rfl⟩
theorem D94_60 : rDec M94 60 (.invokevirtual 139) 3 63 := ⟨by decide +kernel, rfl⟩
theorem D94_63 : rDec M94 63 (.ireturn) 1 64 := ⟨by decide +kernel, rfl⟩
theorem P94_52 : rSnd lab M94 52 B94_52 := by
  refine s_Al gk0 (Or.inr ⟨0, D94_52, rfl⟩) ?_
  refine s_Gf (ci := 0) (r := ("WordWright", kT0, 13)) rfl (show 0 < 13 from by decide) rfl (Or.inl wd436) (Or.inl rfl) rfl D94_53 ?_
  refine s_Il gk1 (Or.inr ⟨1, D94_56, rfl⟩) ?_
  refine s_Aal D94_57 ?_
  refine s_Il gk2 (Or.inr ⟨2, D94_58, rfl⟩) ?_
  refine s_Il gk3 (Or.inr ⟨3, D94_59, rfl⟩) ?_
  refine s_Cv (ln := 3) (kd := 8) (C := "WordWright$Language") (by decide) (by decide +kernel) rfl (l_V rfl ok231 rfl wd1373 wd505 wd506 D94_60.1) (?_ : rSnd _ _ 63 _)
  exact s_Ri (Or.inl rfl) D94_63.1
theorem P94_42 : rSnd lab M94 42 B94_42 := by
  exact s_Thr (ik := 120) (is := 137) (ic := 124) (text := "no such STATE, or LETTER") (names := ["java/lang/RuntimeException", "java/lang/Exception"]) false rfl rfl (by decide) (by decide +kernel) (by decide +kernel) (by decide) rfl wd1351 wd38 (List.mem_of_getElem? (i := 12) rfl) at_WordWright_124 at_WordWright_124g D94_42.1 D94_45.1 (Or.inl ⟨rfl, D94_46.1, D94_48.1, D94_51.1⟩)
theorem P94_18 : rSnd lab M94 18 B94_18 := by
  refine s_Il gk2 (Or.inr ⟨2, D94_18, rfl⟩) ?_
  refine s_If c_lt (fun _ => rfl) (fun _ _ => rfl) (b_lt (tg := 42) (by decide)) D94_19.1 P94_42 (?_ : rSnd _ _ 22 _)
  refine s_Il gk2 (Or.inr ⟨2, D94_22, rfl⟩) ?_
  refine s_Al gk0 (Or.inr ⟨0, D94_23, rfl⟩) ?_
  refine s_Gf (ci := 0) (r := ("WordWright", kT0, 13)) rfl (show 0 < 13 from by decide) rfl (Or.inl wd436) (Or.inl rfl) rfl D94_24 ?_
  refine s_Il gk1 (Or.inr ⟨1, D94_27, rfl⟩) ?_
  refine s_Aal D94_28 ?_
  refine s_Gf (ci := 3) (r := ("WordWright$Language", kT3, 3)) rfl (show 0 < 3 from by decide) rfl (Or.inl wd74) (Or.inl rfl) rfl D94_29 ?_
  refine s_Ic c_ge (i_ge (tg := 42) (by decide)) D94_32.1 P94_42 (?_ : rSnd _ _ 35 _)
  refine s_Il gk3 (Or.inr ⟨3, D94_35, rfl⟩) ?_
  refine s_Cs (id := 88) rfl (l_S rfl ok75 rfl wd1266 wd1267 D94_36.1) (?_ : rSnd _ _ 39 _)
  refine s_If c_ne (fun _ => rfl) (fun _ _ => rfl) (b_ne (tg := 52) (by decide)) D94_39.1 P94_52 (?_ : rSnd _ _ 42 _)
  exact P94_42
theorem P94_0 : rSnd lab M94 0 B94_0 := by
  refine s_Ent ?_
  refine s_Al gk0 (Or.inr ⟨0, D94_0, rfl⟩) ?_
  refine s_Il gk1 (Or.inr ⟨1, D94_1, rfl⟩) ?_
  refine s_Cv (ln := 3) (kd := 2) (C := "WordWright") (by decide) (by decide +kernel) rfl (l_V rfl ok74 rfl wd1269 wd1271 ws52 D94_2.1) (?_ : rSnd _ _ 5 _)
  refine s_If c_ne (fun _ => rfl) (fun _ _ => rfl) (b_ne (tg := 18) (by decide)) D94_5.1 P94_18 (?_ : rSnd _ _ 8 _)
  exact s_Thr (ik := 120) (is := 122) (ic := 124) (text := "no such LANGUAGE") (names := ["java/lang/RuntimeException", "java/lang/Exception"]) false rfl rfl (by decide) (by decide +kernel) (by decide +kernel) (by decide) rfl wd1351 wd38 (List.mem_of_getElem? (i := 3) rfl) at_WordWright_124 at_WordWright_124g D94_8.1 D94_11.1 (Or.inl ⟨rfl, D94_12.1, D94_14.1, D94_17.1⟩)
theorem D95_0 : rDec M95 0 (.iload_n 1) 1 1 := ⟨by decide +kernel, rfl⟩
theorem D95_1 : rDec M95 1 (.iconst (-1)) 1 2 := ⟨by decide +kernel, rfl⟩
theorem D95_2 : rDec M95 2 (.if_icmp .lt 21) 3 5 := ⟨by decide +kernel, rfl⟩
theorem D95_5 : rDec M95 5 (.iload_n 1) 1 6 := ⟨by decide +kernel, rfl⟩
theorem D95_6 : rDec M95 6 (.aload_n 0) 1 7 := ⟨by decide +kernel, rfl⟩
theorem D95_7 : rDec M95 7 (.getfield 68) 3 10 := ⟨by decide +kernel, rfl⟩
theorem D95_10 : rDec M95 10 (.getfield 282) 3 13 := ⟨by decide +kernel, rfl⟩
theorem D95_13 : rDec M95 13 (.if_icmp .ge 10) 3 16 := ⟨by decide +kernel, rfl⟩
theorem D95_16 : rDec M95 16 (.iload_n 2) 1 17 := ⟨by decide +kernel, rfl⟩
theorem D95_17 : rDec M95 17 (.invokestatic 134) 3 20 := ⟨by decide +kernel, rfl⟩
theorem D95_20 : rDec M95 20 (.ifCond .ne 14) 3 23 := ⟨by decide +kernel, rfl⟩
theorem D95_23 : rDec M95 23 (.new 120) 3 26 := ⟨by decide +kernel, rfl⟩
theorem D95_26 : rDec M95 26 (.dup) 1 27 := ⟨by decide +kernel, rfl⟩
theorem D95_27 : rDec M95 27 (.ldc_w 285) 3 30 := ⟨by decide +kernel, rfl⟩
theorem D95_30 : rDec M95 30 (.invokespecial 124) 3 33 := ⟨by decide +kernel, rfl⟩
theorem D95_33 : rDec M95 33 (.athrow) 1 34 := ⟨by decide +kernel, rfl⟩
theorem D95_34 : rDec M95 34 (.iload_n 1) 1 35 := ⟨by decide +kernel, rfl⟩
theorem D95_35 : rDec M95 35 (.iconst (-1)) 1 36 := ⟨by decide +kernel, rfl⟩
theorem D95_36 : rDec M95 36 (.if_icmp .eq 39) 3 39 := ⟨by decide +kernel, rfl⟩
theorem D95_75 : rDec M95 75 (.aload_n 0) 1 76 := ⟨by decide +kernel, rfl⟩
theorem D95_76 : rDec M95 76 (.getfield 68) 3 79 := ⟨by decide +kernel, rfl⟩
theorem D95_79 : rDec M95 79 (.iload_n 1) 1 80 := ⟨by decide +kernel, rfl⟩
theorem D95_80 : rDec M95 80 (.iload_n 2) 1 81 := ⟨by decide +kernel, rfl⟩
theorem D95_81 : rDec M95 81 (.invokevirtual 292) 3 84 := ⟨by decide +kernel, rfl⟩
theorem D95_84 : rDec M95 84 (.ireturn) 1 85 := ⟨by decide +kernel, rfl⟩
theorem P95_75 : rSnd lab M95 75 B95_75 := by
  refine s_Al gk0 (Or.inr ⟨0, D95_75, rfl⟩) ?_
  refine s_Gf (ci := 0) (r := ("WordWright", kT0, 13)) rfl (show 11 < 13 from by decide) rfl (Or.inl wd447) (Or.inl rfl) rfl D95_76 ?_
  refine s_Il gk1 (Or.inr ⟨1, D95_79, rfl⟩) ?_
  refine s_Il gk2 (Or.inr ⟨2, D95_80, rfl⟩) ?_
  refine s_Cv (ln := 3) (kd := 14) (C := "WordWright$Schemas") (by decide) (by decide +kernel) rfl (l_V rfl ok259 rfl wd1578 wd1579 wd1580 D95_81.1) (?_ : rSnd _ _ 84 _)
  exact s_Ri (Or.inl rfl) D95_84.1
theorem P95_34 : rSnd lab M95 34 B95_34 := by
  refine s_Il gk1 (Or.inr ⟨1, D95_34, rfl⟩) ?_
  refine s_ic D95_35 kc_i_m1 (by decide) ?_
  refine s_Ic c_eq (i_eq (tg := 75) (by decide)) D95_36.1 P95_75 (?_ : rSnd _ _ 39 _)
  exact rSnd_none
theorem P95_23 : rSnd lab M95 23 B95_23 := by
  exact s_Thr (ik := 120) (is := 285) (ic := 124) (text := "no such PARENT, or LETTER") (names := ["java/lang/RuntimeException", "java/lang/Exception"]) true rfl rfl (by decide) (by decide +kernel) (by decide +kernel) (by decide) rfl wd1351 wd38 (List.mem_of_getElem? (i := 13) rfl) at_WordWright_124 at_WordWright_124g D95_23.1 D95_26.1 (Or.inr ⟨rfl, D95_27.1, D95_30.1, D95_33.1⟩)
theorem P95_0 : rSnd lab M95 0 B95_0 := by
  refine s_Ent ?_
  refine s_Il gk1 (Or.inr ⟨1, D95_0, rfl⟩) ?_
  refine s_ic D95_1 kc_i_m1 (by decide) ?_
  refine s_Ic c_lt (i_lt (tg := 23) (by decide)) D95_2.1 P95_23 (?_ : rSnd _ _ 5 _)
  refine s_Il gk1 (Or.inr ⟨1, D95_5, rfl⟩) ?_
  refine s_Al gk0 (Or.inr ⟨0, D95_6, rfl⟩) ?_
  refine s_Gf (ci := 0) (r := ("WordWright", kT0, 13)) rfl (show 11 < 13 from by decide) rfl (Or.inl wd447) (Or.inl rfl) rfl D95_7 ?_
  refine s_Gf (ci := 6) (r := ("WordWright$Schemas", kT6, 8)) rfl (show 2 < 8 from by decide) rfl (Or.inl wd350) (Or.inl rfl) rfl D95_10 ?_
  refine s_Ic c_ge (i_ge (tg := 23) (by decide)) D95_13.1 P95_23 (?_ : rSnd _ _ 16 _)
  refine s_Il gk2 (Or.inr ⟨2, D95_16, rfl⟩) ?_
  refine s_Cs (id := 88) rfl (l_S rfl ok75 rfl wd1266 wd1267 D95_17.1) (?_ : rSnd _ _ 20 _)
  refine s_If c_ne (fun _ => rfl) (fun _ _ => rfl) (b_ne (tg := 34) (by decide)) D95_20.1 P95_34 (?_ : rSnd _ _ 23 _)
  exact P95_23
theorem D96_0 : rDec M96 0 (.iconst 0) 1 1 := ⟨by decide +kernel, rfl⟩
theorem D96_1 : rDec M96 1 (.istore_n 1) 1 2 := ⟨by decide +kernel, rfl⟩
theorem D96_2 : rDec M96 2 (.iload_n 1) 1 3 := ⟨by decide +kernel, rfl⟩
theorem D96_3 : rDec M96 3 (.aload_n 0) 1 4 := ⟨by decide +kernel, rfl⟩
theorem D96_4 : rDec M96 4 (.getfield 83) 3 7 := ⟨by decide +kernel, rfl⟩
theorem D96_7 : rDec M96 7 (.if_icmp .ge 27) 3 10 := ⟨by decide +kernel, rfl⟩
theorem D96_10 : rDec M96 10 (.aload_n 0) 1 11 := ⟨by decide +kernel, rfl⟩
theorem D96_11 : rDec M96 11 (.getfield 11) 3 14 := ⟨by decide +kernel, rfl⟩
theorem D96_14 : rDec M96 14 (.iload_n 1) 1 15 := ⟨by decide +kernel, rfl⟩
theorem D96_15 : rDec M96 15 (.aaload) 1 16 := ⟨by decide +kernel, rfl⟩
theorem D96_16 : rDec M96 16 (.aload_n 0) 1 17 := ⟨by decide +kernel, rfl⟩
theorem D96_17 : rDec M96 17 (.getfield 22) 3 20 := ⟨by decide +kernel, rfl⟩
theorem D96_20 : rDec M96 20 (.invokevirtual 423) 3 23 := ⟨by decide +kernel, rfl⟩
theorem D96_23 : rDec M96 23 (.ifCond .eq 5) 3 26 := ⟨by decide +kernel, rfl⟩
theorem D96_26 : rDec M96 26 (.iload_n 1) 1 27 := ⟨by decide +kernel, rfl⟩
theorem D96_27 : rDec M96 27 (.ireturn) 1 28 := ⟨by decide +kernel, rfl⟩
theorem D96_28 : rDec M96 28 (.iinc 1 1) 3 31 := ⟨by decide +kernel, rfl⟩
theorem D96_31 : rDec M96 31 (.goto (-29)) 3 34 := ⟨by decide +kernel, rfl⟩
theorem D96_34 : rDec M96 34 (.iconst (-1)) 1 35 := ⟨by decide +kernel, rfl⟩
theorem D96_35 : rDec M96 35 (.ireturn) 1 36 := ⟨by decide +kernel, rfl⟩
theorem P96_34 : rSnd lab M96 34 B96_34 := by
  refine s_ic D96_34 kc_i_m1 (by decide) ?_
  exact s_Ri (Or.inl rfl) D96_35.1
theorem P96_28 : rSnd lab M96 28 B96_28 := by
  refine s_Inc gk1 sk1 (show 1 < 2 from by decide) kc_i_1 D96_28 ?_
  exact s_Go (pc' := 2) D96_31.1 (by decide) (s_Jb rfl)
theorem P96_2 : rSnd lab M96 2 B96_2 := by
  refine s_Il gk1 (Or.inr ⟨1, D96_2, rfl⟩) ?_
  refine s_Al gk0 (Or.inr ⟨0, D96_3, rfl⟩) ?_
  refine s_Gf (ci := 0) (r := ("WordWright", kT0, 13)) rfl (show 1 < 13 from by decide) rfl (Or.inl wd437) (Or.inl rfl) rfl D96_4 ?_
  refine s_Ic c_ge (i_ge (tg := 34) (by decide)) D96_7.1 P96_34 (?_ : rSnd _ _ 10 _)
  refine s_Al gk0 (Or.inr ⟨0, D96_10, rfl⟩) ?_
  refine s_Gf (ci := 0) (r := ("WordWright", kT0, 13)) rfl (show 0 < 13 from by decide) rfl (Or.inl wd436) (Or.inl rfl) rfl D96_11 ?_
  refine s_Il gk1 (Or.inr ⟨1, D96_14, rfl⟩) ?_
  refine s_Aal D96_15 ?_
  refine s_Al gk0 (Or.inr ⟨0, D96_16, rfl⟩) ?_
  refine s_Gf (ci := 0) (r := ("WordWright", kT0, 13)) rfl (show 4 < 13 from by decide) rfl (Or.inl wd440) (Or.inl rfl) rfl D96_17 ?_
  refine s_Cv (ln := 3) (kd := 8) (C := "WordWright$Language") (by decide) (by decide +kernel) rfl (l_V rfl ok246 rfl wd1338 wd685 wd686 D96_20.1) (?_ : rSnd _ _ 23 _)
  refine s_If c_eq (fun _ => rfl) (fun _ _ => rfl) (b_eq (tg := 28) (by decide)) D96_23.1 P96_28 (?_ : rSnd _ _ 26 _)
  refine s_Il gk1 (Or.inr ⟨1, D96_26, rfl⟩) ?_
  exact s_Ri (Or.inl rfl) D96_27.1
theorem P96_0 : rSnd lab M96 0 B96_0 := by
  refine s_Ent ?_
  refine s_ic D96_0 kc_i_0 (by decide) ?_
  refine s_Is sk1 (show 1 < 2 from by decide) (Or.inr ⟨1, D96_1, rfl⟩) ?_
  exact P96_2
theorem D97_0 : rDec M97 0 (.aload_n 0) 1 1 := ⟨by decide +kernel, rfl⟩
theorem D97_1 : rDec M97 1 (.iload_n 1) 1 2 := ⟨by decide +kernel, rfl⟩
theorem D97_2 : rDec M97 2 (.invokevirtual 116) 3 5 := ⟨by decide +kernel, rfl⟩
theorem D97_5 : rDec M97 5 (.ifCond .ne 13) 3 8 := ⟨by decide +kernel, rfl⟩
theorem D97_8 : rDec M97 8 (.new 120) 3 11 := ⟨by decide +kernel, rfl⟩
theorem D97_11 : rDec M97 11 (.dup) 1 12 := ⟨by decide +kernel, rfl⟩
theorem D97_12 : rDec M97 12 (.ldc 122) 2 14 := ⟨by decide +kernel, rfl⟩
theorem D97_14 : rDec M97 14 (.invokespecial 124) 3 17 := ⟨by decide +kernel, rfl⟩
theorem D97_17 : rDec M97 17 (.athrow) 1 18 := ⟨by decide +kernel, rfl⟩
theorem D97_18 : rDec M97 18 (.iload_n 2) 1 19 := ⟨by decide +kernel, rfl⟩
theorem D97_19 : rDec M97 19 (.ifCond .lt 8) 3 22 := ⟨by decide +kernel, rfl⟩
theorem D97_22 : rDec M97 22 (.iload_n 2) 1 23 := ⟨by decide +kernel, rfl⟩
theorem D97_23 : rDec M97 23 (.iconst 5) 1 24 := ⟨by decide +kernel, rfl⟩
theorem D97_24 : rDec M97 24 (.if_icmp .le 13) 3 27 := ⟨by decide +kernel, rfl⟩
theorem D97_27 : rDec M97 27 (.new 91) 3 30 := ⟨by decide +kernel, rfl⟩
theorem D97_30 : rDec M97 30 (.dup) 1 31 := ⟨by decide +kernel, rfl⟩
theorem D97_31 : rDec M97 31 (.ldc 125) 2 33 := ⟨by decide +kernel, rfl⟩
theorem D97_33 : rDec M97 33 (.invokespecial 95) 3 36 := ⟨by decide +kernel, rfl⟩
theorem D97_36 : rDec M97 36 (.athrow) 1 37 := ⟨by decide +kernel, rfl⟩
theorem D97_37 : rDec M97 37 (.aload_n 0) 1 38 := ⟨by decide +kernel, rfl⟩
theorem D97_38 : rDec M97 38 (.aload_n 0) 1 39 := ⟨by decide +kernel, rfl⟩
theorem D97_39 : rDec M97 39 (.getfield 11) 3 42 := ⟨by decide +kernel, rfl⟩
theorem D97_42 : rDec M97 42 (.iload_n 1) 1 43 := ⟨by decide +kernel, rfl⟩
theorem D97_43 : rDec M97 43 (.aaload) 1 44 := ⟨by decide +kernel, rfl⟩
theorem D97_44 : rDec M97 44 (.iload_n 2) 1 45 := ⟨by decide +kernel, rfl⟩
theorem D97_45 : rDec M97 45 (.invokevirtual 127) 3 48 := ⟨by decide +kernel, rfl⟩
theorem D97_48 : rDec M97 48 (.ireturn) 1 49 := ⟨by decide +kernel, rfl⟩
theorem P97_37 : rSnd lab M97 37 B97_37 := by
  refine s_Al gk0 (Or.inr ⟨0, D97_37, rfl⟩) ?_
  refine s_Al gk0 (Or.inr ⟨0, D97_38, rfl⟩) ?_
  refine s_Gf (ci := 0) (r := ("WordWright", kT0, 13)) rfl (show 0 < 13 from by decide) rfl (Or.inl wd436) (Or.inl rfl) rfl D97_39 ?_
  refine s_Il gk1 (Or.inr ⟨1, D97_42, rfl⟩) ?_
  refine s_Aal D97_43 ?_
  refine s_Il gk2 (Or.inr ⟨2, D97_44, rfl⟩) ?_
  refine s_Cv (ln := 3) (kd := 2) (C := "WordWright") (by decide) (by decide +kernel) rfl (l_V rfl ok82 rfl wd772 wd774 ws34 D97_45.1) (?_ : rSnd _ _ 48 _)
  exact s_Ri (Or.inl rfl) D97_48.1
theorem P97_27 : rSnd lab M97 27 B97_27 := by
  exact s_Thr (ik := 91) (is := 125) (ic := 95) (text := "what is not 0 to 5") (names := ["java/lang/RuntimeException", "java/lang/Exception"]) false rfl rfl (by decide) (by decide +kernel) (by decide +kernel) (by decide) rfl wd1277 wd27 (List.mem_of_getElem? (i := 14) rfl) at_WordWright_95 at_WordWright_95g D97_27.1 D97_30.1 (Or.inl ⟨rfl, D97_31.1, D97_33.1, D97_36.1⟩)
theorem P97_18 : rSnd lab M97 18 B97_18 := by
  refine s_Il gk2 (Or.inr ⟨2, D97_18, rfl⟩) ?_
  refine s_If c_lt (fun _ => rfl) (fun _ _ => rfl) (b_lt (tg := 27) (by decide)) D97_19.1 P97_27 (?_ : rSnd _ _ 22 _)
  refine s_Il gk2 (Or.inr ⟨2, D97_22, rfl⟩) ?_
  refine s_ic D97_23 kc_i_5 (by decide) ?_
  refine s_Ic c_le (i_le (tg := 37) (by decide)) D97_24.1 P97_37 (?_ : rSnd _ _ 27 _)
  exact P97_27
theorem P97_0 : rSnd lab M97 0 B97_0 := by
  refine s_Ent ?_
  refine s_Al gk0 (Or.inr ⟨0, D97_0, rfl⟩) ?_
  refine s_Il gk1 (Or.inr ⟨1, D97_1, rfl⟩) ?_
  refine s_Cv (ln := 3) (kd := 2) (C := "WordWright") (by decide) (by decide +kernel) rfl (l_V rfl ok74 rfl wd1269 wd1271 ws52 D97_2.1) (?_ : rSnd _ _ 5 _)
  refine s_If c_ne (fun _ => rfl) (fun _ _ => rfl) (b_ne (tg := 18) (by decide)) D97_5.1 P97_18 (?_ : rSnd _ _ 8 _)
  exact s_Thr (ik := 120) (is := 122) (ic := 124) (text := "no such LANGUAGE") (names := ["java/lang/RuntimeException", "java/lang/Exception"]) false rfl rfl (by decide) (by decide +kernel) (by decide +kernel) (by decide) rfl wd1351 wd38 (List.mem_of_getElem? (i := 3) rfl) at_WordWright_124 at_WordWright_124g D97_8.1 D97_11.1 (Or.inl ⟨rfl, D97_12.1, D97_14.1, D97_17.1⟩)
theorem D98_0 : rDec M98 0 (.aload_n 0) 1 1 := ⟨by decide +kernel, rfl⟩
theorem D98_1 : rDec M98 1 (.getfield 68) 3 4 := ⟨by decide +kernel, rfl⟩
theorem D98_4 : rDec M98 4 (.getfield 271) 3 7 := ⟨by decide +kernel, rfl⟩
theorem D98_7 : rDec M98 7 (.iconst 4) 1 8 := ⟨by decide +kernel, rfl⟩
theorem D98_8 : rDec M98 8 (.if_icmp .lt 14) 3 11 := ⟨by decide +kernel, rfl⟩
theorem D98_22 : rDec M98 22 (.aload_n 0) 1 23 := ⟨by decide +kernel, rfl⟩
theorem D98_23 : rDec M98 23 (.getfield 68) 3 26 := ⟨by decide +kernel, rfl⟩
theorem D98_26 : rDec M98 26 (.dup) 1 27 := ⟨by decide +kernel, rfl⟩
theorem D98_27 : rDec M98 27 (.getfield 271) 3 30 := ⟨by decide +kernel, rfl⟩
theorem D98_30 : rDec M98 30 (.iconst 1) 1 31 := ⟨by decide +kernel, rfl⟩
theorem D98_31 : rDec M98 31 (.iadd) 1 32 := ⟨by decide +kernel, rfl⟩
theorem D98_32 : rDec M98 32 (.putfield 271) 3 35 := ⟨by decide +kernel, rfl⟩
theorem D98_35 : rDec M98 35 (.aload_n 0) 1 36 := ⟨by decide +kernel, rfl⟩
theorem D98_36 : rDec M98 36 (.getfield 68) 3 39 := ⟨by decide +kernel, rfl⟩
theorem D98_39 : rDec M98 39 (.getfield 271) 3 42 := ⟨by decide +kernel, rfl⟩
theorem D98_42 : rDec M98 42 (.iconst 1) 1 43 := ⟨by decide +kernel, rfl⟩
theorem D98_43 : rDec M98 43 (.isub) 1 44 := ⟨by decide +kernel, rfl⟩
theorem D98_44 : rDec M98 44 (.ireturn) 1 45 := ⟨by decide +kernel, rfl⟩
theorem P98_22 : rSnd lab M98 22 B98_22 := by
  refine s_Al gk0 (Or.inr ⟨0, D98_22, rfl⟩) ?_
  refine s_Gf (ci := 0) (r := ("WordWright", kT0, 13)) rfl (show 11 < 13 from by decide) rfl (Or.inl wd447) (Or.inl rfl) rfl D98_23 ?_
  refine s_Dup D98_26 ?_
  refine s_Gf (ci := 6) (r := ("WordWright$Schemas", kT6, 8)) rfl (show 0 < 8 from by decide) rfl (Or.inl wd346) (Or.inl rfl) rfl D98_27 ?_
  refine s_ic D98_30 kc_i_1 (by decide) ?_
  refine s_Bin q_iadd n_add rG2_x e_add D98_31 ?_
  refine s_Pf (ci := 6) (r := ("WordWright$Schemas", kT6, 8)) rfl (show 0 < 8 from by decide) rfl (Or.inl ⟨rfl, Or.inl wd346⟩) (Or.inl rfl) rfl (by decide) D98_32 ?_
  refine s_Al gk0 (Or.inr ⟨0, D98_35, rfl⟩) ?_
  refine s_Gf (ci := 0) (r := ("WordWright", kT0, 13)) rfl (show 11 < 13 from by decide) rfl (Or.inl wd447) (Or.inl rfl) rfl D98_36 ?_
  refine s_Gf (ci := 6) (r := ("WordWright$Schemas", kT6, 8)) rfl (show 0 < 8 from by decide) rfl (Or.inl wd346) (Or.inl rfl) rfl D98_39 ?_
  refine s_ic D98_42 kc_i_1 (by decide) ?_
  refine s_Bin q_isub n_sub rG2_x rE2_x D98_43 ?_
  exact s_Ri (Or.inl rfl) D98_44.1
theorem P98_0 : rSnd lab M98 0 B98_0 := by
  refine s_Ent ?_
  refine s_Al gk0 (Or.inr ⟨0, D98_0, rfl⟩) ?_
  refine s_Gf (ci := 0) (r := ("WordWright", kT0, 13)) rfl (show 11 < 13 from by decide) rfl (Or.inl wd447) (Or.inl rfl) rfl D98_1 ?_
  refine s_Gf (ci := 6) (r := ("WordWright$Schemas", kT6, 8)) rfl (show 0 < 8 from by decide) rfl (Or.inl wd346) (Or.inl rfl) rfl D98_4 ?_
  refine s_ic D98_7 kc_i_4 (by decide) ?_
  refine s_Ic c_lt (i_lt (tg := 22) (by decide)) D98_8.1 P98_22 (?_ : rSnd _ _ 11 _)
  exact rSnd_none
theorem D99_0 : rDec M99 0 (.aload_n 0) 1 1 := ⟨by decide +kernel, rfl⟩
theorem D99_1 : rDec M99 1 (.iload_n 1) 1 2 := ⟨by decide +kernel, rfl⟩
theorem D99_2 : rDec M99 2 (.invokevirtual 171) 3 5 := ⟨by decide +kernel, rfl⟩
theorem D99_5 : rDec M99 5 (.ifCond .ne 13) 3 8 := ⟨by decide +kernel, rfl⟩
theorem D99_8 : rDec M99 8 (.new 120) 3 11 := ⟨by decide +kernel, rfl⟩
theorem D99_11 : rDec M99 11 (.dup) 1 12 := ⟨by decide +kernel, rfl⟩
theorem D99_12 : rDec M99 12 (.ldc 174) 2 14 := ⟨by decide +kernel, rfl⟩
theorem D99_14 : rDec M99 14 (.invokespecial 124) 3 17 := ⟨by decide +kernel, rfl⟩
theorem D99_17 : rDec M99 17 (.athrow) 1 18 := ⟨by decide +kernel, rfl⟩
theorem P99_0 : rSnd lab M99 0 B99_0 := by
  refine s_Ent ?_
  refine s_Al gk0 (Or.inr ⟨0, D99_0, rfl⟩) ?_
  refine s_Il gk1 (Or.inr ⟨1, D99_1, rfl⟩) ?_
  refine s_Cv (ln := 3) (kd := 2) (C := "WordWright") (by decide) (by decide +kernel) rfl (l_V rfl ok76 rfl wd1273 wd1275 ws53 D99_2.1) (?_ : rSnd _ _ 5 _)
  refine s_If c_ne (fun _ => rfl) (fun _ _ => rfl) (b_ne (tg := 18) (by decide)) D99_5.1 rSnd_none (?_ : rSnd _ _ 8 _)
  exact s_Thr (ik := 120) (is := 174) (ic := 124) (text := "no such MACHINE") (names := ["java/lang/RuntimeException", "java/lang/Exception"]) false rfl rfl (by decide) (by decide +kernel) (by decide +kernel) (by decide) rfl wd1351 wd38 (List.mem_of_getElem? (i := 0) rfl) at_WordWright_124 at_WordWright_124g D99_8.1 D99_11.1 (Or.inl ⟨rfl, D99_12.1, D99_14.1, D99_17.1⟩)
theorem D100_0 : rDec M100 0 (.aload_n 0) 1 1 := ⟨by decide +kernel, rfl⟩
theorem D100_1 : rDec M100 1 (.invokevirtual 262) 3 4 := ⟨by decide +kernel, rfl⟩
theorem D100_4 : rDec M100 4 (.aload_n 0) 1 5 := ⟨by decide +kernel, rfl⟩
theorem D100_5 : rDec M100 5 (.getfield 54) 3 8 := ⟨by decide +kernel, rfl⟩
theorem D100_8 : rDec M100 8 (.getfield 268) 3 11 := ⟨by decide +kernel, rfl⟩
theorem D100_11 : rDec M100 11 (.ireturn) 1 12 := ⟨by decide +kernel, rfl⟩
theorem P100_0 : rSnd lab M100 0 B100_0 := by
  refine s_Ent ?_
  refine s_Al gk0 (Or.inr ⟨0, D100_0, rfl⟩) ?_
  refine s_Cv (ln := 3) (kd := 2) (C := "WordWright") (by decide) (by decide +kernel) rfl (l_V rfl ok102 rfl wd480 wd482 ws0 D100_1.1) (?_ : rSnd _ _ 4 _)
  refine s_Al gk0 (Or.inr ⟨0, D100_4, rfl⟩) ?_
  refine s_Gf (ci := 0) (r := ("WordWright", kT0, 13)) rfl (show 9 < 13 from by decide) rfl (Or.inl wd445) (Or.inl rfl) rfl D100_5 ?_
  refine s_Gf (ci := 2) (r := ("WordWright$Equations", kT2, 8)) rfl (show 6 < 8 from by decide) rfl (Or.inl wd275) (Or.inl rfl) rfl D100_8 ?_
  exact s_Ri (Or.inl rfl) D100_11.1
theorem D101_0 : rDec M101 0 (.iload_n 1) 1 1 := ⟨by decide +kernel, rfl⟩
theorem D101_1 : rDec M101 1 (.invokestatic 225) 3 4 := ⟨by decide +kernel, rfl⟩
theorem D101_4 : rDec M101 4 (.ifCond .ne 13) 3 7 := ⟨by decide +kernel, rfl⟩
theorem D101_7 : rDec M101 7 (.new 120) 3 10 := ⟨by decide +kernel, rfl⟩
theorem D101_10 : rDec M101 10 (.dup) 1 11 := ⟨by decide +kernel, rfl⟩
theorem D101_11 : rDec M101 11 (.ldc 228) 2 13 := ⟨by decide +kernel, rfl⟩
theorem D101_13 : rDec M101 13 (.invokespecial 124) 3 16 := ⟨by decide +kernel, rfl⟩
theorem D101_16 : rDec M101 16 (.athrow) 1 17 := ⟨by decide +kernel, rfl⟩
theorem D101_17 : rDec M101 17 (.iload_n 2) 1 18 := ⟨by decide +kernel, rfl⟩
theorem D101_18 : rDec M101 18 (.ifCond .lt 8) 3 21 := ⟨by decide +kernel, rfl⟩
theorem D101_21 : rDec M101 21 (.iload_n 2) 1 22 := ⟨by decide +kernel, rfl⟩
theorem D101_22 : rDec M101 22 (.iconst 2) 1 23 := ⟨by decide +kernel, rfl⟩
theorem D101_23 : rDec M101 23 (.if_icmp .le 14) 3 26 := ⟨by decide +kernel, rfl⟩
theorem D101_26 : rDec M101 26 (.new 91) 3 29 := ⟨by decide +kernel, rfl⟩
theorem D101_29 : rDec M101 29 (.dup) 1 30 := ⟨by decide +kernel, rfl⟩
theorem D101_30 : rDec M101 30 (.ldc_w 350) 3 33 := ⟨by decide +kernel, rfl⟩
theorem D101_33 : rDec M101 33 (.invokespecial 95) 3 36 := ⟨by decide +kernel, rfl⟩
theorem D101_36 : rDec M101 36 (.athrow) 1 37 := ⟨by decide +kernel, rfl⟩
theorem D101_37 : rDec M101 37 (.aload_n 0) 1 38 := ⟨by decide +kernel, rfl⟩
theorem D101_38 : rDec M101 38 (.getfield 54) 3 41 := ⟨by decide +kernel, rfl⟩
theorem D101_41 : rDec M101 41 (.getfield 352) 3 44 := ⟨by decide +kernel, rfl⟩
theorem D101_44 : rDec M101 44 (.iload_n 1) 1 45 := ⟨by decide +kernel, rfl⟩
theorem D101_45 : rDec M101 45 (.iaload) 1 46 := ⟨by decide +kernel, rfl⟩
theorem D101_46 : rDec M101 46 (.istore_n 3) 1 47 := ⟨by decide +kernel, rfl⟩
theorem D101_47 : rDec M101 47 (.aload_n 0) 1 48 := ⟨by decide +kernel, rfl⟩
theorem D101_48 : rDec M101 48 (.getfield 54) 3 51 := ⟨by decide +kernel, rfl⟩
theorem D101_51 : rDec M101 51 (.getfield 352) 3 54 := ⟨by decide +kernel, rfl⟩
theorem D101_54 : rDec M101 54 (.iload_n 1) 1 55 := ⟨by decide +kernel, rfl⟩
theorem D101_55 : rDec M101 55 (.iload_n 2) 1 56 := ⟨by decide +kernel, rfl⟩
theorem D101_56 : rDec M101 56 (.iastore) 1 57 := ⟨by decide +kernel, rfl⟩
theorem D101_57 : rDec M101 57 (.aload_n 0) 1 58 := ⟨by decide +kernel, rfl⟩
theorem D101_58 : rDec M101 58 (.getfield 61) 3 61 := ⟨by decide +kernel, rfl⟩
theorem D101_61 : rDec M101 61 (.aload_n 0) 1 62 := ⟨by decide +kernel, rfl⟩
theorem D101_62 : rDec M101 62 (.getfield 54) 3 65 := ⟨by decide +kernel, rfl⟩
theorem D101_65 : rDec M101 65 (.aload_n 0) 1 66 := ⟨by decide +kernel, rfl⟩
theorem D101_66 : rDec M101 66 (.getfield 11) 3 69 := ⟨by decide +kernel, rfl⟩
theorem D101_69 : rDec M101 69 (.invokevirtual 355) 3 72 := ⟨by decide +kernel, rfl⟩
theorem D101_72 : rDec M101 72 (.aload_n 0) 1 73 := ⟨by decide +kernel, rfl⟩
theorem D101_73 : rDec M101 73 (.getfield 54) 3 76 := ⟨by decide +kernel, rfl⟩
theorem D101_76 : rDec M101 76 (.getfield 352) 3 79 := ⟨by decide +kernel, rfl⟩
theorem D101_79 : rDec M101 79 (.iload_n 1) 1 80 := ⟨by decide +kernel, rfl⟩
theorem D101_80 : rDec M101 80 (.iload_n 3) 1 81 := ⟨by decide +kernel, rfl⟩
theorem D101_81 : rDec M101 81 (.iastore) 1 82 := ⟨by decide +kernel, rfl⟩
theorem D101_82 : rDec M101 82 (.aload_n 0) 1 83 := ⟨by decide +kernel, rfl⟩
theorem D101_83 : rDec M101 83 (.getfield 61) 3 86 := ⟨by decide +kernel, rfl⟩
theorem D101_86 : rDec M101 86 (.getfield 359) 3 89 := ⟨by decide +kernel, rfl⟩
theorem D101_89 : rDec M101 89 (.ireturn) 1 90 := ⟨by decide +kernel, rfl⟩
theorem P101_37 : rSnd lab M101 37 B101_37 := by
  refine s_Al gk0 (Or.inr ⟨0, D101_37, rfl⟩) ?_
  refine s_Gf (ci := 0) (r := ("WordWright", kT0, 13)) rfl (show 9 < 13 from by decide) rfl (Or.inl wd445) (Or.inl rfl) rfl D101_38 ?_
  refine s_Gf (ci := 2) (r := ("WordWright$Equations", kT2, 8)) rfl (show 1 < 8 from by decide) rfl (Or.inl wd263) (Or.inl rfl) rfl D101_41 ?_
  refine s_Il gk1 (Or.inr ⟨1, D101_44, rfl⟩) ?_
  refine s_Ial D101_45 ?_
  refine s_Is sk3 (show 3 < 4 from by decide) (Or.inr ⟨3, D101_46, rfl⟩) ?_
  refine s_Al gk0 (Or.inr ⟨0, D101_47, rfl⟩) ?_
  refine s_Gf (ci := 0) (r := ("WordWright", kT0, 13)) rfl (show 9 < 13 from by decide) rfl (Or.inl wd445) (Or.inl rfl) rfl D101_48 ?_
  refine s_Gf (ci := 2) (r := ("WordWright$Equations", kT2, 8)) rfl (show 1 < 8 from by decide) rfl (Or.inl wd263) (Or.inl rfl) rfl D101_51 ?_
  refine s_Il gk1 (Or.inr ⟨1, D101_54, rfl⟩) ?_
  refine s_Il gk2 (Or.inr ⟨2, D101_55, rfl⟩) ?_
  refine s_Ast (t := 0) rfl q_iast rfl (by decide) D101_56 ?_
  refine s_Al gk0 (Or.inr ⟨0, D101_57, rfl⟩) ?_
  refine s_Gf (ci := 0) (r := ("WordWright", kT0, 13)) rfl (show 10 < 13 from by decide) rfl (Or.inl wd446) (Or.inl rfl) rfl D101_58 ?_
  refine s_Al gk0 (Or.inr ⟨0, D101_61, rfl⟩) ?_
  refine s_Gf (ci := 0) (r := ("WordWright", kT0, 13)) rfl (show 9 < 13 from by decide) rfl (Or.inl wd445) (Or.inl rfl) rfl D101_62 ?_
  refine s_Al gk0 (Or.inr ⟨0, D101_65, rfl⟩) ?_
  refine s_Gf (ci := 0) (r := ("WordWright", kT0, 13)) rfl (show 0 < 13 from by decide) rfl (Or.inl wd436) (Or.inl rfl) rfl D101_66 ?_
  refine s_Cv (ln := 3) (kd := 18) (C := "WordWright$Solver") (by decide) (by decide +kernel) rfl (l_V rfl ok280 rfl wd484 wd485 wd486 D101_69.1) (?_ : rSnd _ _ 72 _)
  refine s_Al gk0 (Or.inr ⟨0, D101_72, rfl⟩) ?_
  refine s_Gf (ci := 0) (r := ("WordWright", kT0, 13)) rfl (show 9 < 13 from by decide) rfl (Or.inl wd445) (Or.inl rfl) rfl D101_73 ?_
  refine s_Gf (ci := 2) (r := ("WordWright$Equations", kT2, 8)) rfl (show 1 < 8 from by decide) rfl (Or.inl wd263) (Or.inl rfl) rfl D101_76 ?_
  refine s_Il gk1 (Or.inr ⟨1, D101_79, rfl⟩) ?_
  refine s_Il gk3 (Or.inr ⟨3, D101_80, rfl⟩) ?_
  refine s_Ast (t := 0) rfl q_iast rfl (by decide) D101_81 ?_
  refine s_Al gk0 (Or.inr ⟨0, D101_82, rfl⟩) ?_
  refine s_Gf (ci := 0) (r := ("WordWright", kT0, 13)) rfl (show 10 < 13 from by decide) rfl (Or.inl wd446) (Or.inl rfl) rfl D101_83 ?_
  refine s_Gf (ci := 8) (r := ("WordWright$Solver", kT8, 11)) rfl (show 0 < 11 from by decide) rfl (Or.inl wd303) (Or.inl rfl) rfl D101_86 ?_
  exact s_Ri (Or.inl rfl) D101_89.1
theorem P101_26 : rSnd lab M101 26 B101_26 := by
  exact s_Thr (ik := 91) (is := 350) (ic := 95) (text := "most is not 0 to 2") (names := ["java/lang/RuntimeException", "java/lang/Exception"]) true rfl rfl (by decide) (by decide +kernel) (by decide +kernel) (by decide) rfl wd1277 wd27 (List.mem_of_getElem? (i := 15) rfl) at_WordWright_95 at_WordWright_95g D101_26.1 D101_29.1 (Or.inr ⟨rfl, D101_30.1, D101_33.1, D101_36.1⟩)
theorem P101_17 : rSnd lab M101 17 B101_17 := by
  refine s_Il gk2 (Or.inr ⟨2, D101_17, rfl⟩) ?_
  refine s_If c_lt (fun _ => rfl) (fun _ _ => rfl) (b_lt (tg := 26) (by decide)) D101_18.1 P101_26 (?_ : rSnd _ _ 21 _)
  refine s_Il gk2 (Or.inr ⟨2, D101_21, rfl⟩) ?_
  refine s_ic D101_22 kc_i_2 (by decide) ?_
  refine s_Ic c_le (i_le (tg := 37) (by decide)) D101_23.1 P101_37 (?_ : rSnd _ _ 26 _)
  exact P101_26
theorem P101_0 : rSnd lab M101 0 B101_0 := by
  refine s_Ent ?_
  refine s_Il gk1 (Or.inr ⟨1, D101_0, rfl⟩) ?_
  refine s_Cs (id := 93) rfl (l_S rfl ok80 rfl wd1490 wd1491 D101_1.1) (?_ : rSnd _ _ 4 _)
  refine s_If c_ne (fun _ => rfl) (fun _ _ => rfl) (b_ne (tg := 17) (by decide)) D101_4.1 P101_17 (?_ : rSnd _ _ 7 _)
  exact s_Thr (ik := 120) (is := 228) (ic := 124) (text := "no such VARIABLE") (names := ["java/lang/RuntimeException", "java/lang/Exception"]) false rfl rfl (by decide) (by decide +kernel) (by decide +kernel) (by decide) rfl wd1351 wd38 (List.mem_of_getElem? (i := 5) rfl) at_WordWright_124 at_WordWright_124g D101_7.1 D101_10.1 (Or.inl ⟨rfl, D101_11.1, D101_13.1, D101_16.1⟩)
theorem D102_0 : rDec M102 0 (.aload_n 0) 1 1 := ⟨by decide +kernel, rfl⟩
theorem D102_1 : rDec M102 1 (.getfield 54) 3 4 := ⟨by decide +kernel, rfl⟩
theorem D102_4 : rDec M102 4 (.getfield 473) 3 7 := ⟨by decide +kernel, rfl⟩
theorem D102_7 : rDec M102 7 (.ifCond .ne 29) 3 10 := ⟨by decide +kernel, rfl⟩
theorem D102_10 : rDec M102 10 (.aload_n 0) 1 11 := ⟨by decide +kernel, rfl⟩
theorem D102_11 : rDec M102 11 (.getfield 61) 3 14 := ⟨by decide +kernel, rfl⟩
theorem D102_14 : rDec M102 14 (.aload_n 0) 1 15 := ⟨by decide +kernel, rfl⟩
theorem D102_15 : rDec M102 15 (.getfield 54) 3 18 := ⟨by decide +kernel, rfl⟩
theorem D102_18 : rDec M102 18 (.aload_n 0) 1 19 := ⟨by decide +kernel, rfl⟩
theorem D102_19 : rDec M102 19 (.getfield 11) 3 22 := ⟨by decide +kernel, rfl⟩
theorem D102_22 : rDec M102 22 (.invokevirtual 355) 3 25 := ⟨by decide +kernel, rfl⟩
theorem D102_25 : rDec M102 25 (.aload_n 0) 1 26 := ⟨by decide +kernel, rfl⟩
theorem D102_26 : rDec M102 26 (.getfield 54) 3 29 := ⟨by decide +kernel, rfl⟩
theorem D102_29 : rDec M102 29 (.aload_n 0) 1 30 := ⟨by decide +kernel, rfl⟩
theorem D102_30 : rDec M102 30 (.getfield 61) 3 33 := ⟨by decide +kernel, rfl⟩
theorem D102_33 : rDec M102 33 (.invokevirtual 477) 3 36 := ⟨by decide +kernel, rfl⟩
theorem D102_36 : rDec M102 36 (.return_) 1 37 := ⟨by decide +kernel, rfl⟩
theorem P102_36 : rSnd lab M102 36 B102_36 := by
  exact s_Rv rfl D102_36.1
theorem P102_0 : rSnd lab M102 0 B102_0 := by
  refine s_Ent ?_
  refine s_Al gk0 (Or.inr ⟨0, D102_0, rfl⟩) ?_
  refine s_Gf (ci := 0) (r := ("WordWright", kT0, 13)) rfl (show 9 < 13 from by decide) rfl (Or.inl wd445) (Or.inl rfl) rfl D102_1 ?_
  refine s_Gf (ci := 2) (r := ("WordWright$Equations", kT2, 8)) rfl (show 5 < 8 from by decide) rfl (Or.inl wd273) (Or.inl rfl) rfl D102_4 ?_
  refine s_If c_ne (fun _ => rfl) (fun _ _ => rfl) (b_ne (tg := 36) (by decide)) D102_7.1 P102_36 (?_ : rSnd _ _ 10 _)
  refine s_Al gk0 (Or.inr ⟨0, D102_10, rfl⟩) ?_
  refine s_Gf (ci := 0) (r := ("WordWright", kT0, 13)) rfl (show 10 < 13 from by decide) rfl (Or.inl wd446) (Or.inl rfl) rfl D102_11 ?_
  refine s_Al gk0 (Or.inr ⟨0, D102_14, rfl⟩) ?_
  refine s_Gf (ci := 0) (r := ("WordWright", kT0, 13)) rfl (show 9 < 13 from by decide) rfl (Or.inl wd445) (Or.inl rfl) rfl D102_15 ?_
  refine s_Al gk0 (Or.inr ⟨0, D102_18, rfl⟩) ?_
  refine s_Gf (ci := 0) (r := ("WordWright", kT0, 13)) rfl (show 0 < 13 from by decide) rfl (Or.inl wd436) (Or.inl rfl) rfl D102_19 ?_
  refine s_Cv (ln := 3) (kd := 18) (C := "WordWright$Solver") (by decide) (by decide +kernel) rfl (l_V rfl ok280 rfl wd484 wd485 wd486 D102_22.1) (?_ : rSnd _ _ 25 _)
  refine s_Al gk0 (Or.inr ⟨0, D102_25, rfl⟩) ?_
  refine s_Gf (ci := 0) (r := ("WordWright", kT0, 13)) rfl (show 9 < 13 from by decide) rfl (Or.inl wd445) (Or.inl rfl) rfl D102_26 ?_
  refine s_Al gk0 (Or.inr ⟨0, D102_29, rfl⟩) ?_
  refine s_Gf (ci := 0) (r := ("WordWright", kT0, 13)) rfl (show 10 < 13 from by decide) rfl (Or.inl wd446) (Or.inl rfl) rfl D102_30 ?_
  refine s_Cv (ln := 3) (kd := 6) (C := "WordWright$Equations") (by decide) (by decide +kernel) rfl (l_V rfl ok139 rfl wd585 wd586 wd587 D102_33.1) (?_ : rSnd _ _ 36 _)
  exact P102_36
theorem D103_0 : rDec M103 0 (.iload_n 1) 1 1 := ⟨by decide +kernel, rfl⟩
theorem D103_1 : rDec M103 1 (.invokestatic 225) 3 4 := ⟨by decide +kernel, rfl⟩
theorem D103_4 : rDec M103 4 (.ifCond .ne 13) 3 7 := ⟨by decide +kernel, rfl⟩
theorem D103_7 : rDec M103 7 (.new 120) 3 10 := ⟨by decide +kernel, rfl⟩
theorem D103_10 : rDec M103 10 (.dup) 1 11 := ⟨by decide +kernel, rfl⟩
theorem D103_11 : rDec M103 11 (.ldc 228) 2 13 := ⟨by decide +kernel, rfl⟩
theorem D103_13 : rDec M103 13 (.invokespecial 124) 3 16 := ⟨by decide +kernel, rfl⟩
theorem D103_16 : rDec M103 16 (.athrow) 1 17 := ⟨by decide +kernel, rfl⟩
theorem D103_17 : rDec M103 17 (.aload_n 0) 1 18 := ⟨by decide +kernel, rfl⟩
theorem D103_18 : rDec M103 18 (.invokevirtual 262) 3 21 := ⟨by decide +kernel, rfl⟩
theorem D103_21 : rDec M103 21 (.aload_n 0) 1 22 := ⟨by decide +kernel, rfl⟩
theorem D103_22 : rDec M103 22 (.getfield 54) 3 25 := ⟨by decide +kernel, rfl⟩
theorem D103_25 : rDec M103 25 (.getfield 265) 3 28 := ⟨by decide +kernel, rfl⟩
theorem D103_28 : rDec M103 28 (.iload_n 1) 1 29 := ⟨by decide +kernel, rfl⟩
theorem D103_29 : rDec M103 29 (.iaload) 1 30 := ⟨by decide +kernel, rfl⟩
theorem D103_30 : rDec M103 30 (.ireturn) 1 31 := ⟨by decide +kernel, rfl⟩
theorem P103_17 : rSnd lab M103 17 B103_17 := by
  refine s_Al gk0 (Or.inr ⟨0, D103_17, rfl⟩) ?_
  refine s_Cv (ln := 3) (kd := 2) (C := "WordWright") (by decide) (by decide +kernel) rfl (l_V rfl ok102 rfl wd480 wd482 ws0 D103_18.1) (?_ : rSnd _ _ 21 _)
  refine s_Al gk0 (Or.inr ⟨0, D103_21, rfl⟩) ?_
  refine s_Gf (ci := 0) (r := ("WordWright", kT0, 13)) rfl (show 9 < 13 from by decide) rfl (Or.inl wd445) (Or.inl rfl) rfl D103_22 ?_
  refine s_Gf (ci := 2) (r := ("WordWright$Equations", kT2, 8)) rfl (show 7 < 8 from by decide) rfl (Or.inl wd277) (Or.inl rfl) rfl D103_25 ?_
  refine s_Il gk1 (Or.inr ⟨1, D103_28, rfl⟩) ?_
  refine s_Ial D103_29 ?_
  exact s_Ri (Or.inl rfl) D103_30.1
theorem P103_0 : rSnd lab M103 0 B103_0 := by
  refine s_Ent ?_
  refine s_Il gk1 (Or.inr ⟨1, D103_0, rfl⟩) ?_
  refine s_Cs (id := 93) rfl (l_S rfl ok80 rfl wd1490 wd1491 D103_1.1) (?_ : rSnd _ _ 4 _)
  refine s_If c_ne (fun _ => rfl) (fun _ _ => rfl) (b_ne (tg := 17) (by decide)) D103_4.1 P103_17 (?_ : rSnd _ _ 7 _)
  exact s_Thr (ik := 120) (is := 228) (ic := 124) (text := "no such VARIABLE") (names := ["java/lang/RuntimeException", "java/lang/Exception"]) false rfl rfl (by decide) (by decide +kernel) (by decide +kernel) (by decide) rfl wd1351 wd38 (List.mem_of_getElem? (i := 5) rfl) at_WordWright_124 at_WordWright_124g D103_7.1 D103_10.1 (Or.inl ⟨rfl, D103_11.1, D103_13.1, D103_16.1⟩)
theorem D104_0 : rDec M104 0 (.iload_n 1) 1 1 := ⟨by decide +kernel, rfl⟩
theorem D104_1 : rDec M104 1 (.ifCond .lt 16) 3 4 := ⟨by decide +kernel, rfl⟩
theorem D104_4 : rDec M104 4 (.iload_n 1) 1 5 := ⟨by decide +kernel, rfl⟩
theorem D104_5 : rDec M104 5 (.bipush 10) 2 7 := ⟨by decide +kernel, rfl⟩
theorem D104_7 : rDec M104 7 (.if_icmp .gt 10) 3 10 := ⟨by decide +kernel, rfl⟩
theorem D104_10 : rDec M104 10 (.iload_n 2) 1 11 := ⟨by decide +kernel, rfl⟩
theorem D104_11 : rDec M104 11 (.invokestatic 326) 3 14 := ⟨by decide +kernel, rfl⟩
theorem D104_14 : rDec M104 14 (.ifCond .ne 14) 3 17 := ⟨by decide +kernel, rfl⟩
theorem D104_17 : rDec M104 17 (.new 120) 3 20 := ⟨by decide +kernel, rfl⟩
theorem D104_20 : rDec M104 20 (.dup) 1 21 := ⟨by decide +kernel, rfl⟩
theorem D104_21 : rDec M104 21 (.ldc_w 329) 3 24 := ⟨by decide +kernel, rfl⟩
theorem D104_24 : rDec M104 24 (.invokespecial 124) 3 27 := ⟨by decide +kernel, rfl⟩
theorem D104_27 : rDec M104 27 (.athrow) 1 28 := ⟨by decide +kernel, rfl⟩
theorem D104_28 : rDec M104 28 (.iload_n 3) 1 29 := ⟨by decide +kernel, rfl⟩
theorem D104_29 : rDec M104 29 (.ifCond .lt 8) 3 32 := ⟨by decide +kernel, rfl⟩
theorem D104_32 : rDec M104 32 (.iload_n 3) 1 33 := ⟨by decide +kernel, rfl⟩
theorem D104_33 : rDec M104 33 (.iconst 3) 1 34 := ⟨by decide +kernel, rfl⟩
theorem D104_34 : rDec M104 34 (.if_icmp .le 14) 3 37 := ⟨by decide +kernel, rfl⟩
theorem D104_37 : rDec M104 37 (.new 91) 3 40 := ⟨by decide +kernel, rfl⟩
theorem D104_40 : rDec M104 40 (.dup) 1 41 := ⟨by decide +kernel, rfl⟩
theorem D104_41 : rDec M104 41 (.ldc_w 331) 3 44 := ⟨by decide +kernel, rfl⟩
theorem D104_44 : rDec M104 44 (.invokespecial 95) 3 47 := ⟨by decide +kernel, rfl⟩
theorem D104_47 : rDec M104 47 (.athrow) 1 48 := ⟨by decide +kernel, rfl⟩
theorem D104_48 : rDec M104 48 (.aload_n 0) 1 49 := ⟨by decide +kernel, rfl⟩
theorem D104_49 : rDec M104 49 (.getfield 75) 3 52 := ⟨by decide +kernel, rfl⟩
theorem D104_52 : rDec M104 52 (.aload_n 0) 1 53 := ⟨by decide +kernel, rfl⟩
theorem D104_53 : rDec M104 53 (.getfield 11) 3 56 := ⟨by decide +kernel, rfl⟩
theorem D104_56 : rDec M104 56 (.aload_n 0) 1 57 := ⟨by decide +kernel, rfl⟩
theorem D104_57 : rDec M104 57 (.getfield 17) 3 60 := ⟨by decide +kernel, rfl⟩
theorem D104_60 : rDec M104 60 (.aload_n 0) 1 61 := ⟨by decide +kernel, rfl⟩
theorem D104_61 : rDec M104 61 (.getfield 33) 3 64 := ⟨by decide +kernel, rfl⟩
theorem D104_64 : rDec M104 64 (.invokevirtual 333) 3 67 := ⟨by decide +kernel, rfl⟩
theorem D104_67 : rDec M104 67 (.aload_n 0) 1 68 := ⟨by decide +kernel, rfl⟩
theorem D104_68 : rDec M104 68 (.iload_n 1) 1 69 := ⟨by decide +kernel, rfl⟩
theorem D104_69 : rDec M104 69 (.iload_n 2) 1 70 := ⟨by decide +kernel, rfl⟩
theorem D104_70 : rDec M104 70 (.iload_n 3) 1 71 := ⟨by decide +kernel, rfl⟩
theorem D104_71 : rDec M104 71 (.invokevirtual 337) 3 74 := ⟨by decide +kernel, rfl⟩
theorem D104_74 : rDec M104 74 (.ireturn) 1 75 := ⟨by decide +kernel, rfl⟩
theorem P104_48 : rSnd lab M104 48 B104_48 := by
  refine s_Al gk0 (Or.inr ⟨0, D104_48, rfl⟩) ?_
  refine s_Gf (ci := 0) (r := ("WordWright", kT0, 13)) rfl (show 12 < 13 from by decide) rfl (Or.inl wd448) (Or.inl rfl) rfl D104_49 ?_
  refine s_Al gk0 (Or.inr ⟨0, D104_52, rfl⟩) ?_
  refine s_Gf (ci := 0) (r := ("WordWright", kT0, 13)) rfl (show 0 < 13 from by decide) rfl (Or.inl wd436) (Or.inl rfl) rfl D104_53 ?_
  refine s_Al gk0 (Or.inr ⟨0, D104_56, rfl⟩) ?_
  refine s_Gf (ci := 0) (r := ("WordWright", kT0, 13)) rfl (show 2 < 13 from by decide) rfl (Or.inl wd438) (Or.inl rfl) rfl D104_57 ?_
  refine s_Al gk0 (Or.inr ⟨0, D104_60, rfl⟩) ?_
  refine s_Gf (ci := 0) (r := ("WordWright", kT0, 13)) rfl (show 6 < 13 from by decide) rfl (Or.inl wd442) (Or.inl rfl) rfl D104_61 ?_
  refine s_Cv (ln := 3) (kd := 12) (C := "WordWright$Program") (by decide) (by decide +kernel) rfl (l_V rfl ok257 rfl wd606 wd607 wd608 D104_64.1) (?_ : rSnd _ _ 67 _)
  refine s_Al gk0 (Or.inr ⟨0, D104_67, rfl⟩) ?_
  refine s_Il gk1 (Or.inr ⟨1, D104_68, rfl⟩) ?_
  refine s_Il gk2 (Or.inr ⟨2, D104_69, rfl⟩) ?_
  refine s_Il gk3 (Or.inr ⟨3, D104_70, rfl⟩) ?_
  refine s_Cv (ln := 3) (kd := 2) (C := "WordWright") (by decide) (by decide +kernel) rfl (l_V rfl ok105 rfl wd1248 wd1250 ws50 D104_71.1) (?_ : rSnd _ _ 74 _)
  exact s_Ri (Or.inl rfl) D104_74.1
theorem P104_37 : rSnd lab M104 37 B104_37 := by
  exact s_Thr (ik := 91) (is := 331) (ic := 95) (text := "what is not 0 to 3") (names := ["java/lang/RuntimeException", "java/lang/Exception"]) true rfl rfl (by decide) (by decide +kernel) (by decide +kernel) (by decide) rfl wd1277 wd27 (List.mem_of_getElem? (i := 17) rfl) at_WordWright_95 at_WordWright_95g D104_37.1 D104_40.1 (Or.inr ⟨rfl, D104_41.1, D104_44.1, D104_47.1⟩)
theorem P104_28 : rSnd lab M104 28 B104_28 := by
  refine s_Il gk3 (Or.inr ⟨3, D104_28, rfl⟩) ?_
  refine s_If c_lt (fun _ => rfl) (fun _ _ => rfl) (b_lt (tg := 37) (by decide)) D104_29.1 P104_37 (?_ : rSnd _ _ 32 _)
  refine s_Il gk3 (Or.inr ⟨3, D104_32, rfl⟩) ?_
  refine s_ic D104_33 kc_i_3 (by decide) ?_
  refine s_Ic c_le (i_le (tg := 48) (by decide)) D104_34.1 P104_48 (?_ : rSnd _ _ 37 _)
  exact P104_37
theorem P104_17 : rSnd lab M104 17 B104_17 := by
  exact s_Thr (ik := 120) (is := 329) (ic := 124) (text := "no such STEP, or STRING") (names := ["java/lang/RuntimeException", "java/lang/Exception"]) true rfl rfl (by decide) (by decide +kernel) (by decide +kernel) (by decide) rfl wd1351 wd38 (List.mem_of_getElem? (i := 16) rfl) at_WordWright_124 at_WordWright_124g D104_17.1 D104_20.1 (Or.inr ⟨rfl, D104_21.1, D104_24.1, D104_27.1⟩)
theorem P104_0 : rSnd lab M104 0 B104_0 := by
  refine s_Ent ?_
  refine s_Il gk1 (Or.inr ⟨1, D104_0, rfl⟩) ?_
  refine s_If c_lt (fun _ => rfl) (fun _ _ => rfl) (b_lt (tg := 17) (by decide)) D104_1.1 P104_17 (?_ : rSnd _ _ 4 _)
  refine s_Il gk1 (Or.inr ⟨1, D104_4, rfl⟩) ?_
  refine s_bi D104_5 kc_b_10 (by decide) ?_
  refine s_Ic c_gt (i_gt (tg := 17) (by decide)) D104_7.1 P104_17 (?_ : rSnd _ _ 10 _)
  refine s_Il gk2 (Or.inr ⟨2, D104_10, rfl⟩) ?_
  refine s_Cs (id := 92) rfl (l_S rfl ok79 rfl wd1616 wd1617 D104_11.1) (?_ : rSnd _ _ 14 _)
  refine s_If c_ne (fun _ => rfl) (fun _ _ => rfl) (b_ne (tg := 28) (by decide)) D104_14.1 P104_28 (?_ : rSnd _ _ 17 _)
  exact P104_17
theorem D105_0 : rDec M105 0 (.aload_n 0) 1 1 := ⟨by decide +kernel, rfl⟩
theorem D105_1 : rDec M105 1 (.getfield 75) 3 4 := ⟨by decide +kernel, rfl⟩
theorem D105_4 : rDec M105 4 (.iload_n 1) 1 5 := ⟨by decide +kernel, rfl⟩
theorem D105_5 : rDec M105 5 (.invokevirtual 442) 3 8 := ⟨by decide +kernel, rfl⟩
theorem D105_8 : rDec M105 8 (.istore 4) 2 10 := ⟨by decide +kernel, rfl⟩
theorem D105_10 : rDec M105 10 (.aload_n 0) 1 11 := ⟨by decide +kernel, rfl⟩
theorem D105_11 : rDec M105 11 (.getfield 75) 3 14 := ⟨by decide +kernel, rfl⟩
theorem D105_14 : rDec M105 14 (.getfield 445) 3 17 := ⟨by decide +kernel, rfl⟩
theorem D105_17 : rDec M105 17 (.iload 4) 2 19 := ⟨by decide +kernel, rfl⟩
theorem D105_19 : rDec M105 19 (.baload) 1 20 := ⟨by decide +kernel, rfl⟩
theorem D105_20 : rDec M105 20 (.ifCond .ne 5) 3 23 := ⟨by decide +kernel, rfl⟩
theorem D105_23 : rDec M105 23 (.iconst 0) 1 24 := ⟨by decide +kernel, rfl⟩
theorem D105_24 : rDec M105 24 (.ireturn) 1 25 := ⟨by decide +kernel, rfl⟩
theorem P105_0 : rSnd lab M105 0 B105_0 := by
  refine s_Ent ?_
  refine s_Al gk0 (Or.inr ⟨0, D105_0, rfl⟩) ?_
  refine s_Gf (ci := 0) (r := ("WordWright", kT0, 13)) rfl (show 12 < 13 from by decide) rfl (Or.inl wd448) (Or.inl rfl) rfl D105_1 ?_
  refine s_Il gk1 (Or.inr ⟨1, D105_4, rfl⟩) ?_
  refine s_Cv (ln := 3) (kd := 12) (C := "WordWright$Program") (by decide) (by decide +kernel) rfl (l_V rfl ok258 rfl wd1252 wd677 wd678 D105_5.1) (?_ : rSnd _ _ 8 _)
  refine s_Is sk4 (show 4 < 5 from by decide) (Or.inl D105_8) ?_
  refine s_Al gk0 (Or.inr ⟨0, D105_10, rfl⟩) ?_
  refine s_Gf (ci := 0) (r := ("WordWright", kT0, 13)) rfl (show 12 < 13 from by decide) rfl (Or.inl wd448) (Or.inl rfl) rfl D105_11 ?_
  refine s_Gf (ci := 5) (r := ("WordWright$Program", kT5, 12)) rfl (show 5 < 12 from by decide) rfl (Or.inl wd392) (Or.inl rfl) rfl D105_14 ?_
  refine s_Il gk4 (Or.inl D105_17) ?_
  refine s_Ald (t := 1) (ty := .boolean) rfl q_zald rfl D105_19 ?_
  refine s_If c_ne (fun _ => rfl) (fun _ _ => rfl) (b_ne (tg := 25) (by decide)) D105_20.1 rSnd_none (?_ : rSnd _ _ 23 _)
  refine s_ic D105_23 kc_i_0 (by decide) ?_
  exact s_Ri (Or.inl rfl) D105_24.1
theorem D106_0 : rDec M106 0 (.aload_n 0) 1 1 := ⟨by decide +kernel, rfl⟩
theorem D106_1 : rDec M106 1 (.iload_n 1) 1 2 := ⟨by decide +kernel, rfl⟩
theorem D106_2 : rDec M106 2 (.iload_n 2) 1 3 := ⟨by decide +kernel, rfl⟩
theorem D106_3 : rDec M106 3 (.iload_n 3) 1 4 := ⟨by decide +kernel, rfl⟩
theorem D106_4 : rDec M106 4 (.iload 4) 2 6 := ⟨by decide +kernel, rfl⟩
theorem D106_6 : rDec M106 6 (.invokevirtual 314) 3 9 := ⟨by decide +kernel, rfl⟩
theorem D106_9 : rDec M106 9 (.ifCond .ne 14) 3 12 := ⟨by decide +kernel, rfl⟩
theorem D106_12 : rDec M106 12 (.new 91) 3 15 := ⟨by decide +kernel, rfl⟩
theorem D106_15 : rDec M106 15 (.dup) 1 16 := ⟨by decide +kernel, rfl⟩
theorem D106_16 : rDec M106 16 (.ldc_w 318) 3 19 := ⟨by decide +kernel, rfl⟩
theorem D106_19 : rDec M106 19 (.invokespecial 95) 3 22 := ⟨by decide +kernel, rfl⟩
theorem D106_22 : rDec M106 22 (.athrow) 1 23 := ⟨by decide +kernel, rfl⟩
theorem D106_23 : rDec M106 23 (.aload_n 0) 1 24 := ⟨by decide +kernel, rfl⟩
theorem D106_24 : rDec M106 24 (.getfield 75) 3 27 := ⟨by decide +kernel, rfl⟩
theorem D106_27 : rDec M106 27 (.getfield 320) 3 30 := ⟨by decide +kernel, rfl⟩
theorem D106_30 : rDec M106 30 (.bipush 10) 2 32 := ⟨by decide +kernel, rfl⟩
theorem D106_32 : rDec M106 32 (.if_icmp .lt 14) 3 35 := ⟨by decide +kernel, rfl⟩
theorem D106_46 : rDec M106 46 (.aload_n 0) 1 47 := ⟨by decide +kernel, rfl⟩
theorem D106_47 : rDec M106 47 (.getfield 75) 3 50 := ⟨by decide +kernel, rfl⟩
theorem D106_50 : rDec M106 50 (.iload_n 1) 1 51 := ⟨by decide +kernel, rfl⟩
theorem D106_51 : rDec M106 51 (.iload_n 2) 1 52 := ⟨by decide +kernel, rfl⟩
theorem D106_52 : rDec M106 52 (.iload_n 3) 1 53 := ⟨by decide +kernel, rfl⟩
theorem D106_53 : rDec M106 53 (.iload 4) 2 55 := ⟨by decide +kernel, rfl⟩
theorem D106_55 : rDec M106 55 (.invokevirtual 323) 3 58 := ⟨by decide +kernel, rfl⟩
theorem D106_58 : rDec M106 58 (.ireturn) 1 59 := ⟨by decide +kernel, rfl⟩
theorem P106_46 : rSnd lab M106 46 B106_46 := by
  refine s_Al gk0 (Or.inr ⟨0, D106_46, rfl⟩) ?_
  refine s_Gf (ci := 0) (r := ("WordWright", kT0, 13)) rfl (show 12 < 13 from by decide) rfl (Or.inl wd448) (Or.inl rfl) rfl D106_47 ?_
  refine s_Il gk1 (Or.inr ⟨1, D106_50, rfl⟩) ?_
  refine s_Il gk2 (Or.inr ⟨2, D106_51, rfl⟩) ?_
  refine s_Il gk3 (Or.inr ⟨3, D106_52, rfl⟩) ?_
  refine s_Il gk4 (Or.inl D106_53) ?_
  refine s_Cv (ln := 3) (kd := 12) (C := "WordWright$Program") (by decide) (by decide +kernel) rfl (l_V rfl ok253 rfl wd1621 wd1622 wd1623 D106_55.1) (?_ : rSnd _ _ 58 _)
  exact s_Ri (Or.inl rfl) D106_58.1
theorem P106_23 : rSnd lab M106 23 B106_23 := by
  refine s_Al gk0 (Or.inr ⟨0, D106_23, rfl⟩) ?_
  refine s_Gf (ci := 0) (r := ("WordWright", kT0, 13)) rfl (show 12 < 13 from by decide) rfl (Or.inl wd448) (Or.inl rfl) rfl D106_24 ?_
  refine s_Gf (ci := 5) (r := ("WordWright$Program", kT5, 12)) rfl (show 0 < 12 from by decide) rfl (Or.inl wd383) (Or.inl rfl) rfl D106_27 ?_
  refine s_bi D106_30 kc_b_10 (by decide) ?_
  refine s_Ic c_lt (i_lt (tg := 46) (by decide)) D106_32.1 P106_46 (?_ : rSnd _ _ 35 _)
  exact rSnd_none
theorem P106_0 : rSnd lab M106 0 B106_0 := by
  refine s_Ent ?_
  refine s_Al gk0 (Or.inr ⟨0, D106_0, rfl⟩) ?_
  refine s_Il gk1 (Or.inr ⟨1, D106_1, rfl⟩) ?_
  refine s_Il gk2 (Or.inr ⟨2, D106_2, rfl⟩) ?_
  refine s_Il gk3 (Or.inr ⟨3, D106_3, rfl⟩) ?_
  refine s_Il gk4 (Or.inl D106_4) ?_
  refine s_Cv (ln := 3) (kd := 2) (C := "WordWright") (by decide) (by decide +kernel) rfl (l_V rfl ok78 rfl wd1612 wd1614 ws57 D106_6.1) (?_ : rSnd _ _ 9 _)
  refine s_If c_ne (fun _ => rfl) (fun _ _ => rfl) (b_ne (tg := 23) (by decide)) D106_9.1 P106_23 (?_ : rSnd _ _ 12 _)
  exact s_Thr (ik := 91) (is := 318) (ic := 95) (text := "no such SORT, or no such a, b or c for it") (names := ["java/lang/RuntimeException", "java/lang/Exception"]) true rfl rfl (by decide) (by decide +kernel) (by decide +kernel) (by decide) rfl wd1277 wd27 (List.mem_of_getElem? (i := 18) rfl) at_WordWright_95 at_WordWright_95g D106_12.1 D106_15.1 (Or.inr ⟨rfl, D106_16.1, D106_19.1, D106_22.1⟩)
theorem D107_0 : rDec M107 0 (.iload_n 1) 1 1 := ⟨by decide +kernel, rfl⟩
theorem D107_1 : rDec M107 1 (.ifCond .lt 14) 3 4 := ⟨by decide +kernel, rfl⟩
theorem D107_4 : rDec M107 4 (.iload_n 1) 1 5 := ⟨by decide +kernel, rfl⟩
theorem D107_5 : rDec M107 5 (.aload_n 0) 1 6 := ⟨by decide +kernel, rfl⟩
theorem D107_6 : rDec M107 6 (.getfield 54) 3 9 := ⟨by decide +kernel, rfl⟩
theorem D107_9 : rDec M107 9 (.getfield 236) 3 12 := ⟨by decide +kernel, rfl⟩
theorem D107_12 : rDec M107 12 (.if_icmp .lt 13) 3 15 := ⟨by decide +kernel, rfl⟩
theorem D107_15 : rDec M107 15 (.new 120) 3 18 := ⟨by decide +kernel, rfl⟩
theorem D107_18 : rDec M107 18 (.dup) 1 19 := ⟨by decide +kernel, rfl⟩
theorem D107_19 : rDec M107 19 (.ldc 243) 2 21 := ⟨by decide +kernel, rfl⟩
theorem D107_21 : rDec M107 21 (.invokespecial 124) 3 24 := ⟨by decide +kernel, rfl⟩
theorem D107_24 : rDec M107 24 (.athrow) 1 25 := ⟨by decide +kernel, rfl⟩
theorem P107_15 : rSnd lab M107 15 B107_15 := by
  exact s_Thr (ik := 120) (is := 243) (ic := 124) (text := "no such EQUATION") (names := ["java/lang/RuntimeException", "java/lang/Exception"]) false rfl rfl (by decide) (by decide +kernel) (by decide +kernel) (by decide) rfl wd1351 wd38 (List.mem_of_getElem? (i := 19) rfl) at_WordWright_124 at_WordWright_124g D107_15.1 D107_18.1 (Or.inl ⟨rfl, D107_19.1, D107_21.1, D107_24.1⟩)
theorem P107_0 : rSnd lab M107 0 B107_0 := by
  refine s_Ent ?_
  refine s_Il gk1 (Or.inr ⟨1, D107_0, rfl⟩) ?_
  refine s_If c_lt (fun _ => rfl) (fun _ _ => rfl) (b_lt (tg := 15) (by decide)) D107_1.1 P107_15 (?_ : rSnd _ _ 4 _)
  refine s_Il gk1 (Or.inr ⟨1, D107_4, rfl⟩) ?_
  refine s_Al gk0 (Or.inr ⟨0, D107_5, rfl⟩) ?_
  refine s_Gf (ci := 0) (r := ("WordWright", kT0, 13)) rfl (show 9 < 13 from by decide) rfl (Or.inl wd445) (Or.inl rfl) rfl D107_6 ?_
  refine s_Gf (ci := 2) (r := ("WordWright$Equations", kT2, 8)) rfl (show 2 < 8 from by decide) rfl (Or.inl wd266) (Or.inl rfl) rfl D107_9 ?_
  refine s_Ic c_lt (i_lt (tg := 25) (by decide)) D107_12.1 rSnd_none (?_ : rSnd _ _ 15 _)
  exact P107_15
theorem D108_0 : rDec M108 0 (.aload_n 0) 1 1 := ⟨by decide +kernel, rfl⟩
theorem D108_1 : rDec M108 1 (.getfield 54) 3 4 := ⟨by decide +kernel, rfl⟩
theorem D108_4 : rDec M108 4 (.getfield 236) 3 7 := ⟨by decide +kernel, rfl⟩
theorem D108_7 : rDec M108 7 (.ifCond .ne 14) 3 10 := ⟨by decide +kernel, rfl⟩
theorem D108_10 : rDec M108 10 (.new 101) 3 13 := ⟨by decide +kernel, rfl⟩
theorem D108_13 : rDec M108 13 (.dup) 1 14 := ⟨by decide +kernel, rfl⟩
theorem D108_14 : rDec M108 14 (.ldc_w 257) 3 17 := ⟨by decide +kernel, rfl⟩
theorem D108_17 : rDec M108 17 (.invokespecial 105) 3 20 := ⟨by decide +kernel, rfl⟩
theorem D108_20 : rDec M108 20 (.athrow) 1 21 := ⟨by decide +kernel, rfl⟩
theorem P108_0 : rSnd lab M108 0 B108_0 := by
  refine s_Ent ?_
  refine s_Al gk0 (Or.inr ⟨0, D108_0, rfl⟩) ?_
  refine s_Gf (ci := 0) (r := ("WordWright", kT0, 13)) rfl (show 9 < 13 from by decide) rfl (Or.inl wd445) (Or.inl rfl) rfl D108_1 ?_
  refine s_Gf (ci := 2) (r := ("WordWright$Equations", kT2, 8)) rfl (show 2 < 8 from by decide) rfl (Or.inl wd266) (Or.inl rfl) rfl D108_4 ?_
  refine s_If c_ne (fun _ => rfl) (fun _ _ => rfl) (b_ne (tg := 21) (by decide)) D108_7.1 rSnd_none (?_ : rSnd _ _ 10 _)
  exact s_Thr (ik := 101) (is := 257) (ic := 105) (text := "there is no EQUATION") (names := ["java/lang/RuntimeException", "java/lang/Exception"]) true rfl rfl (by decide) (by decide +kernel) (by decide +kernel) (by decide) rfl wd1318 wd28 (List.mem_of_getElem? (i := 20) rfl) at_WordWright_105 at_WordWright_105g D108_10.1 D108_13.1 (Or.inr ⟨rfl, D108_14.1, D108_17.1, D108_20.1⟩)
theorem D109_0 : rDec M109 0 (.aload_n 0) 1 1 := ⟨by decide +kernel, rfl⟩
theorem D109_1 : rDec M109 1 (.iload_n 1) 1 2 := ⟨by decide +kernel, rfl⟩
theorem D109_2 : rDec M109 2 (.invokevirtual 274) 3 5 := ⟨by decide +kernel, rfl⟩
theorem D109_5 : rDec M109 5 (.ifCond .eq 11) 3 8 := ⟨by decide +kernel, rfl⟩
theorem D109_16 : rDec M109 16 (.new 120) 3 19 := ⟨by decide +kernel, rfl⟩
theorem D109_19 : rDec M109 19 (.dup) 1 20 := ⟨by decide +kernel, rfl⟩
theorem D109_20 : rDec M109 20 (.ldc_w 295) 3 23 := ⟨by decide +kernel, rfl⟩
theorem D109_23 : rDec M109 23 (.invokespecial 124) 3 26 := ⟨by decide +kernel, rfl⟩
theorem D109_26 : rDec M109 26 (.athrow) 1 27 := ⟨by decide +kernel, rfl⟩
theorem P109_16 : rSnd lab M109 16 B109_16 := by
  exact s_Thr (ik := 120) (is := 295) (ic := 124) (text := "no such SCHEMA") (names := ["java/lang/RuntimeException", "java/lang/Exception"]) true rfl rfl (by decide) (by decide +kernel) (by decide +kernel) (by decide) rfl wd1351 wd38 (List.mem_of_getElem? (i := 11) rfl) at_WordWright_124 at_WordWright_124g D109_16.1 D109_19.1 (Or.inr ⟨rfl, D109_20.1, D109_23.1, D109_26.1⟩)
theorem P109_0 : rSnd lab M109 0 B109_0 := by
  refine s_Ent ?_
  refine s_Al gk0 (Or.inr ⟨0, D109_0, rfl⟩) ?_
  refine s_Il gk1 (Or.inr ⟨1, D109_1, rfl⟩) ?_
  refine s_Cv (ln := 3) (kd := 2) (C := "WordWright") (by decide) (by decide +kernel) rfl (l_V rfl ok77 rfl wd1560 wd1562 ws56 D109_2.1) (?_ : rSnd _ _ 5 _)
  refine s_If c_eq (fun _ => rfl) (fun _ _ => rfl) (b_eq (tg := 16) (by decide)) D109_5.1 P109_16 (?_ : rSnd _ _ 8 _)
  exact rSnd_none
theorem D110_0 : rDec M110 0 (.aload_n 0) 1 1 := ⟨by decide +kernel, rfl⟩
theorem D110_1 : rDec M110 1 (.iload_n 1) 1 2 := ⟨by decide +kernel, rfl⟩
theorem D110_2 : rDec M110 2 (.iload_n 2) 1 3 := ⟨by decide +kernel, rfl⟩
theorem D110_3 : rDec M110 3 (.iload_n 3) 1 4 := ⟨by decide +kernel, rfl⟩
theorem D110_4 : rDec M110 4 (.invokevirtual 87) 3 7 := ⟨by decide +kernel, rfl⟩
theorem D110_7 : rDec M110 7 (.ifCond .ne 13) 3 10 := ⟨by decide +kernel, rfl⟩
theorem D110_10 : rDec M110 10 (.new 91) 3 13 := ⟨by decide +kernel, rfl⟩
theorem D110_13 : rDec M110 13 (.dup) 1 14 := ⟨by decide +kernel, rfl⟩
theorem D110_14 : rDec M110 14 (.ldc 93) 2 16 := ⟨by decide +kernel, rfl⟩
theorem D110_16 : rDec M110 16 (.invokespecial 95) 3 19 := ⟨by decide +kernel, rfl⟩
theorem D110_19 : rDec M110 19 (.athrow) 1 20 := ⟨by decide +kernel, rfl⟩
theorem D110_20 : rDec M110 20 (.aload_n 0) 1 21 := ⟨by decide +kernel, rfl⟩
theorem D110_21 : rDec M110 21 (.iload_n 1) 1 22 := ⟨by decide +kernel, rfl⟩
theorem D110_22 : rDec M110 22 (.iload_n 2) 1 23 := ⟨by decide +kernel, rfl⟩
theorem D110_23 : rDec M110 23 (.iload_n 3) 1 24 := ⟨by decide +kernel, rfl⟩
theorem D110_24 : rDec M110 24 (.invokevirtual 98) 3 27 := ⟨by decide +kernel, rfl⟩
theorem D110_27 : rDec M110 27 (.ifCond .eq 13) 3 30 := ⟨by decide +kernel, rfl⟩
theorem D110_30 : rDec M110 30 (.aload_n 0) 1 31 := ⟨by decide +kernel, rfl⟩
theorem D110_31 : rDec M110 31 (.getfield 22) 3 34 := ⟨by decide +kernel, rfl⟩
theorem D110_34 : rDec M110 34 (.getfield 131) 3 37 := ⟨by decide +kernel, rfl⟩
theorem D110_37 : rDec M110 37 (.goto 4) 3 40 := ⟨by decide +kernel, rfl⟩
theorem D110_41 : rDec M110 41 (.ireturn) 1 42 := ⟨by decide +kernel, rfl⟩
theorem P110_41 : rSnd lab M110 41 B110_41 := by
  exact s_Ri (Or.inl rfl) D110_41.1
theorem P110_20 : rSnd lab M110 20 B110_20 := by
  refine s_Al gk0 (Or.inr ⟨0, D110_20, rfl⟩) ?_
  refine s_Il gk1 (Or.inr ⟨1, D110_21, rfl⟩) ?_
  refine s_Il gk2 (Or.inr ⟨2, D110_22, rfl⟩) ?_
  refine s_Il gk3 (Or.inr ⟨3, D110_23, rfl⟩) ?_
  refine s_Cv (ln := 3) (kd := 2) (C := "WordWright") (by decide) (by decide +kernel) rfl (l_V rfl ok64 rfl wd1280 wd1282 ws54 D110_24.1) (?_ : rSnd _ _ 27 _)
  refine s_If c_eq (fun _ => rfl) (fun _ _ => rfl) (b_eq (tg := 40) (by decide)) D110_27.1 rSnd_none (?_ : rSnd _ _ 30 _)
  refine s_Al gk0 (Or.inr ⟨0, D110_30, rfl⟩) ?_
  refine s_Gf (ci := 0) (r := ("WordWright", kT0, 13)) rfl (show 4 < 13 from by decide) rfl (Or.inl wd440) (Or.inl rfl) rfl D110_31 ?_
  refine s_Gf (ci := 3) (r := ("WordWright$Language", kT3, 3)) rfl (show 0 < 3 from by decide) rfl (Or.inl wd74) (Or.inl rfl) rfl D110_34 ?_
  exact s_Go (pc' := 41) D110_37.1 (by decide) P110_41
theorem P110_0 : rSnd lab M110 0 B110_0 := by
  refine s_Ent ?_
  refine s_Al gk0 (Or.inr ⟨0, D110_0, rfl⟩) ?_
  refine s_Il gk1 (Or.inr ⟨1, D110_1, rfl⟩) ?_
  refine s_Il gk2 (Or.inr ⟨2, D110_2, rfl⟩) ?_
  refine s_Il gk3 (Or.inr ⟨3, D110_3, rfl⟩) ?_
  refine s_Cv (ln := 3) (kd := 2) (C := "WordWright") (by decide) (by decide +kernel) rfl (l_V rfl ok65 rfl wd1262 wd1264 ws51 D110_4.1) (?_ : rSnd _ _ 7 _)
  refine s_If c_ne (fun _ => rfl) (fun _ _ => rfl) (b_ne (tg := 20) (by decide)) D110_7.1 P110_20 (?_ : rSnd _ _ 10 _)
  exact s_Thr (ik := 91) (is := 93) (ic := 95) (text := "no such KIND, or no such a or b for it") (names := ["java/lang/RuntimeException", "java/lang/Exception"]) false rfl rfl (by decide) (by decide +kernel) (by decide +kernel) (by decide) rfl wd1277 wd27 (List.mem_of_getElem? (i := 9) rfl) at_WordWright_95 at_WordWright_95g D110_10.1 D110_13.1 (Or.inl ⟨rfl, D110_14.1, D110_16.1, D110_19.1⟩)
theorem D111_0 : rDec M111 0 (.aload_n 0) 1 1 := ⟨by decide +kernel, rfl⟩
theorem D111_1 : rDec M111 1 (.iload_n 1) 1 2 := ⟨by decide +kernel, rfl⟩
theorem D111_2 : rDec M111 2 (.invokevirtual 171) 3 5 := ⟨by decide +kernel, rfl⟩
theorem D111_5 : rDec M111 5 (.ifCond .ne 13) 3 8 := ⟨by decide +kernel, rfl⟩
theorem D111_8 : rDec M111 8 (.new 120) 3 11 := ⟨by decide +kernel, rfl⟩
theorem D111_11 : rDec M111 11 (.dup) 1 12 := ⟨by decide +kernel, rfl⟩
theorem D111_12 : rDec M111 12 (.ldc 174) 2 14 := ⟨by decide +kernel, rfl⟩
theorem D111_14 : rDec M111 14 (.invokespecial 124) 3 17 := ⟨by decide +kernel, rfl⟩
theorem D111_17 : rDec M111 17 (.athrow) 1 18 := ⟨by decide +kernel, rfl⟩
theorem P111_0 : rSnd lab M111 0 B111_0 := by
  refine s_Ent ?_
  refine s_Al gk0 (Or.inr ⟨0, D111_0, rfl⟩) ?_
  refine s_Il gk1 (Or.inr ⟨1, D111_1, rfl⟩) ?_
  refine s_Cv (ln := 3) (kd := 2) (C := "WordWright") (by decide) (by decide +kernel) rfl (l_V rfl ok76 rfl wd1273 wd1275 ws53 D111_2.1) (?_ : rSnd _ _ 5 _)
  refine s_If c_ne (fun _ => rfl) (fun _ _ => rfl) (b_ne (tg := 18) (by decide)) D111_5.1 rSnd_none (?_ : rSnd _ _ 8 _)
  exact s_Thr (ik := 120) (is := 174) (ic := 124) (text := "no such MACHINE") (names := ["java/lang/RuntimeException", "java/lang/Exception"]) false rfl rfl (by decide) (by decide +kernel) (by decide +kernel) (by decide) rfl wd1351 wd38 (List.mem_of_getElem? (i := 0) rfl) at_WordWright_124 at_WordWright_124g D111_8.1 D111_11.1 (Or.inl ⟨rfl, D111_12.1, D111_14.1, D111_17.1⟩)
theorem D112_0 : rDec M112 0 (.aload_n 0) 1 1 := ⟨by decide +kernel, rfl⟩
theorem D112_1 : rDec M112 1 (.getfield 1) 3 4 := ⟨by decide +kernel, rfl⟩
theorem D112_4 : rDec M112 4 (.iconst 3) 1 5 := ⟨by decide +kernel, rfl⟩
theorem D112_5 : rDec M112 5 (.if_icmp .eq 31) 3 8 := ⟨by decide +kernel, rfl⟩
theorem D112_8 : rDec M112 8 (.aload_n 0) 1 9 := ⟨by decide +kernel, rfl⟩
theorem D112_9 : rDec M112 9 (.getfield 1) 3 12 := ⟨by decide +kernel, rfl⟩
theorem D112_12 : rDec M112 12 (.iconst 1) 1 13 := ⟨by decide +kernel, rfl⟩
theorem D112_13 : rDec M112 13 (.if_icmp .ne 9) 3 16 := ⟨by decide +kernel, rfl⟩
theorem D112_16 : rDec M112 16 (.lload_n 1) 1 17 := ⟨by decide +kernel, rfl⟩
theorem D112_17 : rDec M112 17 (.lconst 0) 1 18 := ⟨by decide +kernel, rfl⟩
theorem D112_18 : rDec M112 18 (.lcmp) 1 19 := ⟨by decide +kernel, rfl⟩
theorem D112_19 : rDec M112 19 (.ifCond .eq 17) 3 22 := ⟨by decide +kernel, rfl⟩
theorem D112_22 : rDec M112 22 (.aload_n 0) 1 23 := ⟨by decide +kernel, rfl⟩
theorem D112_23 : rDec M112 23 (.getfield 1) 3 26 := ⟨by decide +kernel, rfl⟩
theorem D112_26 : rDec M112 26 (.iconst 2) 1 27 := ⟨by decide +kernel, rfl⟩
theorem D112_27 : rDec M112 27 (.if_icmp .ne 13) 3 30 := ⟨by decide +kernel, rfl⟩
theorem D112_30 : rDec M112 30 (.lload_n 1) 1 31 := ⟨by decide +kernel, rfl⟩
theorem D112_31 : rDec M112 31 (.lconst 1) 1 32 := ⟨by decide +kernel, rfl⟩
theorem D112_32 : rDec M112 32 (.lcmp) 1 33 := ⟨by decide +kernel, rfl⟩
theorem D112_33 : rDec M112 33 (.ifCond .ne 7) 3 36 := ⟨by decide +kernel, rfl⟩
theorem D112_36 : rDec M112 36 (.iconst 1) 1 37 := ⟨by decide +kernel, rfl⟩
theorem D112_37 : rDec M112 37 (.goto 4) 3 40 := ⟨by decide +kernel, rfl⟩
theorem D112_40 : rDec M112 40 (.iconst 0) 1 41 := ⟨by decide +kernel, rfl⟩
theorem D112_41 : rDec M112 41 (.ireturn) 1 42 := ⟨by decide +kernel, rfl⟩
theorem P112_41 : rSnd lab M112 41 B112_41 := by
  exact s_Ri (Or.inr ⟨rfl, by decide⟩) D112_41.1
theorem P112_40 : rSnd lab M112 40 B112_40 := by
  refine s_ic D112_40 kc_i_0 (by decide) ?_
  exact P112_41
theorem P112_36 : rSnd lab M112 36 B112_36 := by
  refine s_ic D112_36 kc_i_1 (by decide) ?_
  exact s_Go (pc' := 41) D112_37.1 (by decide) P112_41
theorem P112_22 : rSnd lab M112 22 B112_22 := by
  refine s_Al gk0 (Or.inr ⟨0, D112_22, rfl⟩) ?_
  refine s_Gf (ci := 12) (r := ("WordWrightModel$1", kT12, 2)) rfl (show 0 < 2 from by decide) rfl (Or.inl wd1684) (Or.inl rfl) rfl D112_23 ?_
  refine s_ic D112_26 kc_i_2 (by decide) ?_
  refine s_Ic c_ne (i_ne (tg := 40) (by decide)) D112_27.1 P112_40 (?_ : rSnd _ _ 30 _)
  refine s_Ll gk1 (Or.inr ⟨1, D112_30, rfl⟩) ?_
  refine s_lc D112_31 kc_L_1 (by decide) ?_
  refine s_Lcmp D112_32 ?_
  refine s_If c_ne (fun _ => rfl) (fun _ _ => rfl) (b_ne (tg := 40) (by decide)) D112_33.1 P112_40 (?_ : rSnd _ _ 36 _)
  exact P112_36
theorem P112_0 : rSnd lab M112 0 B112_0 := by
  refine s_Ent ?_
  refine s_Al gk0 (Or.inr ⟨0, D112_0, rfl⟩) ?_
  refine s_Gf (ci := 12) (r := ("WordWrightModel$1", kT12, 2)) rfl (show 0 < 2 from by decide) rfl (Or.inl wd1684) (Or.inl rfl) rfl D112_1 ?_
  refine s_ic D112_4 kc_i_3 (by decide) ?_
  refine s_Ic c_eq (i_eq (tg := 36) (by decide)) D112_5.1 P112_36 (?_ : rSnd _ _ 8 _)
  refine s_Al gk0 (Or.inr ⟨0, D112_8, rfl⟩) ?_
  refine s_Gf (ci := 12) (r := ("WordWrightModel$1", kT12, 2)) rfl (show 0 < 2 from by decide) rfl (Or.inl wd1684) (Or.inl rfl) rfl D112_9 ?_
  refine s_ic D112_12 kc_i_1 (by decide) ?_
  refine s_Ic c_ne (i_ne (tg := 22) (by decide)) D112_13.1 P112_22 (?_ : rSnd _ _ 16 _)
  refine s_Ll gk1 (Or.inr ⟨1, D112_16, rfl⟩) ?_
  refine s_lc D112_17 kc_L_0 (by decide) ?_
  refine s_Lcmp D112_18 ?_
  refine s_If c_eq (fun _ => rfl) (fun _ _ => rfl) (b_eq (tg := 36) (by decide)) D112_19.1 P112_36 (?_ : rSnd _ _ 22 _)
  exact P112_22
theorem D113_0 : rDec M113 0 (.lconst 0) 1 1 := ⟨by decide +kernel, rfl⟩
theorem D113_1 : rDec M113 1 (.lreturn) 1 2 := ⟨by decide +kernel, rfl⟩
theorem P113_0 : rSnd lab M113 0 B113_0 := by
  refine s_Ent ?_
  refine s_lc D113_0 kc_L_0 (by decide) ?_
  exact s_Rl rfl D113_1.1
theorem D114_0 : rDec M114 0 (.aload_n 0) 1 1 := ⟨by decide +kernel, rfl⟩
theorem D114_1 : rDec M114 1 (.getfield 1) 3 4 := ⟨by decide +kernel, rfl⟩
theorem D114_4 : rDec M114 4 (.iconst 2) 1 5 := ⟨by decide +kernel, rfl⟩
theorem D114_5 : rDec M114 5 (.if_icmp .ne 21) 3 8 := ⟨by decide +kernel, rfl⟩
theorem D114_8 : rDec M114 8 (.lload_n 1) 1 9 := ⟨by decide +kernel, rfl⟩
theorem D114_9 : rDec M114 9 (.lconst 0) 1 10 := ⟨by decide +kernel, rfl⟩
theorem D114_10 : rDec M114 10 (.lcmp) 1 11 := ⟨by decide +kernel, rfl⟩
theorem D114_11 : rDec M114 11 (.ifCond .ne 15) 3 14 := ⟨by decide +kernel, rfl⟩
theorem D114_14 : rDec M114 14 (.iload_n 3) 1 15 := ⟨by decide +kernel, rfl⟩
theorem D114_15 : rDec M114 15 (.aload_n 0) 1 16 := ⟨by decide +kernel, rfl⟩
theorem D114_16 : rDec M114 16 (.getfield 7) 3 19 := ⟨by decide +kernel, rfl⟩
theorem D114_19 : rDec M114 19 (.if_icmp .ne 7) 3 22 := ⟨by decide +kernel, rfl⟩
theorem D114_22 : rDec M114 22 (.lconst 1) 1 23 := ⟨by decide +kernel, rfl⟩
theorem D114_23 : rDec M114 23 (.goto 6) 3 26 := ⟨by decide +kernel, rfl⟩
theorem D114_26 : rDec M114 26 (.ldc2_w 16) 3 29 := ⟨by decide +kernel, rfl⟩
theorem D114_29 : rDec M114 29 (.lreturn) 1 30 := ⟨by decide +kernel, rfl⟩
theorem P114_29 : rSnd lab M114 29 B114_29 := by
  exact s_Rl rfl D114_29.1
theorem P114_26 : rSnd lab M114 26 B114_26 := by
  refine s_ld2 rfl wd1755 D114_26 kc_J_2 (by decide) ?_
  exact P114_29
theorem P114_0 : rSnd lab M114 0 B114_0 := by
  refine s_Ent ?_
  refine s_Al gk0 (Or.inr ⟨0, D114_0, rfl⟩) ?_
  refine s_Gf (ci := 12) (r := ("WordWrightModel$1", kT12, 2)) rfl (show 0 < 2 from by decide) rfl (Or.inl wd1684) (Or.inl rfl) rfl D114_1 ?_
  refine s_ic D114_4 kc_i_2 (by decide) ?_
  refine s_Ic c_ne (i_ne (tg := 26) (by decide)) D114_5.1 P114_26 (?_ : rSnd _ _ 8 _)
  refine s_Ll gk1 (Or.inr ⟨1, D114_8, rfl⟩) ?_
  refine s_lc D114_9 kc_L_0 (by decide) ?_
  refine s_Lcmp D114_10 ?_
  refine s_If c_ne (fun _ => rfl) (fun _ _ => rfl) (b_ne (tg := 26) (by decide)) D114_11.1 P114_26 (?_ : rSnd _ _ 14 _)
  refine s_Il gk3 (Or.inr ⟨3, D114_14, rfl⟩) ?_
  refine s_Al gk0 (Or.inr ⟨0, D114_15, rfl⟩) ?_
  refine s_Gf (ci := 12) (r := ("WordWrightModel$1", kT12, 2)) rfl (show 1 < 2 from by decide) rfl (Or.inl wd1685) (Or.inl rfl) rfl D114_16 ?_
  refine s_Ic c_ne (i_ne (tg := 26) (by decide)) D114_19.1 P114_26 (?_ : rSnd _ _ 22 _)
  refine s_lc D114_22 kc_L_1 (by decide) ?_
  exact s_Go (pc' := 29) D114_23.1 (by decide) P114_29
theorem D115_0 : rDec M115 0 (.aload_n 0) 1 1 := ⟨by decide +kernel, rfl⟩
theorem D115_1 : rDec M115 1 (.iload_n 1) 1 2 := ⟨by decide +kernel, rfl⟩
theorem D115_2 : rDec M115 2 (.putfield 1) 3 5 := ⟨by decide +kernel, rfl⟩
theorem D115_5 : rDec M115 5 (.aload_n 0) 1 6 := ⟨by decide +kernel, rfl⟩
theorem D115_6 : rDec M115 6 (.iload_n 2) 1 7 := ⟨by decide +kernel, rfl⟩
theorem D115_7 : rDec M115 7 (.putfield 7) 3 10 := ⟨by decide +kernel, rfl⟩
theorem D115_10 : rDec M115 10 (.aload_n 0) 1 11 := ⟨by decide +kernel, rfl⟩
theorem D115_11 : rDec M115 11 (.invokespecial 10) 3 14 := ⟨by decide +kernel, rfl⟩
theorem D115_14 : rDec M115 14 (.return_) 1 15 := ⟨by decide +kernel, rfl⟩
theorem P115_0 : rSnd lab M115 0 B115_0 := by
  refine s_Ent ?_
  refine s_Al gk0 (Or.inr ⟨0, D115_0, rfl⟩) ?_
  refine s_Il gk1 (Or.inr ⟨1, D115_1, rfl⟩) ?_
  refine s_Pf (ci := 12) (r := ("WordWrightModel$1", kT12, 2)) rfl (show 0 < 2 from by decide) rfl (Or.inr ⟨rfl, wd1684, rfl, rfl⟩) (Or.inl rfl) rfl (by decide) D115_2 ?_
  refine s_Al gk0 (Or.inr ⟨0, D115_5, rfl⟩) ?_
  refine s_Il gk2 (Or.inr ⟨2, D115_6, rfl⟩) ?_
  refine s_Pf (ci := 12) (r := ("WordWrightModel$1", kT12, 2)) rfl (show 1 < 2 from by decide) rfl (Or.inr ⟨rfl, wd1685, rfl, rfl⟩) (Or.inl rfl) rfl (by decide) D115_7 ?_
  refine s_Al gk0 (Or.inr ⟨0, D115_10, rfl⟩) ?_
  refine s_Ci (id := 204) rfl (l_IN (j := 6) rfl ok163 rfl rfl rfl rfl wd1681 D115_11.1) (?_ : rSnd _ _ 14 _)
  exact s_Rv rfl D115_14.1
