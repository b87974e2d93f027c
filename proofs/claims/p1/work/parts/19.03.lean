-- ===== rows and blocks, 3 =====
theorem D56_0 : rDec M56 0 (.iload_n 1) 1 1 := ⟨by decide +kernel, rfl⟩
theorem D56_1 : rDec M56 1 (.tableswitch 114 0 8 #[51, 56, 61, 66, 74, 82, 90, 98, 106]) 51 52 := ⟨by decide +kernel, rfl⟩
theorem D56_52 : rDec M56 52 (.aload_n 0) 1 53 := ⟨by decide +kernel, rfl⟩
theorem D56_53 : rDec M56 53 (.getfield 83) 3 56 := ⟨by decide +kernel, rfl⟩
theorem D56_56 : rDec M56 56 (.ireturn) 1 57 := ⟨by decide +kernel, rfl⟩
theorem D56_57 : rDec M56 57 (.aload_n 0) 1 58 := ⟨by decide +kernel, rfl⟩
theorem D56_58 : rDec M56 58 (.getfield 166) 3 61 := ⟨by decide +kernel, rfl⟩
theorem D56_61 : rDec M56 61 (.ireturn) 1 62 := ⟨by decide +kernel, rfl⟩
theorem D56_62 : rDec M56 62 (.aload_n 0) 1 63 := ⟨by decide +kernel, rfl⟩
theorem D56_63 : rDec M56 63 (.invokevirtual 461) 3 66 := ⟨by decide +kernel, rfl⟩
theorem D56_66 : rDec M56 66 (.ireturn) 1 67 := ⟨by decide +kernel, rfl⟩
theorem D56_67 : rDec M56 67 (.aload_n 0) 1 68 := ⟨by decide +kernel, rfl⟩
theorem D56_68 : rDec M56 68 (.getfield 54) 3 71 := ⟨by decide +kernel, rfl⟩
theorem D56_71 : rDec M56 71 (.getfield 236) 3 74 := ⟨by decide +kernel, rfl⟩
theorem D56_74 : rDec M56 74 (.ireturn) 1 75 := ⟨by decide +kernel, rfl⟩
theorem D56_75 : rDec M56 75 (.aload_n 0) 1 76 := ⟨by decide +kernel, rfl⟩
theorem D56_76 : rDec M56 76 (.getfield 54) 3 79 := ⟨by decide +kernel, rfl⟩
theorem D56_79 : rDec M56 79 (.invokevirtual 464) 3 82 := ⟨by decide +kernel, rfl⟩
theorem D56_82 : rDec M56 82 (.ireturn) 1 83 := ⟨by decide +kernel, rfl⟩
theorem D56_83 : rDec M56 83 (.aload_n 0) 1 84 := ⟨by decide +kernel, rfl⟩
theorem D56_84 : rDec M56 84 (.getfield 68) 3 87 := ⟨by decide +kernel, rfl⟩
theorem D56_87 : rDec M56 87 (.getfield 271) 3 90 := ⟨by decide +kernel, rfl⟩
theorem D56_90 : rDec M56 90 (.ireturn) 1 91 := ⟨by decide +kernel, rfl⟩
theorem D56_91 : rDec M56 91 (.aload_n 0) 1 92 := ⟨by decide +kernel, rfl⟩
theorem D56_92 : rDec M56 92 (.getfield 68) 3 95 := ⟨by decide +kernel, rfl⟩
theorem D56_95 : rDec M56 95 (.getfield 282) 3 98 := ⟨by decide +kernel, rfl⟩
theorem D56_98 : rDec M56 98 (.ireturn) 1 99 := ⟨by decide +kernel, rfl⟩
theorem D56_99 : rDec M56 99 (.aload_n 0) 1 100 := ⟨by decide +kernel, rfl⟩
theorem D56_100 : rDec M56 100 (.getfield 75) 3 103 := ⟨by decide +kernel, rfl⟩
theorem D56_103 : rDec M56 103 (.getfield 320) 3 106 := ⟨by decide +kernel, rfl⟩
theorem D56_106 : rDec M56 106 (.ireturn) 1 107 := ⟨by decide +kernel, rfl⟩
theorem D56_107 : rDec M56 107 (.aload_n 0) 1 108 := ⟨by decide +kernel, rfl⟩
theorem D56_108 : rDec M56 108 (.getfield 75) 3 111 := ⟨by decide +kernel, rfl⟩
theorem D56_111 : rDec M56 111 (.getfield 467) 3 114 := ⟨by decide +kernel, rfl⟩
theorem D56_114 : rDec M56 114 (.ireturn) 1 115 := ⟨by decide +kernel, rfl⟩
theorem D56_115 : rDec M56 115 (.aload_n 0) 1 116 := ⟨by decide +kernel, rfl⟩
theorem D56_116 : rDec M56 116 (.invokevirtual 470) 3 119 := ⟨by decide +kernel, rfl⟩
theorem D56_119 : rDec M56 119 (.ireturn) 1 120 := ⟨by decide +kernel, rfl⟩
theorem P56_115 : rSnd lab M56 115 B56_115 := by
  refine s_Al gk0 (Or.inr ⟨0, D56_115, rfl⟩) ?_
  refine s_Cv (ln := 3) (kd := 2) (C := "WordWright") (by decide) (by decide +kernel) rfl (l_V rfl ok60 rfl wd734 wd736 ws28 D56_116.1) (?_ : rSnd _ _ 119 _)
  exact s_Ri (Or.inl rfl) D56_119.1
theorem P56_107 : rSnd lab M56 107 B56_107 := by
  refine s_Al gk0 (Or.inr ⟨0, D56_107, rfl⟩) ?_
  refine s_Gf (ci := 0) (r := ("WordWright", kT0, 13)) rfl (show 12 < 13 from by decide) rfl (Or.inl wd448) (Or.inl rfl) rfl D56_108 ?_
  refine s_Gf (ci := 5) (r := ("WordWright$Program", kT5, 12)) rfl (show 7 < 12 from by decide) rfl (Or.inl wd396) (Or.inl rfl) rfl D56_111 ?_
  exact s_Ri (Or.inl rfl) D56_114.1
theorem P56_99 : rSnd lab M56 99 B56_99 := by
  refine s_Al gk0 (Or.inr ⟨0, D56_99, rfl⟩) ?_
  refine s_Gf (ci := 0) (r := ("WordWright", kT0, 13)) rfl (show 12 < 13 from by decide) rfl (Or.inl wd448) (Or.inl rfl) rfl D56_100 ?_
  refine s_Gf (ci := 5) (r := ("WordWright$Program", kT5, 12)) rfl (show 0 < 12 from by decide) rfl (Or.inl wd383) (Or.inl rfl) rfl D56_103 ?_
  exact s_Ri (Or.inl rfl) D56_106.1
theorem P56_91 : rSnd lab M56 91 B56_91 := by
  refine s_Al gk0 (Or.inr ⟨0, D56_91, rfl⟩) ?_
  refine s_Gf (ci := 0) (r := ("WordWright", kT0, 13)) rfl (show 11 < 13 from by decide) rfl (Or.inl wd447) (Or.inl rfl) rfl D56_92 ?_
  refine s_Gf (ci := 6) (r := ("WordWright$Schemas", kT6, 8)) rfl (show 2 < 8 from by decide) rfl (Or.inl wd350) (Or.inl rfl) rfl D56_95 ?_
  exact s_Ri (Or.inl rfl) D56_98.1
theorem P56_83 : rSnd lab M56 83 B56_83 := by
  refine s_Al gk0 (Or.inr ⟨0, D56_83, rfl⟩) ?_
  refine s_Gf (ci := 0) (r := ("WordWright", kT0, 13)) rfl (show 11 < 13 from by decide) rfl (Or.inl wd447) (Or.inl rfl) rfl D56_84 ?_
  refine s_Gf (ci := 6) (r := ("WordWright$Schemas", kT6, 8)) rfl (show 0 < 8 from by decide) rfl (Or.inl wd346) (Or.inl rfl) rfl D56_87 ?_
  exact s_Ri (Or.inl rfl) D56_90.1
theorem P56_75 : rSnd lab M56 75 B56_75 := by
  refine s_Al gk0 (Or.inr ⟨0, D56_75, rfl⟩) ?_
  refine s_Gf (ci := 0) (r := ("WordWright", kT0, 13)) rfl (show 9 < 13 from by decide) rfl (Or.inl wd445) (Or.inl rfl) rfl D56_76 ?_
  refine s_Cv (ln := 3) (kd := 6) (C := "WordWright$Equations") (by decide) (by decide +kernel) rfl (l_V rfl ok140 rfl wd730 wd731 wd732 D56_79.1) (?_ : rSnd _ _ 82 _)
  exact s_Ri (Or.inl rfl) D56_82.1
theorem P56_67 : rSnd lab M56 67 B56_67 := by
  refine s_Al gk0 (Or.inr ⟨0, D56_67, rfl⟩) ?_
  refine s_Gf (ci := 0) (r := ("WordWright", kT0, 13)) rfl (show 9 < 13 from by decide) rfl (Or.inl wd445) (Or.inl rfl) rfl D56_68 ?_
  refine s_Gf (ci := 2) (r := ("WordWright$Equations", kT2, 8)) rfl (show 2 < 8 from by decide) rfl (Or.inl wd266) (Or.inl rfl) rfl D56_71 ?_
  exact s_Ri (Or.inl rfl) D56_74.1
theorem P56_62 : rSnd lab M56 62 B56_62 := by
  refine s_Al gk0 (Or.inr ⟨0, D56_62, rfl⟩) ?_
  refine s_Cv (ln := 3) (kd := 2) (C := "WordWright") (by decide) (by decide +kernel) rfl (l_V rfl ok58 rfl wd726 wd728 ws27 D56_63.1) (?_ : rSnd _ _ 66 _)
  exact s_Ri (Or.inl rfl) D56_66.1
theorem P56_57 : rSnd lab M56 57 B56_57 := by
  refine s_Al gk0 (Or.inr ⟨0, D56_57, rfl⟩) ?_
  refine s_Gf (ci := 0) (r := ("WordWright", kT0, 13)) rfl (show 3 < 13 from by decide) rfl (Or.inl wd439) (Or.inl rfl) rfl D56_58 ?_
  exact s_Ri (Or.inl rfl) D56_61.1
theorem P56_52 : rSnd lab M56 52 B56_52 := by
  refine s_Al gk0 (Or.inr ⟨0, D56_52, rfl⟩) ?_
  refine s_Gf (ci := 0) (r := ("WordWright", kT0, 13)) rfl (show 1 < 13 from by decide) rfl (Or.inl wd437) (Or.inl rfl) rfl D56_53 ?_
  exact s_Ri (Or.inl rfl) D56_56.1
theorem P56_0 : rSnd lab M56 0 B56_0 := by
  refine s_Ent ?_
  refine s_Il gk1 (Or.inr ⟨1, D56_0, rfl⟩) ?_
  exact s_Tsw (tgd := 115) D56_1.1 rfl (by decide) (by decide) ⟨⟨52, by decide, P56_52⟩, ⟨57, by decide, P56_57⟩, ⟨62, by decide, P56_62⟩, ⟨67, by decide, P56_67⟩, ⟨75, by decide, P56_75⟩, ⟨83, by decide, P56_83⟩, ⟨91, by decide, P56_91⟩, ⟨99, by decide, P56_99⟩, ⟨107, by decide, P56_107⟩, trivial⟩ (by decide) P56_115
theorem D57_0 : rDec M57 0 (.aload_n 0) 1 1 := ⟨by decide +kernel, rfl⟩
theorem D57_1 : rDec M57 1 (.iload_n 1) 1 2 := ⟨by decide +kernel, rfl⟩
theorem D57_2 : rDec M57 2 (.invokevirtual 171) 3 5 := ⟨by decide +kernel, rfl⟩
theorem D57_5 : rDec M57 5 (.ifCond .ne 13) 3 8 := ⟨by decide +kernel, rfl⟩
theorem D57_8 : rDec M57 8 (.new 120) 3 11 := ⟨by decide +kernel, rfl⟩
theorem D57_11 : rDec M57 11 (.dup) 1 12 := ⟨by decide +kernel, rfl⟩
theorem D57_12 : rDec M57 12 (.ldc 174) 2 14 := ⟨by decide +kernel, rfl⟩
theorem D57_14 : rDec M57 14 (.invokespecial 124) 3 17 := ⟨by decide +kernel, rfl⟩
theorem D57_17 : rDec M57 17 (.athrow) 1 18 := ⟨by decide +kernel, rfl⟩
theorem P57_0 : rSnd lab M57 0 B57_0 := by
  refine s_Ent ?_
  refine s_Al gk0 (Or.inr ⟨0, D57_0, rfl⟩) ?_
  refine s_Il gk1 (Or.inr ⟨1, D57_1, rfl⟩) ?_
  refine s_Cv (ln := 3) (kd := 2) (C := "WordWright") (by decide) (by decide +kernel) rfl (l_V rfl ok76 rfl wd1273 wd1275 ws53 D57_2.1) (?_ : rSnd _ _ 5 _)
  refine s_If c_ne (fun _ => rfl) (fun _ _ => rfl) (b_ne (tg := 18) (by decide)) D57_5.1 rSnd_none (?_ : rSnd _ _ 8 _)
  exact s_Thr (ik := 120) (is := 174) (ic := 124) (text := "no such MACHINE") (names := ["java/lang/RuntimeException", "java/lang/Exception"]) false rfl rfl (by decide) (by decide +kernel) (by decide +kernel) (by decide) rfl wd1351 wd38 (List.mem_of_getElem? (i := 0) rfl) at_WordWright_124 at_WordWright_124g D57_8.1 D57_11.1 (Or.inl ⟨rfl, D57_12.1, D57_14.1, D57_17.1⟩)
theorem D58_0 : rDec M58 0 (.iconst 0) 1 1 := ⟨by decide +kernel, rfl⟩
theorem D58_1 : rDec M58 1 (.istore_n 1) 1 2 := ⟨by decide +kernel, rfl⟩
theorem D58_2 : rDec M58 2 (.iconst 0) 1 3 := ⟨by decide +kernel, rfl⟩
theorem D58_3 : rDec M58 3 (.istore_n 2) 1 4 := ⟨by decide +kernel, rfl⟩
theorem D58_4 : rDec M58 4 (.iload_n 2) 1 5 := ⟨by decide +kernel, rfl⟩
theorem D58_5 : rDec M58 5 (.aload_n 0) 1 6 := ⟨by decide +kernel, rfl⟩
theorem D58_6 : rDec M58 6 (.getfield 166) 3 9 := ⟨by decide +kernel, rfl⟩
theorem D58_9 : rDec M58 9 (.if_icmp .ge 21) 3 12 := ⟨by decide +kernel, rfl⟩
theorem D58_30 : rDec M58 30 (.iload_n 1) 1 31 := ⟨by decide +kernel, rfl⟩
theorem D58_31 : rDec M58 31 (.ireturn) 1 32 := ⟨by decide +kernel, rfl⟩
theorem P58_30 : rSnd lab M58 30 B58_30 := by
  refine s_Il gk1 (Or.inr ⟨1, D58_30, rfl⟩) ?_
  exact s_Ri (Or.inl rfl) D58_31.1
theorem P58_0 : rSnd lab M58 0 B58_0 := by
  refine s_Ent ?_
  refine s_ic D58_0 kc_i_0 (by decide) ?_
  refine s_Is sk1 (show 1 < 3 from by decide) (Or.inr ⟨1, D58_1, rfl⟩) ?_
  refine s_ic D58_2 kc_i_0 (by decide) ?_
  refine s_Is sk2 (show 2 < 3 from by decide) (Or.inr ⟨2, D58_3, rfl⟩) ?_
  refine s_Il gk2 (Or.inr ⟨2, D58_4, rfl⟩) ?_
  refine s_Al gk0 (Or.inr ⟨0, D58_5, rfl⟩) ?_
  refine s_Gf (ci := 0) (r := ("WordWright", kT0, 13)) rfl (show 3 < 13 from by decide) rfl (Or.inl wd439) (Or.inl rfl) rfl D58_6 ?_
  refine s_Ic c_ge (i_ge (tg := 30) (by decide)) D58_9.1 P58_30 (?_ : rSnd _ _ 12 _)
  exact rSnd_none
theorem D59_0 : rDec M59 0 (.iload_n 1) 1 1 := ⟨by decide +kernel, rfl⟩
theorem D59_1 : rDec M59 1 (.ifCond .lt 14) 3 4 := ⟨by decide +kernel, rfl⟩
theorem D59_4 : rDec M59 4 (.iload_n 1) 1 5 := ⟨by decide +kernel, rfl⟩
theorem D59_5 : rDec M59 5 (.aload_n 0) 1 6 := ⟨by decide +kernel, rfl⟩
theorem D59_6 : rDec M59 6 (.getfield 75) 3 9 := ⟨by decide +kernel, rfl⟩
theorem D59_9 : rDec M59 9 (.getfield 320) 3 12 := ⟨by decide +kernel, rfl⟩
theorem D59_12 : rDec M59 12 (.if_icmp .lt 14) 3 15 := ⟨by decide +kernel, rfl⟩
theorem D59_15 : rDec M59 15 (.new 120) 3 18 := ⟨by decide +kernel, rfl⟩
theorem D59_18 : rDec M59 18 (.dup) 1 19 := ⟨by decide +kernel, rfl⟩
theorem D59_19 : rDec M59 19 (.ldc_w 340) 3 22 := ⟨by decide +kernel, rfl⟩
theorem D59_22 : rDec M59 22 (.invokespecial 124) 3 25 := ⟨by decide +kernel, rfl⟩
theorem D59_25 : rDec M59 25 (.athrow) 1 26 := ⟨by decide +kernel, rfl⟩
theorem P59_15 : rSnd lab M59 15 B59_15 := by
  exact s_Thr (ik := 120) (is := 340) (ic := 124) (text := "no such STEP") (names := ["java/lang/RuntimeException", "java/lang/Exception"]) true rfl rfl (by decide) (by decide +kernel) (by decide +kernel) (by decide) rfl wd1351 wd38 (List.mem_of_getElem? (i := 1) rfl) at_WordWright_124 at_WordWright_124g D59_15.1 D59_18.1 (Or.inr ⟨rfl, D59_19.1, D59_22.1, D59_25.1⟩)
theorem P59_0 : rSnd lab M59 0 B59_0 := by
  refine s_Ent ?_
  refine s_Il gk1 (Or.inr ⟨1, D59_0, rfl⟩) ?_
  refine s_If c_lt (fun _ => rfl) (fun _ _ => rfl) (b_lt (tg := 15) (by decide)) D59_1.1 P59_15 (?_ : rSnd _ _ 4 _)
  refine s_Il gk1 (Or.inr ⟨1, D59_4, rfl⟩) ?_
  refine s_Al gk0 (Or.inr ⟨0, D59_5, rfl⟩) ?_
  refine s_Gf (ci := 0) (r := ("WordWright", kT0, 13)) rfl (show 12 < 13 from by decide) rfl (Or.inl wd448) (Or.inl rfl) rfl D59_6 ?_
  refine s_Gf (ci := 5) (r := ("WordWright$Program", kT5, 12)) rfl (show 0 < 12 from by decide) rfl (Or.inl wd383) (Or.inl rfl) rfl D59_9 ?_
  refine s_Ic c_lt (i_lt (tg := 26) (by decide)) D59_12.1 rSnd_none (?_ : rSnd _ _ 15 _)
  exact P59_15
theorem D60_0 : rDec M60 0 (.iconst 0) 1 1 := ⟨by decide +kernel, rfl⟩
theorem D60_1 : rDec M60 1 (.istore_n 1) 1 2 := ⟨by decide +kernel, rfl⟩
theorem D60_2 : rDec M60 2 (.iconst 0) 1 3 := ⟨by decide +kernel, rfl⟩
theorem D60_3 : rDec M60 3 (.istore_n 2) 1 4 := ⟨by decide +kernel, rfl⟩
theorem D60_4 : rDec M60 4 (.iload_n 2) 1 5 := ⟨by decide +kernel, rfl⟩
theorem D60_5 : rDec M60 5 (.aload_n 0) 1 6 := ⟨by decide +kernel, rfl⟩
theorem D60_6 : rDec M60 6 (.getfield 75) 3 9 := ⟨by decide +kernel, rfl⟩
theorem D60_9 : rDec M60 9 (.getfield 320) 3 12 := ⟨by decide +kernel, rfl⟩
theorem D60_12 : rDec M60 12 (.if_icmp .ge 20) 3 15 := ⟨by decide +kernel, rfl⟩
theorem D60_32 : rDec M60 32 (.iload_n 1) 1 33 := ⟨by decide +kernel, rfl⟩
theorem D60_33 : rDec M60 33 (.ireturn) 1 34 := ⟨by decide +kernel, rfl⟩
theorem P60_32 : rSnd lab M60 32 B60_32 := by
  refine s_Il gk1 (Or.inr ⟨1, D60_32, rfl⟩) ?_
  exact s_Ri (Or.inl rfl) D60_33.1
theorem P60_0 : rSnd lab M60 0 B60_0 := by
  refine s_Ent ?_
  refine s_ic D60_0 kc_i_0 (by decide) ?_
  refine s_Is sk1 (show 1 < 3 from by decide) (Or.inr ⟨1, D60_1, rfl⟩) ?_
  refine s_ic D60_2 kc_i_0 (by decide) ?_
  refine s_Is sk2 (show 2 < 3 from by decide) (Or.inr ⟨2, D60_3, rfl⟩) ?_
  refine s_Il gk2 (Or.inr ⟨2, D60_4, rfl⟩) ?_
  refine s_Al gk0 (Or.inr ⟨0, D60_5, rfl⟩) ?_
  refine s_Gf (ci := 0) (r := ("WordWright", kT0, 13)) rfl (show 12 < 13 from by decide) rfl (Or.inl wd448) (Or.inl rfl) rfl D60_6 ?_
  refine s_Gf (ci := 5) (r := ("WordWright$Program", kT5, 12)) rfl (show 0 < 12 from by decide) rfl (Or.inl wd383) (Or.inl rfl) rfl D60_9 ?_
  refine s_Ic c_ge (i_ge (tg := 32) (by decide)) D60_12.1 P60_32 (?_ : rSnd _ _ 15 _)
  exact rSnd_none
theorem D61_0 : rDec M61 0 (.aload_n 0) 1 1 := ⟨by decide +kernel, rfl⟩
theorem D61_1 : rDec M61 1 (.iload_n 1) 1 2 := ⟨by decide +kernel, rfl⟩
theorem D61_2 : rDec M61 2 (.invokevirtual 274) 3 5 := ⟨by decide +kernel, rfl⟩
theorem D61_5 : rDec M61 5 (.ifCond .eq 10) 3 8 := ⟨by decide +kernel, rfl⟩
theorem D61_15 : rDec M61 15 (.new 120) 3 18 := ⟨by decide +kernel, rfl⟩
theorem D61_18 : rDec M61 18 (.dup) 1 19 := ⟨by decide +kernel, rfl⟩
theorem D61_19 : rDec M61 19 (.ldc_w 277) 3 22 := ⟨by decide +kernel, rfl⟩
theorem D61_22 : rDec M61 22 (.invokespecial 124) 3 25 := ⟨by decide +kernel, rfl⟩
theorem D61_25 : rDec M61 25 (.athrow) 1 26 := ⟨by decide +kernel, rfl⟩
theorem P61_15 : rSnd lab M61 15 B61_15 := by
  exact s_Thr (ik := 120) (is := 277) (ic := 124) (text := "no such SCHEMA, or LETTER") (names := ["java/lang/RuntimeException", "java/lang/Exception"]) true rfl rfl (by decide) (by decide +kernel) (by decide +kernel) (by decide) rfl wd1351 wd38 (List.mem_of_getElem? (i := 2) rfl) at_WordWright_124 at_WordWright_124g D61_15.1 D61_18.1 (Or.inr ⟨rfl, D61_19.1, D61_22.1, D61_25.1⟩)
theorem P61_0 : rSnd lab M61 0 B61_0 := by
  refine s_Ent ?_
  refine s_Al gk0 (Or.inr ⟨0, D61_0, rfl⟩) ?_
  refine s_Il gk1 (Or.inr ⟨1, D61_1, rfl⟩) ?_
  refine s_Cv (ln := 3) (kd := 2) (C := "WordWright") (by decide) (by decide +kernel) rfl (l_V rfl ok77 rfl wd1560 wd1562 ws56 D61_2.1) (?_ : rSnd _ _ 5 _)
  refine s_If c_eq (fun _ => rfl) (fun _ _ => rfl) (b_eq (tg := 15) (by decide)) D61_5.1 P61_15 (?_ : rSnd _ _ 8 _)
  exact rSnd_none
theorem D62_0 : rDec M62 0 (.aload_n 0) 1 1 := ⟨by decide +kernel, rfl⟩
theorem D62_1 : rDec M62 1 (.iload_n 1) 1 2 := ⟨by decide +kernel, rfl⟩
theorem D62_2 : rDec M62 2 (.invokevirtual 116) 3 5 := ⟨by decide +kernel, rfl⟩
theorem D62_5 : rDec M62 5 (.ifCond .eq 11) 3 8 := ⟨by decide +kernel, rfl⟩
theorem D62_8 : rDec M62 8 (.aload_n 0) 1 9 := ⟨by decide +kernel, rfl⟩
theorem D62_9 : rDec M62 9 (.iload_n 2) 1 10 := ⟨by decide +kernel, rfl⟩
theorem D62_10 : rDec M62 10 (.invokevirtual 116) 3 13 := ⟨by decide +kernel, rfl⟩
theorem D62_13 : rDec M62 13 (.ifCond .ne 13) 3 16 := ⟨by decide +kernel, rfl⟩
theorem D62_16 : rDec M62 16 (.new 120) 3 19 := ⟨by decide +kernel, rfl⟩
theorem D62_19 : rDec M62 19 (.dup) 1 20 := ⟨by decide +kernel, rfl⟩
theorem D62_20 : rDec M62 20 (.ldc 122) 2 22 := ⟨by decide +kernel, rfl⟩
theorem D62_22 : rDec M62 22 (.invokespecial 124) 3 25 := ⟨by decide +kernel, rfl⟩
theorem D62_25 : rDec M62 25 (.athrow) 1 26 := ⟨by decide +kernel, rfl⟩
theorem D62_26 : rDec M62 26 (.aload_n 0) 1 27 := ⟨by decide +kernel, rfl⟩
theorem D62_27 : rDec M62 27 (.getfield 40) 3 30 := ⟨by decide +kernel, rfl⟩
theorem D62_30 : rDec M62 30 (.aload_n 0) 1 31 := ⟨by decide +kernel, rfl⟩
theorem D62_31 : rDec M62 31 (.getfield 11) 3 34 := ⟨by decide +kernel, rfl⟩
theorem D62_34 : rDec M62 34 (.iload_n 1) 1 35 := ⟨by decide +kernel, rfl⟩
theorem D62_35 : rDec M62 35 (.aaload) 1 36 := ⟨by decide +kernel, rfl⟩
theorem D62_36 : rDec M62 36 (.aload_n 0) 1 37 := ⟨by decide +kernel, rfl⟩
theorem D62_37 : rDec M62 37 (.getfield 11) 3 40 := ⟨by decide +kernel, rfl⟩
theorem D62_40 : rDec M62 40 (.iload_n 2) 1 41 := ⟨by decide +kernel, rfl⟩
theorem D62_41 : rDec M62 41 (.aaload) 1 42 := ⟨by decide +kernel, rfl⟩
theorem D62_42 : rDec M62 42 (.invokevirtual 157) 3 45 := ⟨by decide +kernel, rfl⟩
theorem D62_45 : rDec M62 45 (.istore_n 3) 1 46 := ⟨by decide +kernel, rfl⟩
theorem D62_46 : rDec M62 46 (.iload_n 3) 1 47 := ⟨by decide +kernel, rfl⟩
theorem D62_47 : rDec M62 47 (.iconst (-1)) 1 48 := ⟨by decide +kernel, rfl⟩
theorem D62_48 : rDec M62 48 (.if_icmp .ne 13) 3 51 := ⟨by decide +kernel, rfl⟩
theorem D62_61 : rDec M62 61 (.iload_n 3) 1 62 := ⟨by decide +kernel, rfl⟩
theorem D62_62 : rDec M62 62 (.ireturn) 1 63 := ⟨by decide +kernel, rfl⟩
theorem P62_61 : rSnd lab M62 61 B62_61 := by
  refine s_Il gk3 (Or.inr ⟨3, D62_61, rfl⟩) ?_
  exact s_Ri (Or.inl rfl) D62_62.1
theorem P62_26 : rSnd lab M62 26 B62_26 := by
  refine s_Al gk0 (Or.inr ⟨0, D62_26, rfl⟩) ?_
  refine s_Gf (ci := 0) (r := ("WordWright", kT0, 13)) rfl (show 7 < 13 from by decide) rfl (Or.inl wd443) (Or.inl rfl) rfl D62_27 ?_
  refine s_Al gk0 (Or.inr ⟨0, D62_30, rfl⟩) ?_
  refine s_Gf (ci := 0) (r := ("WordWright", kT0, 13)) rfl (show 0 < 13 from by decide) rfl (Or.inl wd436) (Or.inl rfl) rfl D62_31 ?_
  refine s_Il gk1 (Or.inr ⟨1, D62_34, rfl⟩) ?_
  refine s_Aal D62_35 ?_
  refine s_Al gk0 (Or.inr ⟨0, D62_36, rfl⟩) ?_
  refine s_Gf (ci := 0) (r := ("WordWright", kT0, 13)) rfl (show 0 < 13 from by decide) rfl (Or.inl wd436) (Or.inl rfl) rfl D62_37 ?_
  refine s_Il gk2 (Or.inr ⟨2, D62_40, rfl⟩) ?_
  refine s_Aal D62_41 ?_
  refine s_Cv (ln := 3) (kd := 16) (C := "WordWright$Search") (by decide) (by decide +kernel) rfl (l_V rfl ok264 rfl wd742 wd743 wd744 D62_42.1) (?_ : rSnd _ _ 45 _)
  refine s_Is sk3 (show 3 < 4 from by decide) (Or.inr ⟨3, D62_45, rfl⟩) ?_
  refine s_Il gk3 (Or.inr ⟨3, D62_46, rfl⟩) ?_
  refine s_ic D62_47 kc_i_m1 (by decide) ?_
  refine s_Ic c_ne (i_ne (tg := 61) (by decide)) D62_48.1 P62_61 (?_ : rSnd _ _ 51 _)
  exact rSnd_none
theorem P62_16 : rSnd lab M62 16 B62_16 := by
  exact s_Thr (ik := 120) (is := 122) (ic := 124) (text := "no such LANGUAGE") (names := ["java/lang/RuntimeException", "java/lang/Exception"]) false rfl rfl (by decide) (by decide +kernel) (by decide +kernel) (by decide) rfl wd1351 wd38 (List.mem_of_getElem? (i := 3) rfl) at_WordWright_124 at_WordWright_124g D62_16.1 D62_19.1 (Or.inl ⟨rfl, D62_20.1, D62_22.1, D62_25.1⟩)
theorem P62_0 : rSnd lab M62 0 B62_0 := by
  refine s_Ent ?_
  refine s_Al gk0 (Or.inr ⟨0, D62_0, rfl⟩) ?_
  refine s_Il gk1 (Or.inr ⟨1, D62_1, rfl⟩) ?_
  refine s_Cv (ln := 3) (kd := 2) (C := "WordWright") (by decide) (by decide +kernel) rfl (l_V rfl ok74 rfl wd1269 wd1271 ws52 D62_2.1) (?_ : rSnd _ _ 5 _)
  refine s_If c_eq (fun _ => rfl) (fun _ _ => rfl) (b_eq (tg := 16) (by decide)) D62_5.1 P62_16 (?_ : rSnd _ _ 8 _)
  refine s_Al gk0 (Or.inr ⟨0, D62_8, rfl⟩) ?_
  refine s_Il gk2 (Or.inr ⟨2, D62_9, rfl⟩) ?_
  refine s_Cv (ln := 3) (kd := 2) (C := "WordWright") (by decide) (by decide +kernel) rfl (l_V rfl ok74 rfl wd1269 wd1271 ws52 D62_10.1) (?_ : rSnd _ _ 13 _)
  refine s_If c_ne (fun _ => rfl) (fun _ _ => rfl) (b_ne (tg := 26) (by decide)) D62_13.1 P62_26 (?_ : rSnd _ _ 16 _)
  exact P62_16
theorem D63_0 : rDec M63 0 (.aload_n 0) 1 1 := ⟨by decide +kernel, rfl⟩
theorem D63_1 : rDec M63 1 (.iload_n 1) 1 2 := ⟨by decide +kernel, rfl⟩
theorem D63_2 : rDec M63 2 (.invokevirtual 171) 3 5 := ⟨by decide +kernel, rfl⟩
theorem D63_5 : rDec M63 5 (.ifCond .eq 19) 3 8 := ⟨by decide +kernel, rfl⟩
theorem D63_24 : rDec M63 24 (.new 120) 3 27 := ⟨by decide +kernel, rfl⟩
theorem D63_27 : rDec M63 27 (.dup) 1 28 := ⟨by decide +kernel, rfl⟩
theorem D63_28 : rDec M63 28 (.ldc 219) 2 30 := ⟨by decide +kernel, rfl⟩
theorem D63_30 : rDec M63 30 (.invokespecial 124) 3 33 := ⟨by decide +kernel, rfl⟩
theorem D63_33 : rDec M63 33 (.athrow) 1 34 := ⟨by decide +kernel, rfl⟩
theorem P63_24 : rSnd lab M63 24 B63_24 := by
  exact s_Thr (ik := 120) (is := 219) (ic := 124) (text := "no such MACHINE, or LANGUAGE") (names := ["java/lang/RuntimeException", "java/lang/Exception"]) false rfl rfl (by decide) (by decide +kernel) (by decide +kernel) (by decide) rfl wd1351 wd38 (List.mem_of_getElem? (i := 4) rfl) at_WordWright_124 at_WordWright_124g D63_24.1 D63_27.1 (Or.inl ⟨rfl, D63_28.1, D63_30.1, D63_33.1⟩)
theorem P63_0 : rSnd lab M63 0 B63_0 := by
  refine s_Ent ?_
  refine s_Al gk0 (Or.inr ⟨0, D63_0, rfl⟩) ?_
  refine s_Il gk1 (Or.inr ⟨1, D63_1, rfl⟩) ?_
  refine s_Cv (ln := 3) (kd := 2) (C := "WordWright") (by decide) (by decide +kernel) rfl (l_V rfl ok76 rfl wd1273 wd1275 ws53 D63_2.1) (?_ : rSnd _ _ 5 _)
  refine s_If c_eq (fun _ => rfl) (fun _ _ => rfl) (b_eq (tg := 24) (by decide)) D63_5.1 P63_24 (?_ : rSnd _ _ 8 _)
  exact rSnd_none
theorem D64_0 : rDec M64 0 (.iload_n 1) 1 1 := ⟨by decide +kernel, rfl⟩
theorem D64_1 : rDec M64 1 (.tableswitch 255 0 12 #[67, 76, 85, 95, 104, 128, 128, 128, 153, 171, 189, 207, 231]) 67 68 := ⟨by decide +kernel, rfl⟩
theorem D64_68 : rDec M64 68 (.aload_n 0) 1 69 := ⟨by decide +kernel, rfl⟩
theorem D64_69 : rDec M64 69 (.getfield 22) 3 72 := ⟨by decide +kernel, rfl⟩
theorem D64_72 : rDec M64 72 (.invokevirtual 384) 3 75 := ⟨by decide +kernel, rfl⟩
theorem D64_75 : rDec M64 75 (.iconst 1) 1 76 := ⟨by decide +kernel, rfl⟩
theorem D64_76 : rDec M64 76 (.ireturn) 1 77 := ⟨by decide +kernel, rfl⟩
theorem D64_77 : rDec M64 77 (.aload_n 0) 1 78 := ⟨by decide +kernel, rfl⟩
theorem D64_78 : rDec M64 78 (.getfield 22) 3 81 := ⟨by decide +kernel, rfl⟩
theorem D64_81 : rDec M64 81 (.invokevirtual 387) 3 84 := ⟨by decide +kernel, rfl⟩
theorem D64_84 : rDec M64 84 (.iconst 1) 1 85 := ⟨by decide +kernel, rfl⟩
theorem D64_85 : rDec M64 85 (.ireturn) 1 86 := ⟨by decide +kernel, rfl⟩
theorem D64_86 : rDec M64 86 (.aload_n 0) 1 87 := ⟨by decide +kernel, rfl⟩
theorem D64_87 : rDec M64 87 (.getfield 22) 3 90 := ⟨by decide +kernel, rfl⟩
theorem D64_90 : rDec M64 90 (.iload_n 2) 1 91 := ⟨by decide +kernel, rfl⟩
theorem D64_91 : rDec M64 91 (.invokevirtual 390) 3 94 := ⟨by decide +kernel, rfl⟩
theorem D64_94 : rDec M64 94 (.iconst 1) 1 95 := ⟨by decide +kernel, rfl⟩
theorem D64_95 : rDec M64 95 (.ireturn) 1 96 := ⟨by decide +kernel, rfl⟩
theorem D64_96 : rDec M64 96 (.aload_n 0) 1 97 := ⟨by decide +kernel, rfl⟩
theorem D64_97 : rDec M64 97 (.getfield 22) 3 100 := ⟨by decide +kernel, rfl⟩
theorem D64_100 : rDec M64 100 (.invokevirtual 80) 3 103 := ⟨by decide +kernel, rfl⟩
theorem D64_103 : rDec M64 103 (.iconst 1) 1 104 := ⟨by decide +kernel, rfl⟩
theorem D64_104 : rDec M64 104 (.ireturn) 1 105 := ⟨by decide +kernel, rfl⟩
theorem D64_105 : rDec M64 105 (.aload_n 0) 1 106 := ⟨by decide +kernel, rfl⟩
theorem D64_106 : rDec M64 106 (.getfield 33) 3 109 := ⟨by decide +kernel, rfl⟩
theorem D64_109 : rDec M64 109 (.aload_n 0) 1 110 := ⟨by decide +kernel, rfl⟩
theorem D64_110 : rDec M64 110 (.getfield 11) 3 113 := ⟨by decide +kernel, rfl⟩
theorem D64_113 : rDec M64 113 (.iload_n 2) 1 114 := ⟨by decide +kernel, rfl⟩
theorem D64_114 : rDec M64 114 (.aaload) 1 115 := ⟨by decide +kernel, rfl⟩
theorem D64_115 : rDec M64 115 (.aload_n 0) 1 116 := ⟨by decide +kernel, rfl⟩
theorem D64_116 : rDec M64 116 (.getfield 11) 3 119 := ⟨by decide +kernel, rfl⟩
theorem D64_119 : rDec M64 119 (.iload_n 3) 1 120 := ⟨by decide +kernel, rfl⟩
theorem D64_120 : rDec M64 120 (.aaload) 1 121 := ⟨by decide +kernel, rfl⟩
theorem D64_121 : rDec M64 121 (.aload_n 0) 1 122 := ⟨by decide +kernel, rfl⟩
theorem D64_122 : rDec M64 122 (.getfield 22) 3 125 := ⟨by decide +kernel, rfl⟩
theorem D64_125 : rDec M64 125 (.invokevirtual 394) 3 128 := ⟨by decide +kernel, rfl⟩
theorem D64_128 : rDec M64 128 (.ireturn) 1 129 := ⟨by decide +kernel, rfl⟩
theorem D64_129 : rDec M64 129 (.aload_n 0) 1 130 := ⟨by decide +kernel, rfl⟩
theorem D64_130 : rDec M64 130 (.getfield 33) 3 133 := ⟨by decide +kernel, rfl⟩
theorem D64_133 : rDec M64 133 (.aload_n 0) 1 134 := ⟨by decide +kernel, rfl⟩
theorem D64_134 : rDec M64 134 (.getfield 11) 3 137 := ⟨by decide +kernel, rfl⟩
theorem D64_137 : rDec M64 137 (.iload_n 2) 1 138 := ⟨by decide +kernel, rfl⟩
theorem D64_138 : rDec M64 138 (.aaload) 1 139 := ⟨by decide +kernel, rfl⟩
theorem D64_139 : rDec M64 139 (.aload_n 0) 1 140 := ⟨by decide +kernel, rfl⟩
theorem D64_140 : rDec M64 140 (.getfield 11) 3 143 := ⟨by decide +kernel, rfl⟩
theorem D64_143 : rDec M64 143 (.iload_n 3) 1 144 := ⟨by decide +kernel, rfl⟩
theorem D64_144 : rDec M64 144 (.aaload) 1 145 := ⟨by decide +kernel, rfl⟩
theorem D64_145 : rDec M64 145 (.iload_n 1) 1 146 := ⟨by decide +kernel, rfl⟩
theorem D64_146 : rDec M64 146 (.aload_n 0) 1 147 := ⟨by decide +kernel, rfl⟩
theorem D64_147 : rDec M64 147 (.getfield 22) 3 150 := ⟨by decide +kernel, rfl⟩
theorem D64_150 : rDec M64 150 (.invokevirtual 398) 3 153 := ⟨by decide +kernel, rfl⟩
theorem D64_153 : rDec M64 153 (.ireturn) 1 154 := ⟨by decide +kernel, rfl⟩
theorem D64_154 : rDec M64 154 (.aload_n 0) 1 155 := ⟨by decide +kernel, rfl⟩
theorem D64_155 : rDec M64 155 (.getfield 33) 3 158 := ⟨by decide +kernel, rfl⟩
theorem D64_158 : rDec M64 158 (.aload_n 0) 1 159 := ⟨by decide +kernel, rfl⟩
theorem D64_159 : rDec M64 159 (.getfield 11) 3 162 := ⟨by decide +kernel, rfl⟩
theorem D64_162 : rDec M64 162 (.iload_n 2) 1 163 := ⟨by decide +kernel, rfl⟩
theorem D64_163 : rDec M64 163 (.aaload) 1 164 := ⟨by decide +kernel, rfl⟩
theorem D64_164 : rDec M64 164 (.aload_n 0) 1 165 := ⟨by decide +kernel, rfl⟩
theorem D64_165 : rDec M64 165 (.getfield 22) 3 168 := ⟨by decide +kernel, rfl⟩
theorem D64_168 : rDec M64 168 (.invokevirtual 402) 3 171 := ⟨by decide +kernel, rfl⟩
theorem D64_171 : rDec M64 171 (.ireturn) 1 172 := ⟨by decide +kernel, rfl⟩
theorem D64_172 : rDec M64 172 (.aload_n 0) 1 173 := ⟨by decide +kernel, rfl⟩
theorem D64_173 : rDec M64 173 (.getfield 33) 3 176 := ⟨by decide +kernel, rfl⟩
theorem D64_176 : rDec M64 176 (.aload_n 0) 1 177 := ⟨by decide +kernel, rfl⟩
theorem D64_177 : rDec M64 177 (.getfield 11) 3 180 := ⟨by decide +kernel, rfl⟩
theorem D64_180 : rDec M64 180 (.iload_n 2) 1 181 := ⟨by decide +kernel, rfl⟩
theorem D64_181 : rDec M64 181 (.aaload) 1 182 := ⟨by decide +kernel, rfl⟩
theorem D64_182 : rDec M64 182 (.aload_n 0) 1 183 := ⟨by decide +kernel, rfl⟩
theorem D64_183 : rDec M64 183 (.getfield 22) 3 186 := ⟨by decide +kernel, rfl⟩
theorem D64_186 : rDec M64 186 (.invokevirtual 406) 3 189 := ⟨by decide +kernel, rfl⟩
theorem D64_189 : rDec M64 189 (.ireturn) 1 190 := ⟨by decide +kernel, rfl⟩
theorem D64_190 : rDec M64 190 (.aload_n 0) 1 191 := ⟨by decide +kernel, rfl⟩
theorem D64_191 : rDec M64 191 (.getfield 33) 3 194 := ⟨by decide +kernel, rfl⟩
theorem D64_194 : rDec M64 194 (.aload_n 0) 1 195 := ⟨by decide +kernel, rfl⟩
theorem D64_195 : rDec M64 195 (.getfield 11) 3 198 := ⟨by decide +kernel, rfl⟩
theorem D64_198 : rDec M64 198 (.iload_n 2) 1 199 := ⟨by decide +kernel, rfl⟩
theorem D64_199 : rDec M64 199 (.aaload) 1 200 := ⟨by decide +kernel, rfl⟩
theorem D64_200 : rDec M64 200 (.aload_n 0) 1 201 := ⟨by decide +kernel, rfl⟩
theorem D64_201 : rDec M64 201 (.getfield 22) 3 204 := ⟨by decide +kernel, rfl⟩
theorem D64_204 : rDec M64 204 (.invokevirtual 409) 3 207 := ⟨by decide +kernel, rfl⟩
theorem D64_207 : rDec M64 207 (.ireturn) 1 208 := ⟨by decide +kernel, rfl⟩
theorem P64_190 : rSnd lab M64 190 B64_190 := by
  refine s_Al gk0 (Or.inr ⟨0, D64_190, rfl⟩) ?_
  refine s_Gf (ci := 0) (r := ("WordWright", kT0, 13)) rfl (show 6 < 13 from by decide) rfl (Or.inl wd442) (Or.inl rfl) rfl D64_191 ?_
  refine s_Al gk0 (Or.inr ⟨0, D64_194, rfl⟩) ?_
  refine s_Gf (ci := 0) (r := ("WordWright", kT0, 13)) rfl (show 0 < 13 from by decide) rfl (Or.inl wd436) (Or.inl rfl) rfl D64_195 ?_
  refine s_Il gk2 (Or.inr ⟨2, D64_198, rfl⟩) ?_
  refine s_Aal D64_199 ?_
  refine s_Al gk0 (Or.inr ⟨0, D64_200, rfl⟩) ?_
  refine s_Gf (ci := 0) (r := ("WordWright", kT0, 13)) rfl (show 4 < 13 from by decide) rfl (Or.inl wd440) (Or.inl rfl) rfl D64_201 ?_
  refine s_Cv (ln := 3) (kd := 20) (C := "WordWright$Workshop") (by decide) (by decide +kernel) rfl (l_V rfl ok284 rfl wd1301 wd1302 wd1303 D64_204.1) (?_ : rSnd _ _ 207 _)
  exact s_Ri (Or.inr ⟨rfl, by decide⟩) D64_207.1
theorem P64_172 : rSnd lab M64 172 B64_172 := by
  refine s_Al gk0 (Or.inr ⟨0, D64_172, rfl⟩) ?_
  refine s_Gf (ci := 0) (r := ("WordWright", kT0, 13)) rfl (show 6 < 13 from by decide) rfl (Or.inl wd442) (Or.inl rfl) rfl D64_173 ?_
  refine s_Al gk0 (Or.inr ⟨0, D64_176, rfl⟩) ?_
  refine s_Gf (ci := 0) (r := ("WordWright", kT0, 13)) rfl (show 0 < 13 from by decide) rfl (Or.inl wd436) (Or.inl rfl) rfl D64_177 ?_
  refine s_Il gk2 (Or.inr ⟨2, D64_180, rfl⟩) ?_
  refine s_Aal D64_181 ?_
  refine s_Al gk0 (Or.inr ⟨0, D64_182, rfl⟩) ?_
  refine s_Gf (ci := 0) (r := ("WordWright", kT0, 13)) rfl (show 4 < 13 from by decide) rfl (Or.inl wd440) (Or.inl rfl) rfl D64_183 ?_
  refine s_Cv (ln := 3) (kd := 20) (C := "WordWright$Workshop") (by decide) (by decide +kernel) rfl (l_V rfl ok289 rfl wd1296 wd1297 wd1298 D64_186.1) (?_ : rSnd _ _ 189 _)
  exact s_Ri (Or.inr ⟨rfl, by decide⟩) D64_189.1
theorem P64_154 : rSnd lab M64 154 B64_154 := by
  refine s_Al gk0 (Or.inr ⟨0, D64_154, rfl⟩) ?_
  refine s_Gf (ci := 0) (r := ("WordWright", kT0, 13)) rfl (show 6 < 13 from by decide) rfl (Or.inl wd442) (Or.inl rfl) rfl D64_155 ?_
  refine s_Al gk0 (Or.inr ⟨0, D64_158, rfl⟩) ?_
  refine s_Gf (ci := 0) (r := ("WordWright", kT0, 13)) rfl (show 0 < 13 from by decide) rfl (Or.inl wd436) (Or.inl rfl) rfl D64_159 ?_
  refine s_Il gk2 (Or.inr ⟨2, D64_162, rfl⟩) ?_
  refine s_Aal D64_163 ?_
  refine s_Al gk0 (Or.inr ⟨0, D64_164, rfl⟩) ?_
  refine s_Gf (ci := 0) (r := ("WordWright", kT0, 13)) rfl (show 4 < 13 from by decide) rfl (Or.inl wd440) (Or.inl rfl) rfl D64_165 ?_
  refine s_Cv (ln := 3) (kd := 20) (C := "WordWright$Workshop") (by decide) (by decide +kernel) rfl (l_V rfl ok288 rfl wd1292 wd1293 wd1294 D64_168.1) (?_ : rSnd _ _ 171 _)
  exact s_Ri (Or.inr ⟨rfl, by decide⟩) D64_171.1
theorem P64_129 : rSnd lab M64 129 B64_129 := by
  refine s_Al gk0 (Or.inr ⟨0, D64_129, rfl⟩) ?_
  refine s_Gf (ci := 0) (r := ("WordWright", kT0, 13)) rfl (show 6 < 13 from by decide) rfl (Or.inl wd442) (Or.inl rfl) rfl D64_130 ?_
  refine s_Al gk0 (Or.inr ⟨0, D64_133, rfl⟩) ?_
  refine s_Gf (ci := 0) (r := ("WordWright", kT0, 13)) rfl (show 0 < 13 from by decide) rfl (Or.inl wd436) (Or.inl rfl) rfl D64_134 ?_
  refine s_Il gk2 (Or.inr ⟨2, D64_137, rfl⟩) ?_
  refine s_Aal D64_138 ?_
  refine s_Al gk0 (Or.inr ⟨0, D64_139, rfl⟩) ?_
  refine s_Gf (ci := 0) (r := ("WordWright", kT0, 13)) rfl (show 0 < 13 from by decide) rfl (Or.inl wd436) (Or.inl rfl) rfl D64_140 ?_
  refine s_Il gk3 (Or.inr ⟨3, D64_143, rfl⟩) ?_
  refine s_Aal D64_144 ?_
  refine s_Il gk1 (Or.inr ⟨1, D64_145, rfl⟩) ?_
  refine s_Al gk0 (Or.inr ⟨0, D64_146, rfl⟩) ?_
  refine s_Gf (ci := 0) (r := ("WordWright", kT0, 13)) rfl (show 4 < 13 from by decide) rfl (Or.inl wd440) (Or.inl rfl) rfl D64_147 ?_
  refine s_Cv (ln := 3) (kd := 20) (C := "WordWright$Workshop") (by decide) (by decide +kernel) rfl (l_V rfl ok283 rfl wd1291 wd632 wd633 D64_150.1) (?_ : rSnd _ _ 153 _)
  exact s_Ri (Or.inr ⟨rfl, by decide⟩) D64_153.1
theorem P64_105 : rSnd lab M64 105 B64_105 := by
  refine s_Al gk0 (Or.inr ⟨0, D64_105, rfl⟩) ?_
  refine s_Gf (ci := 0) (r := ("WordWright", kT0, 13)) rfl (show 6 < 13 from by decide) rfl (Or.inl wd442) (Or.inl rfl) rfl D64_106 ?_
  refine s_Al gk0 (Or.inr ⟨0, D64_109, rfl⟩) ?_
  refine s_Gf (ci := 0) (r := ("WordWright", kT0, 13)) rfl (show 0 < 13 from by decide) rfl (Or.inl wd436) (Or.inl rfl) rfl D64_110 ?_
  refine s_Il gk2 (Or.inr ⟨2, D64_113, rfl⟩) ?_
  refine s_Aal D64_114 ?_
  refine s_Al gk0 (Or.inr ⟨0, D64_115, rfl⟩) ?_
  refine s_Gf (ci := 0) (r := ("WordWright", kT0, 13)) rfl (show 0 < 13 from by decide) rfl (Or.inl wd436) (Or.inl rfl) rfl D64_116 ?_
  refine s_Il gk3 (Or.inr ⟨3, D64_119, rfl⟩) ?_
  refine s_Aal D64_120 ?_
  refine s_Al gk0 (Or.inr ⟨0, D64_121, rfl⟩) ?_
  refine s_Gf (ci := 0) (r := ("WordWright", kT0, 13)) rfl (show 4 < 13 from by decide) rfl (Or.inl wd440) (Or.inl rfl) rfl D64_122 ?_
  refine s_Cv (ln := 3) (kd := 20) (C := "WordWright$Workshop") (by decide) (by decide +kernel) rfl (l_V rfl ok287 rfl wd1290 wd693 wd694 D64_125.1) (?_ : rSnd _ _ 128 _)
  exact s_Ri (Or.inr ⟨rfl, by decide⟩) D64_128.1
theorem P64_96 : rSnd lab M64 96 B64_96 := by
  refine s_Al gk0 (Or.inr ⟨0, D64_96, rfl⟩) ?_
  refine s_Gf (ci := 0) (r := ("WordWright", kT0, 13)) rfl (show 4 < 13 from by decide) rfl (Or.inl wd440) (Or.inl rfl) rfl D64_97 ?_
  refine s_Cv (ln := 3) (kd := 8) (C := "WordWright$Language") (by decide) (by decide +kernel) rfl (l_V rfl ok234 rfl wd427 wd428 wd429 D64_100.1) (?_ : rSnd _ _ 103 _)
  refine s_ic D64_103 kc_i_1 (by decide) ?_
  exact s_Ri (Or.inr ⟨rfl, by decide⟩) D64_104.1
theorem P64_86 : rSnd lab M64 86 B64_86 := by
  refine s_Al gk0 (Or.inr ⟨0, D64_86, rfl⟩) ?_
  refine s_Gf (ci := 0) (r := ("WordWright", kT0, 13)) rfl (show 4 < 13 from by decide) rfl (Or.inl wd440) (Or.inl rfl) rfl D64_87 ?_
  refine s_Il gk2 (Or.inr ⟨2, D64_90, rfl⟩) ?_
  refine s_Cv (ln := 3) (kd := 8) (C := "WordWright$Language") (by decide) (by decide +kernel) rfl (l_V rfl ok236 rfl wd1286 wd1287 wd1288 D64_91.1) (?_ : rSnd _ _ 94 _)
  refine s_ic D64_94 kc_i_1 (by decide) ?_
  exact s_Ri (Or.inr ⟨rfl, by decide⟩) D64_95.1
theorem P64_77 : rSnd lab M64 77 B64_77 := by
  refine s_Al gk0 (Or.inr ⟨0, D64_77, rfl⟩) ?_
  refine s_Gf (ci := 0) (r := ("WordWright", kT0, 13)) rfl (show 4 < 13 from by decide) rfl (Or.inl wd440) (Or.inl rfl) rfl D64_78 ?_
  refine s_Cv (ln := 3) (kd := 8) (C := "WordWright$Language") (by decide) (by decide +kernel) rfl (l_V rfl ok235 rfl wd1285 wd615 wd616 D64_81.1) (?_ : rSnd _ _ 84 _)
  refine s_ic D64_84 kc_i_1 (by decide) ?_
  exact s_Ri (Or.inr ⟨rfl, by decide⟩) D64_85.1
theorem P64_68 : rSnd lab M64 68 B64_68 := by
  refine s_Al gk0 (Or.inr ⟨0, D64_68, rfl⟩) ?_
  refine s_Gf (ci := 0) (r := ("WordWright", kT0, 13)) rfl (show 4 < 13 from by decide) rfl (Or.inl wd440) (Or.inl rfl) rfl D64_69 ?_
  refine s_Cv (ln := 3) (kd := 8) (C := "WordWright$Language") (by decide) (by decide +kernel) rfl (l_V rfl ok237 rfl wd1284 wd432 wd433 D64_72.1) (?_ : rSnd _ _ 75 _)
  refine s_ic D64_75 kc_i_1 (by decide) ?_
  exact s_Ri (Or.inr ⟨rfl, by decide⟩) D64_76.1
theorem P64_0 : rSnd lab M64 0 B64_0 := by
  refine s_Ent ?_
  refine s_Il gk1 (Or.inr ⟨1, D64_0, rfl⟩) ?_
  exact s_Tsw (tgd := 256) D64_1.1 rfl (by decide) (by decide) ⟨⟨68, by decide, P64_68⟩, ⟨77, by decide, P64_77⟩, ⟨86, by decide, P64_86⟩, ⟨96, by decide, P64_96⟩, ⟨105, by decide, P64_105⟩, ⟨129, by decide, P64_129⟩, ⟨129, by decide, P64_129⟩, ⟨129, by decide, P64_129⟩, ⟨154, by decide, P64_154⟩, ⟨172, by decide, P64_172⟩, ⟨190, by decide, P64_190⟩, ⟨208, by decide, rSnd_none⟩, ⟨232, by decide, rSnd_none⟩, trivial⟩ (by decide) rSnd_none
theorem D65_0 : rDec M65 0 (.iload_n 1) 1 1 := ⟨by decide +kernel, rfl⟩
theorem D65_1 : rDec M65 1 (.tableswitch 182 0 13 #[71, 71, 85, 71, 102, 102, 102, 102, 124, 124, 124, 142, 142, 164]) 71 72 := ⟨by decide +kernel, rfl⟩
theorem D65_72 : rDec M65 72 (.iload_n 2) 1 73 := ⟨by decide +kernel, rfl⟩
theorem D65_73 : rDec M65 73 (.ifCond .ne 11) 3 76 := ⟨by decide +kernel, rfl⟩
theorem D65_76 : rDec M65 76 (.iload_n 3) 1 77 := ⟨by decide +kernel, rfl⟩
theorem D65_77 : rDec M65 77 (.ifCond .ne 7) 3 80 := ⟨by decide +kernel, rfl⟩
theorem D65_80 : rDec M65 80 (.iconst 1) 1 81 := ⟨by decide +kernel, rfl⟩
theorem D65_81 : rDec M65 81 (.goto 4) 3 84 := ⟨by decide +kernel, rfl⟩
theorem D65_84 : rDec M65 84 (.iconst 0) 1 85 := ⟨by decide +kernel, rfl⟩
theorem D65_85 : rDec M65 85 (.ireturn) 1 86 := ⟨by decide +kernel, rfl⟩
theorem D65_86 : rDec M65 86 (.iload_n 2) 1 87 := ⟨by decide +kernel, rfl⟩
theorem D65_87 : rDec M65 87 (.invokestatic 134) 3 90 := ⟨by decide +kernel, rfl⟩
theorem D65_90 : rDec M65 90 (.ifCond .eq 11) 3 93 := ⟨by decide +kernel, rfl⟩
theorem D65_93 : rDec M65 93 (.iload_n 3) 1 94 := ⟨by decide +kernel, rfl⟩
theorem D65_94 : rDec M65 94 (.ifCond .ne 7) 3 97 := ⟨by decide +kernel, rfl⟩
theorem D65_97 : rDec M65 97 (.iconst 1) 1 98 := ⟨by decide +kernel, rfl⟩
theorem D65_98 : rDec M65 98 (.goto 4) 3 101 := ⟨by decide +kernel, rfl⟩
theorem D65_101 : rDec M65 101 (.iconst 0) 1 102 := ⟨by decide +kernel, rfl⟩
theorem D65_102 : rDec M65 102 (.ireturn) 1 103 := ⟨by decide +kernel, rfl⟩
theorem D65_103 : rDec M65 103 (.aload_n 0) 1 104 := ⟨by decide +kernel, rfl⟩
theorem D65_104 : rDec M65 104 (.iload_n 2) 1 105 := ⟨by decide +kernel, rfl⟩
theorem D65_105 : rDec M65 105 (.invokevirtual 116) 3 108 := ⟨by decide +kernel, rfl⟩
theorem D65_108 : rDec M65 108 (.ifCond .eq 15) 3 111 := ⟨by decide +kernel, rfl⟩
theorem D65_111 : rDec M65 111 (.aload_n 0) 1 112 := ⟨by decide +kernel, rfl⟩
theorem D65_112 : rDec M65 112 (.iload_n 3) 1 113 := ⟨by decide +kernel, rfl⟩
theorem D65_113 : rDec M65 113 (.invokevirtual 116) 3 116 := ⟨by decide +kernel, rfl⟩
theorem D65_116 : rDec M65 116 (.ifCond .eq 7) 3 119 := ⟨by decide +kernel, rfl⟩
theorem D65_119 : rDec M65 119 (.iconst 1) 1 120 := ⟨by decide +kernel, rfl⟩
theorem D65_120 : rDec M65 120 (.goto 4) 3 123 := ⟨by decide +kernel, rfl⟩
theorem D65_123 : rDec M65 123 (.iconst 0) 1 124 := ⟨by decide +kernel, rfl⟩
theorem D65_124 : rDec M65 124 (.ireturn) 1 125 := ⟨by decide +kernel, rfl⟩
theorem D65_125 : rDec M65 125 (.aload_n 0) 1 126 := ⟨by decide +kernel, rfl⟩
theorem D65_126 : rDec M65 126 (.iload_n 2) 1 127 := ⟨by decide +kernel, rfl⟩
theorem D65_127 : rDec M65 127 (.invokevirtual 116) 3 130 := ⟨by decide +kernel, rfl⟩
theorem D65_130 : rDec M65 130 (.ifCond .eq 11) 3 133 := ⟨by decide +kernel, rfl⟩
theorem D65_133 : rDec M65 133 (.iload_n 3) 1 134 := ⟨by decide +kernel, rfl⟩
theorem D65_134 : rDec M65 134 (.ifCond .ne 7) 3 137 := ⟨by decide +kernel, rfl⟩
theorem D65_137 : rDec M65 137 (.iconst 1) 1 138 := ⟨by decide +kernel, rfl⟩
theorem D65_138 : rDec M65 138 (.goto 4) 3 141 := ⟨by decide +kernel, rfl⟩
theorem D65_141 : rDec M65 141 (.iconst 0) 1 142 := ⟨by decide +kernel, rfl⟩
theorem D65_142 : rDec M65 142 (.ireturn) 1 143 := ⟨by decide +kernel, rfl⟩
theorem D65_143 : rDec M65 143 (.aload_n 0) 1 144 := ⟨by decide +kernel, rfl⟩
theorem D65_144 : rDec M65 144 (.iload_n 2) 1 145 := ⟨by decide +kernel, rfl⟩
theorem D65_145 : rDec M65 145 (.invokevirtual 171) 3 148 := ⟨by decide +kernel, rfl⟩
theorem D65_148 : rDec M65 148 (.ifCond .eq 15) 3 151 := ⟨by decide +kernel, rfl⟩
theorem D65_163 : rDec M65 163 (.iconst 0) 1 164 := ⟨by decide +kernel, rfl⟩
theorem D65_164 : rDec M65 164 (.ireturn) 1 165 := ⟨by decide +kernel, rfl⟩
theorem D65_165 : rDec M65 165 (.aload_n 0) 1 166 := ⟨by decide +kernel, rfl⟩
theorem D65_166 : rDec M65 166 (.iload_n 2) 1 167 := ⟨by decide +kernel, rfl⟩
theorem D65_167 : rDec M65 167 (.invokevirtual 171) 3 170 := ⟨by decide +kernel, rfl⟩
theorem D65_170 : rDec M65 170 (.ifCond .eq 11) 3 173 := ⟨by decide +kernel, rfl⟩
theorem D65_181 : rDec M65 181 (.iconst 0) 1 182 := ⟨by decide +kernel, rfl⟩
theorem D65_182 : rDec M65 182 (.ireturn) 1 183 := ⟨by decide +kernel, rfl⟩
theorem D65_183 : rDec M65 183 (.iconst 0) 1 184 := ⟨by decide +kernel, rfl⟩
theorem D65_184 : rDec M65 184 (.ireturn) 1 185 := ⟨by decide +kernel, rfl⟩
theorem P65_183 : rSnd lab M65 183 B65_183 := by
  refine s_ic D65_183 kc_i_0 (by decide) ?_
  exact s_Ri (Or.inr ⟨rfl, by decide⟩) D65_184.1
theorem P65_181 : rSnd lab M65 181 B65_181 := by
  refine s_ic D65_181 kc_i_0 (by decide) ?_
  exact s_Ri (Or.inr ⟨rfl, by decide⟩) D65_182.1
theorem P65_165 : rSnd lab M65 165 B65_165 := by
  refine s_Al gk0 (Or.inr ⟨0, D65_165, rfl⟩) ?_
  refine s_Il gk2 (Or.inr ⟨2, D65_166, rfl⟩) ?_
  refine s_Cv (ln := 3) (kd := 2) (C := "WordWright") (by decide) (by decide +kernel) rfl (l_V rfl ok76 rfl wd1273 wd1275 ws53 D65_167.1) (?_ : rSnd _ _ 170 _)
  refine s_If c_eq (fun _ => rfl) (fun _ _ => rfl) (b_eq (tg := 181) (by decide)) D65_170.1 P65_181 (?_ : rSnd _ _ 173 _)
  exact rSnd_none
theorem P65_163 : rSnd lab M65 163 B65_163 := by
  refine s_ic D65_163 kc_i_0 (by decide) ?_
  exact s_Ri (Or.inr ⟨rfl, by decide⟩) D65_164.1
theorem P65_143 : rSnd lab M65 143 B65_143 := by
  refine s_Al gk0 (Or.inr ⟨0, D65_143, rfl⟩) ?_
  refine s_Il gk2 (Or.inr ⟨2, D65_144, rfl⟩) ?_
  refine s_Cv (ln := 3) (kd := 2) (C := "WordWright") (by decide) (by decide +kernel) rfl (l_V rfl ok76 rfl wd1273 wd1275 ws53 D65_145.1) (?_ : rSnd _ _ 148 _)
  refine s_If c_eq (fun _ => rfl) (fun _ _ => rfl) (b_eq (tg := 163) (by decide)) D65_148.1 P65_163 (?_ : rSnd _ _ 151 _)
  exact rSnd_none
theorem P65_142 : rSnd lab M65 142 B65_142 := by
  exact s_Ri (Or.inr ⟨rfl, by decide⟩) D65_142.1
theorem P65_141 : rSnd lab M65 141 B65_141 := by
  refine s_ic D65_141 kc_i_0 (by decide) ?_
  exact P65_142
theorem P65_125 : rSnd lab M65 125 B65_125 := by
  refine s_Al gk0 (Or.inr ⟨0, D65_125, rfl⟩) ?_
  refine s_Il gk2 (Or.inr ⟨2, D65_126, rfl⟩) ?_
  refine s_Cv (ln := 3) (kd := 2) (C := "WordWright") (by decide) (by decide +kernel) rfl (l_V rfl ok74 rfl wd1269 wd1271 ws52 D65_127.1) (?_ : rSnd _ _ 130 _)
  refine s_If c_eq (fun _ => rfl) (fun _ _ => rfl) (b_eq (tg := 141) (by decide)) D65_130.1 P65_141 (?_ : rSnd _ _ 133 _)
  refine s_Il gk3 (Or.inr ⟨3, D65_133, rfl⟩) ?_
  refine s_If c_ne (fun _ => rfl) (fun _ _ => rfl) (b_ne (tg := 141) (by decide)) D65_134.1 P65_141 (?_ : rSnd _ _ 137 _)
  refine s_ic D65_137 kc_i_1 (by decide) ?_
  exact s_Go (pc' := 142) D65_138.1 (by decide) P65_142
theorem P65_124 : rSnd lab M65 124 B65_124 := by
  exact s_Ri (Or.inr ⟨rfl, by decide⟩) D65_124.1
theorem P65_123 : rSnd lab M65 123 B65_123 := by
  refine s_ic D65_123 kc_i_0 (by decide) ?_
  exact P65_124
theorem P65_103 : rSnd lab M65 103 B65_103 := by
  refine s_Al gk0 (Or.inr ⟨0, D65_103, rfl⟩) ?_
  refine s_Il gk2 (Or.inr ⟨2, D65_104, rfl⟩) ?_
  refine s_Cv (ln := 3) (kd := 2) (C := "WordWright") (by decide) (by decide +kernel) rfl (l_V rfl ok74 rfl wd1269 wd1271 ws52 D65_105.1) (?_ : rSnd _ _ 108 _)
  refine s_If c_eq (fun _ => rfl) (fun _ _ => rfl) (b_eq (tg := 123) (by decide)) D65_108.1 P65_123 (?_ : rSnd _ _ 111 _)
  refine s_Al gk0 (Or.inr ⟨0, D65_111, rfl⟩) ?_
  refine s_Il gk3 (Or.inr ⟨3, D65_112, rfl⟩) ?_
  refine s_Cv (ln := 3) (kd := 2) (C := "WordWright") (by decide) (by decide +kernel) rfl (l_V rfl ok74 rfl wd1269 wd1271 ws52 D65_113.1) (?_ : rSnd _ _ 116 _)
  refine s_If c_eq (fun _ => rfl) (fun _ _ => rfl) (b_eq (tg := 123) (by decide)) D65_116.1 P65_123 (?_ : rSnd _ _ 119 _)
  refine s_ic D65_119 kc_i_1 (by decide) ?_
  exact s_Go (pc' := 124) D65_120.1 (by decide) P65_124
theorem P65_102 : rSnd lab M65 102 B65_102 := by
  exact s_Ri (Or.inr ⟨rfl, by decide⟩) D65_102.1
theorem P65_101 : rSnd lab M65 101 B65_101 := by
  refine s_ic D65_101 kc_i_0 (by decide) ?_
  exact P65_102
theorem P65_86 : rSnd lab M65 86 B65_86 := by
  refine s_Il gk2 (Or.inr ⟨2, D65_86, rfl⟩) ?_
  refine s_Cs (id := 88) rfl (l_S rfl ok75 rfl wd1266 wd1267 D65_87.1) (?_ : rSnd _ _ 90 _)
  refine s_If c_eq (fun _ => rfl) (fun _ _ => rfl) (b_eq (tg := 101) (by decide)) D65_90.1 P65_101 (?_ : rSnd _ _ 93 _)
  refine s_Il gk3 (Or.inr ⟨3, D65_93, rfl⟩) ?_
  refine s_If c_ne (fun _ => rfl) (fun _ _ => rfl) (b_ne (tg := 101) (by decide)) D65_94.1 P65_101 (?_ : rSnd _ _ 97 _)
  refine s_ic D65_97 kc_i_1 (by decide) ?_
  exact s_Go (pc' := 102) D65_98.1 (by decide) P65_102
theorem P65_85 : rSnd lab M65 85 B65_85 := by
  exact s_Ri (Or.inr ⟨rfl, by decide⟩) D65_85.1
theorem P65_84 : rSnd lab M65 84 B65_84 := by
  refine s_ic D65_84 kc_i_0 (by decide) ?_
  exact P65_85
theorem P65_72 : rSnd lab M65 72 B65_72 := by
  refine s_Il gk2 (Or.inr ⟨2, D65_72, rfl⟩) ?_
  refine s_If c_ne (fun _ => rfl) (fun _ _ => rfl) (b_ne (tg := 84) (by decide)) D65_73.1 P65_84 (?_ : rSnd _ _ 76 _)
  refine s_Il gk3 (Or.inr ⟨3, D65_76, rfl⟩) ?_
  refine s_If c_ne (fun _ => rfl) (fun _ _ => rfl) (b_ne (tg := 84) (by decide)) D65_77.1 P65_84 (?_ : rSnd _ _ 80 _)
  refine s_ic D65_80 kc_i_1 (by decide) ?_
  exact s_Go (pc' := 85) D65_81.1 (by decide) P65_85
theorem P65_0 : rSnd lab M65 0 B65_0 := by
  refine s_Ent ?_
  refine s_Il gk1 (Or.inr ⟨1, D65_0, rfl⟩) ?_
  exact s_Tsw (tgd := 183) D65_1.1 rfl (by decide) (by decide) ⟨⟨72, by decide, P65_72⟩, ⟨72, by decide, P65_72⟩, ⟨86, by decide, P65_86⟩, ⟨72, by decide, P65_72⟩, ⟨103, by decide, P65_103⟩, ⟨103, by decide, P65_103⟩, ⟨103, by decide, P65_103⟩, ⟨103, by decide, P65_103⟩, ⟨125, by decide, P65_125⟩, ⟨125, by decide, P65_125⟩, ⟨125, by decide, P65_125⟩, ⟨143, by decide, P65_143⟩, ⟨143, by decide, P65_143⟩, ⟨165, by decide, P65_165⟩, trivial⟩ (by decide) P65_183
theorem D66_0 : rDec M66 0 (.aload_n 0) 1 1 := ⟨by decide +kernel, rfl⟩
theorem D66_1 : rDec M66 1 (.getfield 75) 3 4 := ⟨by decide +kernel, rfl⟩
theorem D66_4 : rDec M66 4 (.getfield 320) 3 7 := ⟨by decide +kernel, rfl⟩
theorem D66_7 : rDec M66 7 (.istore_n 1) 1 8 := ⟨by decide +kernel, rfl⟩
theorem D66_8 : rDec M66 8 (.aload_n 0) 1 9 := ⟨by decide +kernel, rfl⟩
theorem D66_9 : rDec M66 9 (.getfield 75) 3 12 := ⟨by decide +kernel, rfl⟩
theorem D66_12 : rDec M66 12 (.iconst 0) 1 13 := ⟨by decide +kernel, rfl⟩
theorem D66_13 : rDec M66 13 (.putfield 320) 3 16 := ⟨by decide +kernel, rfl⟩
theorem D66_16 : rDec M66 16 (.aload_n 0) 1 17 := ⟨by decide +kernel, rfl⟩
theorem D66_17 : rDec M66 17 (.getfield 75) 3 20 := ⟨by decide +kernel, rfl⟩
theorem D66_20 : rDec M66 20 (.invokevirtual 190) 3 23 := ⟨by decide +kernel, rfl⟩
theorem D66_23 : rDec M66 23 (.iload_n 1) 1 24 := ⟨by decide +kernel, rfl⟩
theorem D66_24 : rDec M66 24 (.ireturn) 1 25 := ⟨by decide +kernel, rfl⟩
theorem P66_0 : rSnd lab M66 0 B66_0 := by
  refine s_Ent ?_
  refine s_Al gk0 (Or.inr ⟨0, D66_0, rfl⟩) ?_
  refine s_Gf (ci := 0) (r := ("WordWright", kT0, 13)) rfl (show 12 < 13 from by decide) rfl (Or.inl wd448) (Or.inl rfl) rfl D66_1 ?_
  refine s_Gf (ci := 5) (r := ("WordWright$Program", kT5, 12)) rfl (show 0 < 12 from by decide) rfl (Or.inl wd383) (Or.inl rfl) rfl D66_4 ?_
  refine s_Is sk1 (show 1 < 2 from by decide) (Or.inr ⟨1, D66_7, rfl⟩) ?_
  refine s_Al gk0 (Or.inr ⟨0, D66_8, rfl⟩) ?_
  refine s_Gf (ci := 0) (r := ("WordWright", kT0, 13)) rfl (show 12 < 13 from by decide) rfl (Or.inl wd448) (Or.inl rfl) rfl D66_9 ?_
  refine s_ic D66_12 kc_i_0 (by decide) ?_
  refine s_Pf (ci := 5) (r := ("WordWright$Program", kT5, 12)) rfl (show 0 < 12 from by decide) rfl (Or.inl ⟨rfl, Or.inl wd383⟩) (Or.inl rfl) rfl (by decide) D66_13 ?_
  refine s_Al gk0 (Or.inr ⟨0, D66_16, rfl⟩) ?_
  refine s_Gf (ci := 0) (r := ("WordWright", kT0, 13)) rfl (show 12 < 13 from by decide) rfl (Or.inl wd448) (Or.inl rfl) rfl D66_17 ?_
  refine s_Cv (ln := 3) (kd := 12) (C := "WordWright$Program") (by decide) (by decide +kernel) rfl (l_V rfl ok255 rfl wd594 wd595 wd596 D66_20.1) (?_ : rSnd _ _ 23 _)
  refine s_Il gk1 (Or.inr ⟨1, D66_23, rfl⟩) ?_
  exact s_Ri (Or.inl rfl) D66_24.1
theorem D67_0 : rDec M67 0 (.aload_n 0) 1 1 := ⟨by decide +kernel, rfl⟩
theorem D67_1 : rDec M67 1 (.getfield 75) 3 4 := ⟨by decide +kernel, rfl⟩
theorem D67_4 : rDec M67 4 (.aload_n 0) 1 5 := ⟨by decide +kernel, rfl⟩
theorem D67_5 : rDec M67 5 (.getfield 11) 3 8 := ⟨by decide +kernel, rfl⟩
theorem D67_8 : rDec M67 8 (.aload_n 0) 1 9 := ⟨by decide +kernel, rfl⟩
theorem D67_9 : rDec M67 9 (.getfield 17) 3 12 := ⟨by decide +kernel, rfl⟩
theorem D67_12 : rDec M67 12 (.aload_n 0) 1 13 := ⟨by decide +kernel, rfl⟩
theorem D67_13 : rDec M67 13 (.getfield 33) 3 16 := ⟨by decide +kernel, rfl⟩
theorem D67_16 : rDec M67 16 (.invokevirtual 333) 3 19 := ⟨by decide +kernel, rfl⟩
theorem D67_19 : rDec M67 19 (.aload_n 0) 1 20 := ⟨by decide +kernel, rfl⟩
theorem D67_20 : rDec M67 20 (.invokevirtual 262) 3 23 := ⟨by decide +kernel, rfl⟩
theorem D67_23 : rDec M67 23 (.ldc2_w 360) 3 26 := ⟨by decide +kernel, rfl⟩
theorem D67_26 : rDec M67 26 (.lstore_n 1) 1 27 := ⟨by decide +kernel, rfl⟩
theorem D67_27 : rDec M67 27 (.iconst 0) 1 28 := ⟨by decide +kernel, rfl⟩
theorem D67_28 : rDec M67 28 (.istore_n 3) 1 29 := ⟨by decide +kernel, rfl⟩
theorem D67_29 : rDec M67 29 (.iload_n 3) 1 30 := ⟨by decide +kernel, rfl⟩
theorem D67_30 : rDec M67 30 (.bipush 9) 2 32 := ⟨by decide +kernel, rfl⟩
theorem D67_32 : rDec M67 32 (.if_icmp .gt 22) 3 35 := ⟨by decide +kernel, rfl⟩
theorem D67_35 : rDec M67 35 (.lload_n 1) 1 36 := ⟨by decide +kernel, rfl⟩
theorem D67_36 : rDec M67 36 (.ldc2_w 362) 3 39 := ⟨by decide +kernel, rfl⟩
theorem D67_39 : rDec M67 39 (.lmul) 1 40 := ⟨by decide +kernel, rfl⟩
theorem D67_40 : rDec M67 40 (.aload_n 0) 1 41 := ⟨by decide +kernel, rfl⟩
theorem D67_41 : rDec M67 41 (.iload_n 3) 1 42 := ⟨by decide +kernel, rfl⟩
theorem D67_42 : rDec M67 42 (.invokevirtual 347) 3 45 := ⟨by decide +kernel, rfl⟩
theorem D67_45 : rDec M67 45 (.i2l) 1 46 := ⟨by decide +kernel, rfl⟩
theorem D67_46 : rDec M67 46 (.ladd) 1 47 := ⟨by decide +kernel, rfl⟩
theorem D67_47 : rDec M67 47 (.lstore_n 1) 1 48 := ⟨by decide +kernel, rfl⟩
theorem D67_48 : rDec M67 48 (.iinc 3 1) 3 51 := ⟨by decide +kernel, rfl⟩
theorem D67_51 : rDec M67 51 (.goto (-22)) 3 54 := ⟨by decide +kernel, rfl⟩
theorem D67_54 : rDec M67 54 (.aload_n 0) 1 55 := ⟨by decide +kernel, rfl⟩
theorem D67_55 : rDec M67 55 (.lload_n 1) 1 56 := ⟨by decide +kernel, rfl⟩
theorem D67_56 : rDec M67 56 (.invokevirtual 364) 3 59 := ⟨by decide +kernel, rfl⟩
theorem D67_59 : rDec M67 59 (.lstore_n 1) 1 60 := ⟨by decide +kernel, rfl⟩
theorem D67_60 : rDec M67 60 (.aload_n 0) 1 61 := ⟨by decide +kernel, rfl⟩
theorem D67_61 : rDec M67 61 (.lload_n 1) 1 62 := ⟨by decide +kernel, rfl⟩
theorem D67_62 : rDec M67 62 (.invokevirtual 368) 3 65 := ⟨by decide +kernel, rfl⟩
theorem D67_65 : rDec M67 65 (.lstore_n 1) 1 66 := ⟨by decide +kernel, rfl⟩
theorem D67_66 : rDec M67 66 (.iconst 0) 1 67 := ⟨by decide +kernel, rfl⟩
theorem D67_67 : rDec M67 67 (.istore_n 3) 1 68 := ⟨by decide +kernel, rfl⟩
theorem D67_68 : rDec M67 68 (.iload_n 3) 1 69 := ⟨by decide +kernel, rfl⟩
theorem D67_69 : rDec M67 69 (.iconst 4) 1 70 := ⟨by decide +kernel, rfl⟩
theorem D67_70 : rDec M67 70 (.if_icmp .ge 26) 3 73 := ⟨by decide +kernel, rfl⟩
theorem D67_73 : rDec M67 73 (.lload_n 1) 1 74 := ⟨by decide +kernel, rfl⟩
theorem D67_74 : rDec M67 74 (.ldc2_w 362) 3 77 := ⟨by decide +kernel, rfl⟩
theorem D67_77 : rDec M67 77 (.lmul) 1 78 := ⟨by decide +kernel, rfl⟩
theorem D67_78 : rDec M67 78 (.aload_n 0) 1 79 := ⟨by decide +kernel, rfl⟩
theorem D67_79 : rDec M67 79 (.getfield 54) 3 82 := ⟨by decide +kernel, rfl⟩
theorem D67_82 : rDec M67 82 (.getfield 265) 3 85 := ⟨by decide +kernel, rfl⟩
theorem D67_85 : rDec M67 85 (.iload_n 3) 1 86 := ⟨by decide +kernel, rfl⟩
theorem D67_86 : rDec M67 86 (.iaload) 1 87 := ⟨by decide +kernel, rfl⟩
theorem D67_87 : rDec M67 87 (.i2l) 1 88 := ⟨by decide +kernel, rfl⟩
theorem D67_88 : rDec M67 88 (.ladd) 1 89 := ⟨by decide +kernel, rfl⟩
theorem D67_89 : rDec M67 89 (.lstore_n 1) 1 90 := ⟨by decide +kernel, rfl⟩
theorem D67_90 : rDec M67 90 (.iinc 3 1) 3 93 := ⟨by decide +kernel, rfl⟩
theorem D67_93 : rDec M67 93 (.goto (-25)) 3 96 := ⟨by decide +kernel, rfl⟩
theorem D67_96 : rDec M67 96 (.iconst 0) 1 97 := ⟨by decide +kernel, rfl⟩
theorem D67_97 : rDec M67 97 (.istore_n 3) 1 98 := ⟨by decide +kernel, rfl⟩
theorem D67_98 : rDec M67 98 (.iload_n 3) 1 99 := ⟨by decide +kernel, rfl⟩
theorem D67_99 : rDec M67 99 (.aload_n 0) 1 100 := ⟨by decide +kernel, rfl⟩
theorem D67_100 : rDec M67 100 (.getfield 68) 3 103 := ⟨by decide +kernel, rfl⟩
theorem D67_103 : rDec M67 103 (.getfield 271) 3 106 := ⟨by decide +kernel, rfl⟩
theorem D67_106 : rDec M67 106 (.if_icmp .ge 16) 3 109 := ⟨by decide +kernel, rfl⟩
theorem D67_122 : rDec M67 122 (.aload_n 0) 1 123 := ⟨by decide +kernel, rfl⟩
theorem D67_123 : rDec M67 123 (.lload_n 1) 1 124 := ⟨by decide +kernel, rfl⟩
theorem D67_124 : rDec M67 124 (.invokevirtual 375) 3 127 := ⟨by decide +kernel, rfl⟩
theorem D67_127 : rDec M67 127 (.lstore_n 1) 1 128 := ⟨by decide +kernel, rfl⟩
theorem D67_128 : rDec M67 128 (.iconst 0) 1 129 := ⟨by decide +kernel, rfl⟩
theorem D67_129 : rDec M67 129 (.istore_n 3) 1 130 := ⟨by decide +kernel, rfl⟩
theorem D67_130 : rDec M67 130 (.iload_n 3) 1 131 := ⟨by decide +kernel, rfl⟩
theorem D67_131 : rDec M67 131 (.aload_n 0) 1 132 := ⟨by decide +kernel, rfl⟩
theorem D67_132 : rDec M67 132 (.getfield 75) 3 135 := ⟨by decide +kernel, rfl⟩
theorem D67_135 : rDec M67 135 (.getfield 320) 3 138 := ⟨by decide +kernel, rfl⟩
theorem D67_138 : rDec M67 138 (.if_icmp .ge 22) 3 141 := ⟨by decide +kernel, rfl⟩
theorem D67_160 : rDec M67 160 (.lload_n 1) 1 161 := ⟨by decide +kernel, rfl⟩
theorem D67_161 : rDec M67 161 (.lreturn) 1 162 := ⟨by decide +kernel, rfl⟩
theorem P67_160 : rSnd lab M67 160 B67_160 := by
  refine s_Ll gk1 (Or.inr ⟨1, D67_160, rfl⟩) ?_
  exact s_Rl rfl D67_161.1
theorem P67_122 : rSnd lab M67 122 B67_122 := by
  refine s_Al gk0 (Or.inr ⟨0, D67_122, rfl⟩) ?_
  refine s_Ll gk1 (Or.inr ⟨1, D67_123, rfl⟩) ?_
  refine s_Cv (ln := 3) (kd := 2) (C := "WordWright") (by decide) (by decide +kernel) rfl (l_V rfl ok93 rfl wd1244 wd1246 ws49 D67_124.1) (?_ : rSnd _ _ 127 _)
  refine s_Ls dk1 (show 2 < 4 from by decide) (Or.inr ⟨1, D67_127, rfl⟩) ?_
  refine s_ic D67_128 kc_i_0 (by decide) ?_
  refine s_Is sk3 (show 3 < 4 from by decide) (Or.inr ⟨3, D67_129, rfl⟩) ?_
  refine s_Il gk3 (Or.inr ⟨3, D67_130, rfl⟩) ?_
  refine s_Al gk0 (Or.inr ⟨0, D67_131, rfl⟩) ?_
  refine s_Gf (ci := 0) (r := ("WordWright", kT0, 13)) rfl (show 12 < 13 from by decide) rfl (Or.inl wd448) (Or.inl rfl) rfl D67_132 ?_
  refine s_Gf (ci := 5) (r := ("WordWright$Program", kT5, 12)) rfl (show 0 < 12 from by decide) rfl (Or.inl wd383) (Or.inl rfl) rfl D67_135 ?_
  refine s_Ic c_ge (i_ge (tg := 160) (by decide)) D67_138.1 P67_160 (?_ : rSnd _ _ 141 _)
  exact rSnd_none
theorem P67_96 : rSnd lab M67 96 B67_96 := by
  refine s_ic D67_96 kc_i_0 (by decide) ?_
  refine s_Is sk3 (show 3 < 4 from by decide) (Or.inr ⟨3, D67_97, rfl⟩) ?_
  refine s_Il gk3 (Or.inr ⟨3, D67_98, rfl⟩) ?_
  refine s_Al gk0 (Or.inr ⟨0, D67_99, rfl⟩) ?_
  refine s_Gf (ci := 0) (r := ("WordWright", kT0, 13)) rfl (show 11 < 13 from by decide) rfl (Or.inl wd447) (Or.inl rfl) rfl D67_100 ?_
  refine s_Gf (ci := 6) (r := ("WordWright$Schemas", kT6, 8)) rfl (show 0 < 8 from by decide) rfl (Or.inl wd346) (Or.inl rfl) rfl D67_103 ?_
  refine s_Ic c_ge (i_ge (tg := 122) (by decide)) D67_106.1 P67_122 (?_ : rSnd _ _ 109 _)
  exact rSnd_none
theorem P67_68 : rSnd lab M67 68 B67_68 := by
  refine s_Il gk3 (Or.inr ⟨3, D67_68, rfl⟩) ?_
  refine s_ic D67_69 kc_i_4 (by decide) ?_
  refine s_Ic c_ge (i_ge (tg := 96) (by decide)) D67_70.1 P67_96 (?_ : rSnd _ _ 73 _)
  refine s_Ll gk1 (Or.inr ⟨1, D67_73, rfl⟩) ?_
  refine s_ld2 rfl wd721 D67_74 kc_J_31 (by decide) ?_
  refine s_BinL q_lmul nl_mul D67_77 ?_
  refine s_Al gk0 (Or.inr ⟨0, D67_78, rfl⟩) ?_
  refine s_Gf (ci := 0) (r := ("WordWright", kT0, 13)) rfl (show 9 < 13 from by decide) rfl (Or.inl wd445) (Or.inl rfl) rfl D67_79 ?_
  refine s_Gf (ci := 2) (r := ("WordWright$Equations", kT2, 8)) rfl (show 7 < 8 from by decide) rfl (Or.inl wd277) (Or.inl rfl) rfl D67_82 ?_
  refine s_Il gk3 (Or.inr ⟨3, D67_85, rfl⟩) ?_
  refine s_Ial D67_86 ?_
  refine s_I2l D67_87 ?_
  refine s_BinL q_ladd nl_add D67_88 ?_
  refine s_Ls dk1 (show 2 < 4 from by decide) (Or.inr ⟨1, D67_89, rfl⟩) ?_
  refine s_Inc gk3 sk3 (show 3 < 4 from by decide) kc_i_1 D67_90 ?_
  exact s_Go (pc' := 68) D67_93.1 (by decide) (s_Jb rfl)
theorem P67_54 : rSnd lab M67 54 B67_54 := by
  refine s_Al gk0 (Or.inr ⟨0, D67_54, rfl⟩) ?_
  refine s_Ll gk1 (Or.inr ⟨1, D67_55, rfl⟩) ?_
  refine s_Cv (ln := 3) (kd := 2) (C := "WordWright") (by decide) (by decide +kernel) rfl (l_V rfl ok91 rfl wd768 wd770 ws33 D67_56.1) (?_ : rSnd _ _ 59 _)
  refine s_Ls dk1 (show 2 < 4 from by decide) (Or.inr ⟨1, D67_59, rfl⟩) ?_
  refine s_Al gk0 (Or.inr ⟨0, D67_60, rfl⟩) ?_
  refine s_Ll gk1 (Or.inr ⟨1, D67_61, rfl⟩) ?_
  refine s_Cv (ln := 3) (kd := 2) (C := "WordWright") (by decide) (by decide +kernel) rfl (l_V rfl ok92 rfl wd810 wd812 ws35 D67_62.1) (?_ : rSnd _ _ 65 _)
  refine s_Ls dk1 (show 2 < 4 from by decide) (Or.inr ⟨1, D67_65, rfl⟩) ?_
  refine s_ic D67_66 kc_i_0 (by decide) ?_
  refine s_Is sk3 (show 3 < 4 from by decide) (Or.inr ⟨3, D67_67, rfl⟩) ?_
  exact P67_68
theorem P67_29 : rSnd lab M67 29 B67_29 := by
  refine s_Il gk3 (Or.inr ⟨3, D67_29, rfl⟩) ?_
  refine s_bi D67_30 kc_b_9 (by decide) ?_
  refine s_Ic c_gt (i_gt (tg := 54) (by decide)) D67_32.1 P67_54 (?_ : rSnd _ _ 35 _)
  refine s_Ll gk1 (Or.inr ⟨1, D67_35, rfl⟩) ?_
  refine s_ld2 rfl wd721 D67_36 kc_J_31 (by decide) ?_
  refine s_BinL q_lmul nl_mul D67_39 ?_
  refine s_Al gk0 (Or.inr ⟨0, D67_40, rfl⟩) ?_
  refine s_Il gk3 (Or.inr ⟨3, D67_41, rfl⟩) ?_
  refine s_Cv (ln := 3) (kd := 2) (C := "WordWright") (by decide) (by decide +kernel) rfl (l_V rfl ok56 rfl wd722 wd724 ws26 D67_42.1) (?_ : rSnd _ _ 45 _)
  refine s_I2l D67_45 ?_
  refine s_BinL q_ladd nl_add D67_46 ?_
  refine s_Ls dk1 (show 2 < 4 from by decide) (Or.inr ⟨1, D67_47, rfl⟩) ?_
  refine s_Inc gk3 sk3 (show 3 < 4 from by decide) kc_i_1 D67_48 ?_
  exact s_Go (pc' := 29) D67_51.1 (by decide) (s_Jb rfl)
theorem P67_0 : rSnd lab M67 0 B67_0 := by
  refine s_Ent ?_
  refine s_Al gk0 (Or.inr ⟨0, D67_0, rfl⟩) ?_
  refine s_Gf (ci := 0) (r := ("WordWright", kT0, 13)) rfl (show 12 < 13 from by decide) rfl (Or.inl wd448) (Or.inl rfl) rfl D67_1 ?_
  refine s_Al gk0 (Or.inr ⟨0, D67_4, rfl⟩) ?_
  refine s_Gf (ci := 0) (r := ("WordWright", kT0, 13)) rfl (show 0 < 13 from by decide) rfl (Or.inl wd436) (Or.inl rfl) rfl D67_5 ?_
  refine s_Al gk0 (Or.inr ⟨0, D67_8, rfl⟩) ?_
  refine s_Gf (ci := 0) (r := ("WordWright", kT0, 13)) rfl (show 2 < 13 from by decide) rfl (Or.inl wd438) (Or.inl rfl) rfl D67_9 ?_
  refine s_Al gk0 (Or.inr ⟨0, D67_12, rfl⟩) ?_
  refine s_Gf (ci := 0) (r := ("WordWright", kT0, 13)) rfl (show 6 < 13 from by decide) rfl (Or.inl wd442) (Or.inl rfl) rfl D67_13 ?_
  refine s_Cv (ln := 3) (kd := 12) (C := "WordWright$Program") (by decide) (by decide +kernel) rfl (l_V rfl ok257 rfl wd606 wd607 wd608 D67_16.1) (?_ : rSnd _ _ 19 _)
  refine s_Al gk0 (Or.inr ⟨0, D67_19, rfl⟩) ?_
  refine s_Cv (ln := 3) (kd := 2) (C := "WordWright") (by decide) (by decide +kernel) rfl (l_V rfl ok102 rfl wd480 wd482 ws0 D67_20.1) (?_ : rSnd _ _ 23 _)
  refine s_ld2 rfl wd720 D67_23 kc_J_58152 (by decide) ?_
  refine s_Ls dk1 (show 2 < 4 from by decide) (Or.inr ⟨1, D67_26, rfl⟩) ?_
  refine s_ic D67_27 kc_i_0 (by decide) ?_
  refine s_Is sk3 (show 3 < 4 from by decide) (Or.inr ⟨3, D67_28, rfl⟩) ?_
  exact P67_29
theorem D68_0 : rDec M68 0 (.iload_n 1) 1 1 := ⟨by decide +kernel, rfl⟩
theorem D68_1 : rDec M68 1 (.invokestatic 225) 3 4 := ⟨by decide +kernel, rfl⟩
theorem D68_4 : rDec M68 4 (.ifCond .ne 13) 3 7 := ⟨by decide +kernel, rfl⟩
theorem D68_7 : rDec M68 7 (.new 120) 3 10 := ⟨by decide +kernel, rfl⟩
theorem D68_10 : rDec M68 10 (.dup) 1 11 := ⟨by decide +kernel, rfl⟩
theorem D68_11 : rDec M68 11 (.ldc 228) 2 13 := ⟨by decide +kernel, rfl⟩
theorem D68_13 : rDec M68 13 (.invokespecial 124) 3 16 := ⟨by decide +kernel, rfl⟩
theorem D68_16 : rDec M68 16 (.athrow) 1 17 := ⟨by decide +kernel, rfl⟩
theorem D68_17 : rDec M68 17 (.aload_n 0) 1 18 := ⟨by decide +kernel, rfl⟩
theorem D68_18 : rDec M68 18 (.iload_n 2) 1 19 := ⟨by decide +kernel, rfl⟩
theorem D68_19 : rDec M68 19 (.invokevirtual 116) 3 22 := ⟨by decide +kernel, rfl⟩
theorem D68_22 : rDec M68 22 (.ifCond .eq 12) 3 25 := ⟨by decide +kernel, rfl⟩
theorem D68_25 : rDec M68 25 (.iload_n 3) 1 26 := ⟨by decide +kernel, rfl⟩
theorem D68_26 : rDec M68 26 (.ifCond .lt 8) 3 29 := ⟨by decide +kernel, rfl⟩
theorem D68_29 : rDec M68 29 (.iload_n 3) 1 30 := ⟨by decide +kernel, rfl⟩
theorem D68_30 : rDec M68 30 (.iconst 2) 1 31 := ⟨by decide +kernel, rfl⟩
theorem D68_31 : rDec M68 31 (.if_icmp .le 13) 3 34 := ⟨by decide +kernel, rfl⟩
theorem D68_34 : rDec M68 34 (.new 91) 3 37 := ⟨by decide +kernel, rfl⟩
theorem D68_37 : rDec M68 37 (.dup) 1 38 := ⟨by decide +kernel, rfl⟩
theorem D68_38 : rDec M68 38 (.ldc 230) 2 40 := ⟨by decide +kernel, rfl⟩
theorem D68_40 : rDec M68 40 (.invokespecial 95) 3 43 := ⟨by decide +kernel, rfl⟩
theorem D68_43 : rDec M68 43 (.athrow) 1 44 := ⟨by decide +kernel, rfl⟩
theorem D68_44 : rDec M68 44 (.aload_n 0) 1 45 := ⟨by decide +kernel, rfl⟩
theorem D68_45 : rDec M68 45 (.getfield 54) 3 48 := ⟨by decide +kernel, rfl⟩
theorem D68_48 : rDec M68 48 (.iload_n 1) 1 49 := ⟨by decide +kernel, rfl⟩
theorem D68_49 : rDec M68 49 (.iload_n 2) 1 50 := ⟨by decide +kernel, rfl⟩
theorem D68_50 : rDec M68 50 (.iload_n 3) 1 51 := ⟨by decide +kernel, rfl⟩
theorem D68_51 : rDec M68 51 (.invokevirtual 232) 3 54 := ⟨by decide +kernel, rfl⟩
theorem D68_54 : rDec M68 54 (.ireturn) 1 55 := ⟨by decide +kernel, rfl⟩
theorem P68_44 : rSnd lab M68 44 B68_44 := by
  refine s_Al gk0 (Or.inr ⟨0, D68_44, rfl⟩) ?_
  refine s_Gf (ci := 0) (r := ("WordWright", kT0, 13)) rfl (show 9 < 13 from by decide) rfl (Or.inl wd445) (Or.inl rfl) rfl D68_45 ?_
  refine s_Il gk1 (Or.inr ⟨1, D68_48, rfl⟩) ?_
  refine s_Il gk2 (Or.inr ⟨2, D68_49, rfl⟩) ?_
  refine s_Il gk3 (Or.inr ⟨3, D68_50, rfl⟩) ?_
  refine s_Cv (ln := 3) (kd := 6) (C := "WordWright$Equations") (by decide) (by decide +kernel) rfl (l_V rfl ok141 rfl wd1495 wd1496 wd1497 D68_51.1) (?_ : rSnd _ _ 54 _)
  exact s_Ri (Or.inl rfl) D68_54.1
theorem P68_34 : rSnd lab M68 34 B68_34 := by
  exact s_Thr (ik := 91) (is := 230) (ic := 95) (text := "no such LANGUAGE, or most is not 0 to 2") (names := ["java/lang/RuntimeException", "java/lang/Exception"]) false rfl rfl (by decide) (by decide +kernel) (by decide +kernel) (by decide) rfl wd1277 wd27 (List.mem_of_getElem? (i := 6) rfl) at_WordWright_95 at_WordWright_95g D68_34.1 D68_37.1 (Or.inl ⟨rfl, D68_38.1, D68_40.1, D68_43.1⟩)
theorem P68_17 : rSnd lab M68 17 B68_17 := by
  refine s_Al gk0 (Or.inr ⟨0, D68_17, rfl⟩) ?_
  refine s_Il gk2 (Or.inr ⟨2, D68_18, rfl⟩) ?_
  refine s_Cv (ln := 3) (kd := 2) (C := "WordWright") (by decide) (by decide +kernel) rfl (l_V rfl ok74 rfl wd1269 wd1271 ws52 D68_19.1) (?_ : rSnd _ _ 22 _)
  refine s_If c_eq (fun _ => rfl) (fun _ _ => rfl) (b_eq (tg := 34) (by decide)) D68_22.1 P68_34 (?_ : rSnd _ _ 25 _)
  refine s_Il gk3 (Or.inr ⟨3, D68_25, rfl⟩) ?_
  refine s_If c_lt (fun _ => rfl) (fun _ _ => rfl) (b_lt (tg := 34) (by decide)) D68_26.1 P68_34 (?_ : rSnd _ _ 29 _)
  refine s_Il gk3 (Or.inr ⟨3, D68_29, rfl⟩) ?_
  refine s_ic D68_30 kc_i_2 (by decide) ?_
  refine s_Ic c_le (i_le (tg := 44) (by decide)) D68_31.1 P68_44 (?_ : rSnd _ _ 34 _)
  exact P68_34
theorem P68_0 : rSnd lab M68 0 B68_0 := by
  refine s_Ent ?_
  refine s_Il gk1 (Or.inr ⟨1, D68_0, rfl⟩) ?_
  refine s_Cs (id := 93) rfl (l_S rfl ok80 rfl wd1490 wd1491 D68_1.1) (?_ : rSnd _ _ 4 _)
  refine s_If c_ne (fun _ => rfl) (fun _ _ => rfl) (b_ne (tg := 17) (by decide)) D68_4.1 P68_17 (?_ : rSnd _ _ 7 _)
  exact s_Thr (ik := 120) (is := 228) (ic := 124) (text := "no such VARIABLE") (names := ["java/lang/RuntimeException", "java/lang/Exception"]) false rfl rfl (by decide) (by decide +kernel) (by decide +kernel) (by decide) rfl wd1351 wd38 (List.mem_of_getElem? (i := 5) rfl) at_WordWright_124 at_WordWright_124g D68_7.1 D68_10.1 (Or.inl ⟨rfl, D68_11.1, D68_13.1, D68_16.1⟩)
theorem D69_0 : rDec M69 0 (.aload_n 0) 1 1 := ⟨by decide +kernel, rfl⟩
theorem D69_1 : rDec M69 1 (.getfield 54) 3 4 := ⟨by decide +kernel, rfl⟩
theorem D69_4 : rDec M69 4 (.getfield 236) 3 7 := ⟨by decide +kernel, rfl⟩
theorem D69_7 : rDec M69 7 (.iconst 4) 1 8 := ⟨by decide +kernel, rfl⟩
theorem D69_8 : rDec M69 8 (.if_icmp .lt 13) 3 11 := ⟨by decide +kernel, rfl⟩
theorem D69_21 : rDec M69 21 (.aload_n 0) 1 22 := ⟨by decide +kernel, rfl⟩
theorem D69_22 : rDec M69 22 (.getfield 54) 3 25 := ⟨by decide +kernel, rfl⟩
theorem D69_25 : rDec M69 25 (.invokevirtual 241) 3 28 := ⟨by decide +kernel, rfl⟩
theorem D69_28 : rDec M69 28 (.ireturn) 1 29 := ⟨by decide +kernel, rfl⟩
theorem P69_21 : rSnd lab M69 21 B69_21 := by
  refine s_Al gk0 (Or.inr ⟨0, D69_21, rfl⟩) ?_
  refine s_Gf (ci := 0) (r := ("WordWright", kT0, 13)) rfl (show 9 < 13 from by decide) rfl (Or.inl wd445) (Or.inl rfl) rfl D69_22 ?_
  refine s_Cv (ln := 3) (kd := 6) (C := "WordWright$Equations") (by decide) (by decide +kernel) rfl (l_V rfl ok137 rfl wd1507 wd1508 wd1509 D69_25.1) (?_ : rSnd _ _ 28 _)
  exact s_Ri (Or.inl rfl) D69_28.1
theorem P69_0 : rSnd lab M69 0 B69_0 := by
  refine s_Ent ?_
  refine s_Al gk0 (Or.inr ⟨0, D69_0, rfl⟩) ?_
  refine s_Gf (ci := 0) (r := ("WordWright", kT0, 13)) rfl (show 9 < 13 from by decide) rfl (Or.inl wd445) (Or.inl rfl) rfl D69_1 ?_
  refine s_Gf (ci := 2) (r := ("WordWright$Equations", kT2, 8)) rfl (show 2 < 8 from by decide) rfl (Or.inl wd266) (Or.inl rfl) rfl D69_4 ?_
  refine s_ic D69_7 kc_i_4 (by decide) ?_
  refine s_Ic c_lt (i_lt (tg := 21) (by decide)) D69_8.1 P69_21 (?_ : rSnd _ _ 11 _)
  exact rSnd_none
theorem D70_0 : rDec M70 0 (.aload_n 0) 1 1 := ⟨by decide +kernel, rfl⟩
theorem D70_1 : rDec M70 1 (.iload_n 1) 1 2 := ⟨by decide +kernel, rfl⟩
theorem D70_2 : rDec M70 2 (.invokevirtual 171) 3 5 := ⟨by decide +kernel, rfl⟩
theorem D70_5 : rDec M70 5 (.ifCond .ne 13) 3 8 := ⟨by decide +kernel, rfl⟩
theorem D70_8 : rDec M70 8 (.new 120) 3 11 := ⟨by decide +kernel, rfl⟩
theorem D70_11 : rDec M70 11 (.dup) 1 12 := ⟨by decide +kernel, rfl⟩
theorem D70_12 : rDec M70 12 (.ldc 174) 2 14 := ⟨by decide +kernel, rfl⟩
theorem D70_14 : rDec M70 14 (.invokespecial 124) 3 17 := ⟨by decide +kernel, rfl⟩
theorem D70_17 : rDec M70 17 (.athrow) 1 18 := ⟨by decide +kernel, rfl⟩
theorem P70_0 : rSnd lab M70 0 B70_0 := by
  refine s_Ent ?_
  refine s_Al gk0 (Or.inr ⟨0, D70_0, rfl⟩) ?_
  refine s_Il gk1 (Or.inr ⟨1, D70_1, rfl⟩) ?_
  refine s_Cv (ln := 3) (kd := 2) (C := "WordWright") (by decide) (by decide +kernel) rfl (l_V rfl ok76 rfl wd1273 wd1275 ws53 D70_2.1) (?_ : rSnd _ _ 5 _)
  refine s_If c_ne (fun _ => rfl) (fun _ _ => rfl) (b_ne (tg := 18) (by decide)) D70_5.1 rSnd_none (?_ : rSnd _ _ 8 _)
  exact s_Thr (ik := 120) (is := 174) (ic := 124) (text := "no such MACHINE") (names := ["java/lang/RuntimeException", "java/lang/Exception"]) false rfl rfl (by decide) (by decide +kernel) (by decide +kernel) (by decide) rfl wd1351 wd38 (List.mem_of_getElem? (i := 0) rfl) at_WordWright_124 at_WordWright_124g D70_8.1 D70_11.1 (Or.inl ⟨rfl, D70_12.1, D70_14.1, D70_17.1⟩)
theorem D71_0 : rDec M71 0 (.aload_n 0) 1 1 := ⟨by decide +kernel, rfl⟩
theorem D71_1 : rDec M71 1 (.iload_n 1) 1 2 := ⟨by decide +kernel, rfl⟩
theorem D71_2 : rDec M71 2 (.invokevirtual 116) 3 5 := ⟨by decide +kernel, rfl⟩
theorem D71_5 : rDec M71 5 (.ifCond .ne 13) 3 8 := ⟨by decide +kernel, rfl⟩
theorem D71_8 : rDec M71 8 (.new 120) 3 11 := ⟨by decide +kernel, rfl⟩
theorem D71_11 : rDec M71 11 (.dup) 1 12 := ⟨by decide +kernel, rfl⟩
theorem D71_12 : rDec M71 12 (.ldc 122) 2 14 := ⟨by decide +kernel, rfl⟩
theorem D71_14 : rDec M71 14 (.invokespecial 124) 3 17 := ⟨by decide +kernel, rfl⟩
theorem D71_17 : rDec M71 17 (.athrow) 1 18 := ⟨by decide +kernel, rfl⟩
theorem D71_18 : rDec M71 18 (.iload_n 2) 1 19 := ⟨by decide +kernel, rfl⟩
theorem D71_19 : rDec M71 19 (.invokestatic 143) 3 22 := ⟨by decide +kernel, rfl⟩
theorem D71_22 : rDec M71 22 (.ifCond .ne 13) 3 25 := ⟨by decide +kernel, rfl⟩
theorem D71_25 : rDec M71 25 (.new 91) 3 28 := ⟨by decide +kernel, rfl⟩
theorem D71_28 : rDec M71 28 (.dup) 1 29 := ⟨by decide +kernel, rfl⟩
theorem D71_29 : rDec M71 29 (.ldc 146) 2 31 := ⟨by decide +kernel, rfl⟩
theorem D71_31 : rDec M71 31 (.invokespecial 95) 3 34 := ⟨by decide +kernel, rfl⟩
theorem D71_34 : rDec M71 34 (.athrow) 1 35 := ⟨by decide +kernel, rfl⟩
theorem D71_35 : rDec M71 35 (.aload_n 0) 1 36 := ⟨by decide +kernel, rfl⟩
theorem D71_36 : rDec M71 36 (.getfield 11) 3 39 := ⟨by decide +kernel, rfl⟩
theorem D71_39 : rDec M71 39 (.iload_n 1) 1 40 := ⟨by decide +kernel, rfl⟩
theorem D71_40 : rDec M71 40 (.aaload) 1 41 := ⟨by decide +kernel, rfl⟩
theorem D71_41 : rDec M71 41 (.iload_n 2) 1 42 := ⟨by decide +kernel, rfl⟩
theorem D71_42 : rDec M71 42 (.invokevirtual 148) 3 45 := ⟨by decide +kernel, rfl⟩
theorem D71_45 : rDec M71 45 (.ireturn) 1 46 := ⟨by decide +kernel, rfl⟩
theorem P71_35 : rSnd lab M71 35 B71_35 := by
  refine s_Al gk0 (Or.inr ⟨0, D71_35, rfl⟩) ?_
  refine s_Gf (ci := 0) (r := ("WordWright", kT0, 13)) rfl (show 0 < 13 from by decide) rfl (Or.inl wd436) (Or.inl rfl) rfl D71_36 ?_
  refine s_Il gk1 (Or.inr ⟨1, D71_39, rfl⟩) ?_
  refine s_Aal D71_40 ?_
  refine s_Il gk2 (Or.inr ⟨2, D71_41, rfl⟩) ?_
  refine s_Cv (ln := 3) (kd := 8) (C := "WordWright$Language") (by decide) (by decide +kernel) rfl (l_V rfl ok238 rfl wd1386 wd494 wd495 D71_42.1) (?_ : rSnd _ _ 45 _)
  exact s_Ri (Or.inr ⟨rfl, by decide⟩) D71_45.1
theorem P71_18 : rSnd lab M71 18 B71_18 := by
  refine s_Il gk2 (Or.inr ⟨2, D71_18, rfl⟩) ?_
  refine s_Cs (id := 94) rfl (l_S rfl ok81 rfl wd1381 wd1382 D71_19.1) (?_ : rSnd _ _ 22 _)
  refine s_If c_ne (fun _ => rfl) (fun _ _ => rfl) (b_ne (tg := 35) (by decide)) D71_22.1 P71_35 (?_ : rSnd _ _ 25 _)
  exact s_Thr (ik := 91) (is := 146) (ic := 95) (text := "no WORD") (names := ["java/lang/RuntimeException", "java/lang/Exception"]) false rfl rfl (by decide) (by decide +kernel) (by decide +kernel) (by decide) rfl wd1277 wd27 (List.mem_of_getElem? (i := 7) rfl) at_WordWright_95 at_WordWright_95g D71_25.1 D71_28.1 (Or.inl ⟨rfl, D71_29.1, D71_31.1, D71_34.1⟩)
theorem P71_0 : rSnd lab M71 0 B71_0 := by
  refine s_Ent ?_
  refine s_Al gk0 (Or.inr ⟨0, D71_0, rfl⟩) ?_
  refine s_Il gk1 (Or.inr ⟨1, D71_1, rfl⟩) ?_
  refine s_Cv (ln := 3) (kd := 2) (C := "WordWright") (by decide) (by decide +kernel) rfl (l_V rfl ok74 rfl wd1269 wd1271 ws52 D71_2.1) (?_ : rSnd _ _ 5 _)
  refine s_If c_ne (fun _ => rfl) (fun _ _ => rfl) (b_ne (tg := 18) (by decide)) D71_5.1 P71_18 (?_ : rSnd _ _ 8 _)
  exact s_Thr (ik := 120) (is := 122) (ic := 124) (text := "no such LANGUAGE") (names := ["java/lang/RuntimeException", "java/lang/Exception"]) false rfl rfl (by decide) (by decide +kernel) (by decide +kernel) (by decide) rfl wd1351 wd38 (List.mem_of_getElem? (i := 3) rfl) at_WordWright_124 at_WordWright_124g D71_8.1 D71_11.1 (Or.inl ⟨rfl, D71_12.1, D71_14.1, D71_17.1⟩)
theorem D72_0 : rDec M72 0 (.aload_n 0) 1 1 := ⟨by decide +kernel, rfl⟩
theorem D72_1 : rDec M72 1 (.iload_n 1) 1 2 := ⟨by decide +kernel, rfl⟩
theorem D72_2 : rDec M72 2 (.invokevirtual 116) 3 5 := ⟨by decide +kernel, rfl⟩
theorem D72_5 : rDec M72 5 (.ifCond .ne 13) 3 8 := ⟨by decide +kernel, rfl⟩
theorem D72_8 : rDec M72 8 (.new 120) 3 11 := ⟨by decide +kernel, rfl⟩
theorem D72_11 : rDec M72 11 (.dup) 1 12 := ⟨by decide +kernel, rfl⟩
theorem D72_12 : rDec M72 12 (.ldc 122) 2 14 := ⟨by decide +kernel, rfl⟩
theorem D72_14 : rDec M72 14 (.invokespecial 124) 3 17 := ⟨by decide +kernel, rfl⟩
theorem D72_17 : rDec M72 17 (.athrow) 1 18 := ⟨by decide +kernel, rfl⟩
theorem D72_18 : rDec M72 18 (.iload_n 2) 1 19 := ⟨by decide +kernel, rfl⟩
theorem D72_19 : rDec M72 19 (.ifCond .lt 9) 3 22 := ⟨by decide +kernel, rfl⟩
theorem D72_22 : rDec M72 22 (.iload_n 2) 1 23 := ⟨by decide +kernel, rfl⟩
theorem D72_23 : rDec M72 23 (.bipush 12) 2 25 := ⟨by decide +kernel, rfl⟩
theorem D72_25 : rDec M72 25 (.if_icmp .le 13) 3 28 := ⟨by decide +kernel, rfl⟩
theorem D72_28 : rDec M72 28 (.new 91) 3 31 := ⟨by decide +kernel, rfl⟩
theorem D72_31 : rDec M72 31 (.dup) 1 32 := ⟨by decide +kernel, rfl⟩
theorem D72_32 : rDec M72 32 (.ldc 151) 2 34 := ⟨by decide +kernel, rfl⟩
theorem D72_34 : rDec M72 34 (.invokespecial 95) 3 37 := ⟨by decide +kernel, rfl⟩
theorem D72_37 : rDec M72 37 (.athrow) 1 38 := ⟨by decide +kernel, rfl⟩
theorem D72_38 : rDec M72 38 (.aload_n 0) 1 39 := ⟨by decide +kernel, rfl⟩
theorem D72_39 : rDec M72 39 (.getfield 11) 3 42 := ⟨by decide +kernel, rfl⟩
theorem D72_42 : rDec M72 42 (.iload_n 1) 1 43 := ⟨by decide +kernel, rfl⟩
theorem D72_43 : rDec M72 43 (.aaload) 1 44 := ⟨by decide +kernel, rfl⟩
theorem D72_44 : rDec M72 44 (.iload_n 2) 1 45 := ⟨by decide +kernel, rfl⟩
theorem D72_45 : rDec M72 45 (.aload_n 0) 1 46 := ⟨by decide +kernel, rfl⟩
theorem D72_46 : rDec M72 46 (.getfield 26) 3 49 := ⟨by decide +kernel, rfl⟩
theorem D72_49 : rDec M72 49 (.invokevirtual 153) 3 52 := ⟨by decide +kernel, rfl⟩
theorem D72_52 : rDec M72 52 (.ireturn) 1 53 := ⟨by decide +kernel, rfl⟩
theorem P72_38 : rSnd lab M72 38 B72_38 := by
  refine s_Al gk0 (Or.inr ⟨0, D72_38, rfl⟩) ?_
  refine s_Gf (ci := 0) (r := ("WordWright", kT0, 13)) rfl (show 0 < 13 from by decide) rfl (Or.inl wd436) (Or.inl rfl) rfl D72_39 ?_
  refine s_Il gk1 (Or.inr ⟨1, D72_42, rfl⟩) ?_
  refine s_Aal D72_43 ?_
  refine s_Il gk2 (Or.inr ⟨2, D72_44, rfl⟩) ?_
  refine s_Al gk0 (Or.inr ⟨0, D72_45, rfl⟩) ?_
  refine s_Gf (ci := 0) (r := ("WordWright", kT0, 13)) rfl (show 5 < 13 from by decide) rfl (Or.inl wd441) (Or.inl rfl) rfl D72_46 ?_
  refine s_Cv (ln := 3) (kd := 8) (C := "WordWright$Language") (by decide) (by decide +kernel) rfl (l_V rfl ok248 rfl wd806 wd807 wd808 D72_49.1) (?_ : rSnd _ _ 52 _)
  exact s_Ri (Or.inl rfl) D72_52.1
theorem P72_28 : rSnd lab M72 28 B72_28 := by
  exact s_Thr (ik := 91) (is := 151) (ic := 95) (text := "letters is not 0 to 12") (names := ["java/lang/RuntimeException", "java/lang/Exception"]) false rfl rfl (by decide) (by decide +kernel) (by decide +kernel) (by decide) rfl wd1277 wd27 (List.mem_of_getElem? (i := 8) rfl) at_WordWright_95 at_WordWright_95g D72_28.1 D72_31.1 (Or.inl ⟨rfl, D72_32.1, D72_34.1, D72_37.1⟩)
theorem P72_18 : rSnd lab M72 18 B72_18 := by
  refine s_Il gk2 (Or.inr ⟨2, D72_18, rfl⟩) ?_
  refine s_If c_lt (fun _ => rfl) (fun _ _ => rfl) (b_lt (tg := 28) (by decide)) D72_19.1 P72_28 (?_ : rSnd _ _ 22 _)
  refine s_Il gk2 (Or.inr ⟨2, D72_22, rfl⟩) ?_
  refine s_bi D72_23 kc_b_12 (by decide) ?_
  refine s_Ic c_le (i_le (tg := 38) (by decide)) D72_25.1 P72_38 (?_ : rSnd _ _ 28 _)
  exact P72_28
theorem P72_0 : rSnd lab M72 0 B72_0 := by
  refine s_Ent ?_
  refine s_Al gk0 (Or.inr ⟨0, D72_0, rfl⟩) ?_
  refine s_Il gk1 (Or.inr ⟨1, D72_1, rfl⟩) ?_
  refine s_Cv (ln := 3) (kd := 2) (C := "WordWright") (by decide) (by decide +kernel) rfl (l_V rfl ok74 rfl wd1269 wd1271 ws52 D72_2.1) (?_ : rSnd _ _ 5 _)
  refine s_If c_ne (fun _ => rfl) (fun _ _ => rfl) (b_ne (tg := 18) (by decide)) D72_5.1 P72_18 (?_ : rSnd _ _ 8 _)
  exact s_Thr (ik := 120) (is := 122) (ic := 124) (text := "no such LANGUAGE") (names := ["java/lang/RuntimeException", "java/lang/Exception"]) false rfl rfl (by decide) (by decide +kernel) (by decide +kernel) (by decide) rfl wd1351 wd38 (List.mem_of_getElem? (i := 3) rfl) at_WordWright_124 at_WordWright_124g D72_8.1 D72_11.1 (Or.inl ⟨rfl, D72_12.1, D72_14.1, D72_17.1⟩)
theorem D73_0 : rDec M73 0 (.aload_n 0) 1 1 := ⟨by decide +kernel, rfl⟩
theorem D73_1 : rDec M73 1 (.invokespecial 3) 3 4 := ⟨by decide +kernel, rfl⟩
theorem D73_4 : rDec M73 4 (.aload_n 0) 1 5 := ⟨by decide +kernel, rfl⟩
theorem D73_5 : rDec M73 5 (.bipush 40) 2 7 := ⟨by decide +kernel, rfl⟩
theorem D73_7 : rDec M73 7 (.anewarray 9) 3 10 := ⟨by decide +kernel, rfl⟩
theorem D73_10 : rDec M73 10 (.putfield 11) 3 13 := ⟨by decide +kernel, rfl⟩
theorem D73_13 : rDec M73 13 (.aload_n 0) 1 14 := ⟨by decide +kernel, rfl⟩
theorem D73_14 : rDec M73 14 (.bipush 6) 2 16 := ⟨by decide +kernel, rfl⟩
theorem D73_16 : rDec M73 16 (.anewarray 15) 3 19 := ⟨by decide +kernel, rfl⟩
theorem D73_19 : rDec M73 19 (.putfield 17) 3 22 := ⟨by decide +kernel, rfl⟩
theorem D73_22 : rDec M73 22 (.aload_n 0) 1 23 := ⟨by decide +kernel, rfl⟩
theorem D73_23 : rDec M73 23 (.new 9) 3 26 := ⟨by decide +kernel, rfl⟩
theorem D73_26 : rDec M73 26 (.dup) 1 27 := ⟨by decide +kernel, rfl⟩
theorem D73_27 : rDec M73 27 (.invokespecial 21) 3 30 := ⟨by decide +kernel, rfl⟩
theorem D73_30 : rDec M73 30 (.putfield 22) 3 33 := ⟨by decide +kernel, rfl⟩
theorem D73_33 : rDec M73 33 (.aload_n 0) 1 34 := ⟨by decide +kernel, rfl⟩
theorem D73_34 : rDec M73 34 (.bipush 20) 2 36 := ⟨by decide +kernel, rfl⟩
theorem D73_36 : rDec M73 36 (.newarray .int) 2 38 := ⟨by decide +kernel, rfl⟩
theorem D73_38 : rDec M73 38 (.putfield 26) 3 41 := ⟨by decide +kernel, rfl⟩
theorem D73_41 : rDec M73 41 (.aload_n 0) 1 42 := ⟨by decide +kernel, rfl⟩
theorem D73_42 : rDec M73 42 (.new 30) 3 45 := ⟨by decide +kernel, rfl⟩
theorem D73_45 : rDec M73 45 (.dup) 1 46 := ⟨by decide +kernel, rfl⟩
theorem D73_46 : rDec M73 46 (.invokespecial 32) 3 49 := ⟨by decide +kernel, rfl⟩
theorem D73_49 : rDec M73 49 (.putfield 33) 3 52 := ⟨by decide +kernel, rfl⟩
theorem D73_52 : rDec M73 52 (.aload_n 0) 1 53 := ⟨by decide +kernel, rfl⟩
theorem D73_53 : rDec M73 53 (.new 37) 3 56 := ⟨by decide +kernel, rfl⟩
theorem D73_56 : rDec M73 56 (.dup) 1 57 := ⟨by decide +kernel, rfl⟩
theorem D73_57 : rDec M73 57 (.invokespecial 39) 3 60 := ⟨by decide +kernel, rfl⟩
theorem D73_60 : rDec M73 60 (.putfield 40) 3 63 := ⟨by decide +kernel, rfl⟩
theorem D73_63 : rDec M73 63 (.aload_n 0) 1 64 := ⟨by decide +kernel, rfl⟩
theorem D73_64 : rDec M73 64 (.new 44) 3 67 := ⟨by decide +kernel, rfl⟩
theorem D73_67 : rDec M73 67 (.dup) 1 68 := ⟨by decide +kernel, rfl⟩
theorem D73_68 : rDec M73 68 (.invokespecial 46) 3 71 := ⟨by decide +kernel, rfl⟩
theorem D73_71 : rDec M73 71 (.putfield 47) 3 74 := ⟨by decide +kernel, rfl⟩
theorem D73_74 : rDec M73 74 (.aload_n 0) 1 75 := ⟨by decide +kernel, rfl⟩
theorem D73_75 : rDec M73 75 (.new 51) 3 78 := ⟨by decide +kernel, rfl⟩
theorem D73_78 : rDec M73 78 (.dup) 1 79 := ⟨by decide +kernel, rfl⟩
theorem D73_79 : rDec M73 79 (.invokespecial 53) 3 82 := ⟨by decide +kernel, rfl⟩
theorem D73_82 : rDec M73 82 (.putfield 54) 3 85 := ⟨by decide +kernel, rfl⟩
theorem D73_85 : rDec M73 85 (.aload_n 0) 1 86 := ⟨by decide +kernel, rfl⟩
theorem D73_86 : rDec M73 86 (.new 58) 3 89 := ⟨by decide +kernel, rfl⟩
theorem D73_89 : rDec M73 89 (.dup) 1 90 := ⟨by decide +kernel, rfl⟩
theorem D73_90 : rDec M73 90 (.invokespecial 60) 3 93 := ⟨by decide +kernel, rfl⟩
theorem D73_93 : rDec M73 93 (.putfield 61) 3 96 := ⟨by decide +kernel, rfl⟩
theorem D73_96 : rDec M73 96 (.aload_n 0) 1 97 := ⟨by decide +kernel, rfl⟩
theorem D73_97 : rDec M73 97 (.new 65) 3 100 := ⟨by decide +kernel, rfl⟩
theorem D73_100 : rDec M73 100 (.dup) 1 101 := ⟨by decide +kernel, rfl⟩
theorem D73_101 : rDec M73 101 (.invokespecial 67) 3 104 := ⟨by decide +kernel, rfl⟩
theorem D73_104 : rDec M73 104 (.putfield 68) 3 107 := ⟨by decide +kernel, rfl⟩
theorem D73_107 : rDec M73 107 (.aload_n 0) 1 108 := ⟨by decide +kernel, rfl⟩
theorem D73_108 : rDec M73 108 (.new 72) 3 111 := ⟨by decide +kernel, rfl⟩
theorem D73_111 : rDec M73 111 (.dup) 1 112 := ⟨by decide +kernel, rfl⟩
theorem D73_112 : rDec M73 112 (.invokespecial 74) 3 115 := ⟨by decide +kernel, rfl⟩
theorem D73_115 : rDec M73 115 (.putfield 75) 3 118 := ⟨by decide +kernel, rfl⟩
theorem D73_118 : rDec M73 118 (.iconst 0) 1 119 := ⟨by decide +kernel, rfl⟩
theorem D73_119 : rDec M73 119 (.istore_n 1) 1 120 := ⟨by decide +kernel, rfl⟩
theorem D73_120 : rDec M73 120 (.iload_n 1) 1 121 := ⟨by decide +kernel, rfl⟩
theorem D73_121 : rDec M73 121 (.bipush 40) 2 123 := ⟨by decide +kernel, rfl⟩
theorem D73_123 : rDec M73 123 (.if_icmp .ge 22) 3 126 := ⟨by decide +kernel, rfl⟩
theorem D73_126 : rDec M73 126 (.aload_n 0) 1 127 := ⟨by decide +kernel, rfl⟩
theorem D73_127 : rDec M73 127 (.getfield 11) 3 130 := ⟨by decide +kernel, rfl⟩
theorem D73_130 : rDec M73 130 (.iload_n 1) 1 131 := ⟨by decide +kernel, rfl⟩
theorem D73_131 : rDec M73 131 (.new 9) 3 134 := ⟨by decide +kernel, rfl⟩
theorem D73_134 : rDec M73 134 (.dup) 1 135 := ⟨by decide +kernel, rfl⟩
theorem D73_135 : rDec M73 135 (.invokespecial 21) 3 138 := ⟨by decide +kernel, rfl⟩
theorem D73_138 : rDec M73 138 (.aastore) 1 139 := ⟨by decide +kernel, rfl⟩
theorem D73_139 : rDec M73 139 (.iinc 1 1) 3 142 := ⟨by decide +kernel, rfl⟩
theorem D73_142 : rDec M73 142 (.goto (-22)) 3 145 := ⟨by decide +kernel, rfl⟩
theorem D73_145 : rDec M73 145 (.iconst 0) 1 146 := ⟨by decide +kernel, rfl⟩
theorem D73_146 : rDec M73 146 (.istore_n 1) 1 147 := ⟨by decide +kernel, rfl⟩
theorem D73_147 : rDec M73 147 (.iload_n 1) 1 148 := ⟨by decide +kernel, rfl⟩
theorem D73_148 : rDec M73 148 (.bipush 6) 2 150 := ⟨by decide +kernel, rfl⟩
theorem D73_150 : rDec M73 150 (.if_icmp .ge 22) 3 153 := ⟨by decide +kernel, rfl⟩
theorem D73_153 : rDec M73 153 (.aload_n 0) 1 154 := ⟨by decide +kernel, rfl⟩
theorem D73_154 : rDec M73 154 (.getfield 17) 3 157 := ⟨by decide +kernel, rfl⟩
theorem D73_157 : rDec M73 157 (.iload_n 1) 1 158 := ⟨by decide +kernel, rfl⟩
theorem D73_158 : rDec M73 158 (.new 15) 3 161 := ⟨by decide +kernel, rfl⟩
theorem D73_161 : rDec M73 161 (.dup) 1 162 := ⟨by decide +kernel, rfl⟩
theorem D73_162 : rDec M73 162 (.invokespecial 79) 3 165 := ⟨by decide +kernel, rfl⟩
theorem D73_165 : rDec M73 165 (.aastore) 1 166 := ⟨by decide +kernel, rfl⟩
theorem D73_166 : rDec M73 166 (.iinc 1 1) 3 169 := ⟨by decide +kernel, rfl⟩
theorem D73_169 : rDec M73 169 (.goto (-22)) 3 172 := ⟨by decide +kernel, rfl⟩
theorem D73_172 : rDec M73 172 (.aload_n 0) 1 173 := ⟨by decide +kernel, rfl⟩
theorem D73_173 : rDec M73 173 (.getfield 11) 3 176 := ⟨by decide +kernel, rfl⟩
theorem D73_176 : rDec M73 176 (.iconst 1) 1 177 := ⟨by decide +kernel, rfl⟩
theorem D73_177 : rDec M73 177 (.aaload) 1 178 := ⟨by decide +kernel, rfl⟩
theorem D73_178 : rDec M73 178 (.invokevirtual 80) 3 181 := ⟨by decide +kernel, rfl⟩
theorem D73_181 : rDec M73 181 (.aload_n 0) 1 182 := ⟨by decide +kernel, rfl⟩
theorem D73_182 : rDec M73 182 (.iconst 2) 1 183 := ⟨by decide +kernel, rfl⟩
theorem D73_183 : rDec M73 183 (.putfield 83) 3 186 := ⟨by decide +kernel, rfl⟩
theorem D73_186 : rDec M73 186 (.return_) 1 187 := ⟨by decide +kernel, rfl⟩
theorem P73_172 : rSnd lab M73 172 B73_172 := by
  refine s_Al gk0 (Or.inr ⟨0, D73_172, rfl⟩) ?_
  refine s_Gf (ci := 0) (r := ("WordWright", kT0, 13)) rfl (show 0 < 13 from by decide) rfl (Or.inl wd436) (Or.inl rfl) rfl D73_173 ?_
  refine s_ic D73_176 kc_i_1 (by decide) ?_
  refine s_Aal D73_177 ?_
  refine s_Cv (ln := 3) (kd := 8) (C := "WordWright$Language") (by decide) (by decide +kernel) rfl (l_V rfl ok234 rfl wd427 wd428 wd429 D73_178.1) (?_ : rSnd _ _ 181 _)
  refine s_Al gk0 (Or.inr ⟨0, D73_181, rfl⟩) ?_
  refine s_ic D73_182 kc_i_2 (by decide) ?_
  refine s_Pf (ci := 0) (r := ("WordWright", kT0, 13)) rfl (show 1 < 13 from by decide) rfl (Or.inl ⟨rfl, Or.inl wd437⟩) (Or.inl rfl) rfl (by decide) D73_183 ?_
  exact s_Rv rfl D73_186.1
theorem P73_147 : rSnd lab M73 147 B73_147 := by
  refine s_Il gk1 (Or.inr ⟨1, D73_147, rfl⟩) ?_
  refine s_bi D73_148 kc_b_6 (by decide) ?_
  refine s_Ic c_ge (i_ge (tg := 172) (by decide)) D73_150.1 P73_172 (?_ : rSnd _ _ 153 _)
  refine s_Al gk0 (Or.inr ⟨0, D73_153, rfl⟩) ?_
  refine s_Gf (ci := 0) (r := ("WordWright", kT0, 13)) rfl (show 2 < 13 from by decide) rfl (Or.inl wd438) (Or.inl rfl) rfl D73_154 ?_
  refine s_Il gk1 (Or.inr ⟨1, D73_157, rfl⟩) ?_
  refine s_New (ci := 4) (r := ("WordWright$Machine", kT4, 6)) rfl rfl wd66 wd159 wd6 kr4 D73_158 ?_
  refine s_Dup D73_161 ?_
  refine s_Ci (id := 343) rfl (l_IN (j := 5) rfl ok251 rfl rfl rfl rfl wd161 D73_162.1) (?_ : rSnd _ _ 165 _)
  refine s_Aas okAs_ok D73_165 ?_
  refine s_Inc gk1 sk1 (show 1 < 2 from by decide) kc_i_1 D73_166 ?_
  exact s_Go (pc' := 147) D73_169.1 (by decide) (s_Jb rfl)
theorem P73_145 : rSnd lab M73 145 B73_145 := by
  refine s_ic D73_145 kc_i_0 (by decide) ?_
  refine s_Is sk1 (show 1 < 2 from by decide) (Or.inr ⟨1, D73_146, rfl⟩) ?_
  exact P73_147
theorem P73_120 : rSnd lab M73 120 B73_120 := by
  refine s_Il gk1 (Or.inr ⟨1, D73_120, rfl⟩) ?_
  refine s_bi D73_121 kc_b_40 (by decide) ?_
  refine s_Ic c_ge (i_ge (tg := 145) (by decide)) D73_123.1 P73_145 (?_ : rSnd _ _ 126 _)
  refine s_Al gk0 (Or.inr ⟨0, D73_126, rfl⟩) ?_
  refine s_Gf (ci := 0) (r := ("WordWright", kT0, 13)) rfl (show 0 < 13 from by decide) rfl (Or.inl wd436) (Or.inl rfl) rfl D73_127 ?_
  refine s_Il gk1 (Or.inr ⟨1, D73_130, rfl⟩) ?_
  refine s_New (ci := 3) (r := ("WordWright$Language", kT3, 3)) rfl rfl wd64 wd68 wd2 kr3 D73_131 ?_
  refine s_Dup D73_134 ?_
  refine s_Ci (id := 323) rfl (l_IN (j := 0) rfl ok239 rfl rfl rfl rfl wd70 D73_135.1) (?_ : rSnd _ _ 138 _)
  refine s_Aas okAs_ok D73_138 ?_
  refine s_Inc gk1 sk1 (show 1 < 2 from by decide) kc_i_1 D73_139 ?_
  exact s_Go (pc' := 120) D73_142.1 (by decide) (s_Jb rfl)
theorem P73_0 : rSnd lab M73 0 B73_0 := by
  refine s_Ent ?_
  refine s_Al gk0 (Or.inr ⟨0, D73_0, rfl⟩) ?_
  refine s_Oi rfl wd61 wd62 wd63 D73_1 ?_
  refine s_Al gk0 (Or.inr ⟨0, D73_4, rfl⟩) ?_
  refine s_bi D73_5 kc_b_40 (by decide) ?_
  refine s_Nwa (t := 5) rfl (q_anew rfl) (fun ht hk => ⟨ht _ wd64, hk.ng 30 rfl⟩) D73_7 ?_
  refine s_Pf (ci := 0) (r := ("WordWright", kT0, 13)) rfl (show 0 < 13 from by decide) rfl (Or.inr ⟨rfl, wd436, rfl, rfl⟩) (Or.inl rfl) rfl (by decide) D73_10 ?_
  refine s_Al gk0 (Or.inr ⟨0, D73_13, rfl⟩) ?_
  refine s_bi D73_14 kc_b_6 (by decide) ?_
  refine s_Nwa (t := 6) rfl (q_anew rfl) (fun ht hk => ⟨ht _ wd66, hk.ng 31 rfl⟩) D73_16 ?_
  refine s_Pf (ci := 0) (r := ("WordWright", kT0, 13)) rfl (show 2 < 13 from by decide) rfl (Or.inr ⟨rfl, wd438, rfl, rfl⟩) (Or.inl rfl) rfl (by decide) D73_19 ?_
  refine s_Al gk0 (Or.inr ⟨0, D73_22, rfl⟩) ?_
  refine s_New (ci := 3) (r := ("WordWright$Language", kT3, 3)) rfl rfl wd64 wd68 wd2 kr3 D73_23 ?_
  refine s_Dup D73_26 ?_
  refine s_Ci (id := 323) rfl (l_IN (j := 0) rfl ok239 rfl rfl rfl rfl wd70 D73_27.1) (?_ : rSnd _ _ 30 _)
  refine s_Pf (ci := 0) (r := ("WordWright", kT0, 13)) rfl (show 4 < 13 from by decide) rfl (Or.inr ⟨rfl, wd440, rfl, rfl⟩) (Or.inl rfl) rfl (by decide) D73_30 ?_
  refine s_Al gk0 (Or.inr ⟨0, D73_33, rfl⟩) ?_
  refine s_bi D73_34 kc_b_20 (by decide) ?_
  refine s_Nwa (t := 0) rfl (q_newa (at_ := .int) (Or.inl rfl)) (fun ht _ => ht _ wd91) D73_36 ?_
  refine s_Pf (ci := 0) (r := ("WordWright", kT0, 13)) rfl (show 5 < 13 from by decide) rfl (Or.inr ⟨rfl, wd441, rfl, rfl⟩) (Or.inl rfl) rfl (by decide) D73_38 ?_
  refine s_Al gk0 (Or.inr ⟨0, D73_41, rfl⟩) ?_
  refine s_New (ci := 9) (r := ("WordWright$Workshop", kT9, 1)) rfl rfl wd92 wd93 wd3 kr9 D73_42 ?_
  refine s_Dup D73_45 ?_
  refine s_Ci (id := 410) rfl (l_IN (j := 1) rfl ok285 rfl rfl rfl rfl wd95 D73_46.1) (?_ : rSnd _ _ 49 _)
  refine s_Pf (ci := 0) (r := ("WordWright", kT0, 13)) rfl (show 6 < 13 from by decide) rfl (Or.inr ⟨rfl, wd442, rfl, rfl⟩) (Or.inl rfl) rfl (by decide) D73_49 ?_
  refine s_Al gk0 (Or.inr ⟨0, D73_52, rfl⟩) ?_
  refine s_New (ci := 7) (r := ("WordWright$Search", kT7, 7)) rfl rfl wd152 wd153 wd5 kr7 D73_53 ?_
  refine s_Dup D73_56 ?_
  refine s_Ci (id := 359) rfl (l_I rfl ok262 rfl rfl rfl wd154 wd155 D73_57.1) (?_ : rSnd _ _ 60 _)
  refine s_Pf (ci := 0) (r := ("WordWright", kT0, 13)) rfl (show 7 < 13 from by decide) rfl (Or.inr ⟨rfl, wd443, rfl, rfl⟩) (Or.inl rfl) rfl (by decide) D73_60 ?_
  refine s_Al gk0 (Or.inr ⟨0, D73_63, rfl⟩) ?_
  refine s_New (ci := 10) (r := ("WordWright$Writings", kT10, 1)) rfl rfl wd234 wd235 wd7 kr10 D73_64 ?_
  refine s_Dup D73_67 ?_
  refine s_Ci (id := 422) rfl (l_IN (j := 2) rfl ok291 rfl rfl rfl rfl wd237 D73_68.1) (?_ : rSnd _ _ 71 _)
  refine s_Pf (ci := 0) (r := ("WordWright", kT0, 13)) rfl (show 8 < 13 from by decide) rfl (Or.inr ⟨rfl, wd444, rfl, rfl⟩) (Or.inl rfl) rfl (by decide) D73_71 ?_
  refine s_Al gk0 (Or.inr ⟨0, D73_74, rfl⟩) ?_
  refine s_New (ci := 2) (r := ("WordWright$Equations", kT2, 8)) rfl rfl wd250 wd251 wd8 kr2 D73_75 ?_
  refine s_Dup D73_78 ?_
  refine s_Ci (id := 161) rfl (l_I rfl ok138 rfl rfl rfl wd252 wd253 D73_79.1) (?_ : rSnd _ _ 82 _)
  refine s_Pf (ci := 0) (r := ("WordWright", kT0, 13)) rfl (show 9 < 13 from by decide) rfl (Or.inr ⟨rfl, wd445, rfl, rfl⟩) (Or.inl rfl) rfl (by decide) D73_82 ?_
  refine s_Al gk0 (Or.inr ⟨0, D73_85, rfl⟩) ?_
  refine s_New (ci := 8) (r := ("WordWright$Solver", kT8, 11)) rfl rfl wd295 wd296 wd10 kr8 D73_86 ?_
  refine s_Dup D73_89 ?_
  refine s_Ci (id := 384) rfl (l_IN (j := 3) rfl ok273 rfl rfl rfl rfl wd298 D73_90.1) (?_ : rSnd _ _ 93 _)
  refine s_Pf (ci := 0) (r := ("WordWright", kT0, 13)) rfl (show 10 < 13 from by decide) rfl (Or.inr ⟨rfl, wd446, rfl, rfl⟩) (Or.inl rfl) rfl (by decide) D73_93 ?_
  refine s_Al gk0 (Or.inr ⟨0, D73_96, rfl⟩) ?_
  refine s_New (ci := 6) (r := ("WordWright$Schemas", kT6, 8)) rfl rfl wd338 wd339 wd11 kr6 D73_97 ?_
  refine s_Dup D73_100 ?_
  refine s_Ci (id := 356) rfl (l_IN (j := 4) rfl ok260 rfl rfl rfl rfl wd341 D73_101.1) (?_ : rSnd _ _ 104 _)
  refine s_Pf (ci := 0) (r := ("WordWright", kT0, 13)) rfl (show 11 < 13 from by decide) rfl (Or.inr ⟨rfl, wd447, rfl, rfl⟩) (Or.inl rfl) rfl (by decide) D73_104 ?_
  refine s_Al gk0 (Or.inr ⟨0, D73_107, rfl⟩) ?_
  refine s_New (ci := 5) (r := ("WordWright$Program", kT5, 12)) rfl rfl wd374 wd375 wd12 kr5 D73_108 ?_
  refine s_Dup D73_111 ?_
  refine s_Ci (id := 350) rfl (l_I rfl ok256 rfl rfl rfl wd376 wd377 D73_112.1) (?_ : rSnd _ _ 115 _)
  refine s_Pf (ci := 0) (r := ("WordWright", kT0, 13)) rfl (show 12 < 13 from by decide) rfl (Or.inr ⟨rfl, wd448, rfl, rfl⟩) (Or.inl rfl) rfl (by decide) D73_115 ?_
  refine s_ic D73_118 kc_i_0 (by decide) ?_
  refine s_Is sk1 (show 1 < 2 from by decide) (Or.inr ⟨1, D73_119, rfl⟩) ?_
  exact P73_120
theorem D74_0 : rDec M74 0 (.iload_n 1) 1 1 := ⟨by decide +kernel, rfl⟩
theorem D74_1 : rDec M74 1 (.ifCond .lt 15) 3 4 := ⟨by decide +kernel, rfl⟩
theorem D74_4 : rDec M74 4 (.iload_n 1) 1 5 := ⟨by decide +kernel, rfl⟩
theorem D74_5 : rDec M74 5 (.aload_n 0) 1 6 := ⟨by decide +kernel, rfl⟩
theorem D74_6 : rDec M74 6 (.getfield 83) 3 9 := ⟨by decide +kernel, rfl⟩
theorem D74_9 : rDec M74 9 (.if_icmp .ge 7) 3 12 := ⟨by decide +kernel, rfl⟩
theorem D74_12 : rDec M74 12 (.iconst 1) 1 13 := ⟨by decide +kernel, rfl⟩
theorem D74_13 : rDec M74 13 (.goto 4) 3 16 := ⟨by decide +kernel, rfl⟩
theorem D74_16 : rDec M74 16 (.iconst 0) 1 17 := ⟨by decide +kernel, rfl⟩
theorem D74_17 : rDec M74 17 (.ireturn) 1 18 := ⟨by decide +kernel, rfl⟩
theorem P74_17 : rSnd lab M74 17 B74_17 := by
  exact s_Ri (Or.inr ⟨rfl, by decide⟩) D74_17.1
theorem P74_16 : rSnd lab M74 16 B74_16 := by
  refine s_ic D74_16 kc_i_0 (by decide) ?_
  exact P74_17
theorem P74_0 : rSnd lab M74 0 B74_0 := by
  refine s_Ent ?_
  refine s_Il gk1 (Or.inr ⟨1, D74_0, rfl⟩) ?_
  refine s_If c_lt (fun _ => rfl) (fun _ _ => rfl) (b_lt (tg := 16) (by decide)) D74_1.1 P74_16 (?_ : rSnd _ _ 4 _)
  refine s_Il gk1 (Or.inr ⟨1, D74_4, rfl⟩) ?_
  refine s_Al gk0 (Or.inr ⟨0, D74_5, rfl⟩) ?_
  refine s_Gf (ci := 0) (r := ("WordWright", kT0, 13)) rfl (show 1 < 13 from by decide) rfl (Or.inl wd437) (Or.inl rfl) rfl D74_6 ?_
  refine s_Ic c_ge (i_ge (tg := 16) (by decide)) D74_9.1 P74_16 (?_ : rSnd _ _ 12 _)
  refine s_ic D74_12 kc_i_1 (by decide) ?_
  exact s_Go (pc' := 17) D74_13.1 (by decide) P74_17
theorem D75_0 : rDec M75 0 (.iload_n 0) 1 1 := ⟨by decide +kernel, rfl⟩
theorem D75_1 : rDec M75 1 (.ifCond .lt 12) 3 4 := ⟨by decide +kernel, rfl⟩
theorem D75_4 : rDec M75 4 (.iload_n 0) 1 5 := ⟨by decide +kernel, rfl⟩
theorem D75_5 : rDec M75 5 (.iconst 4) 1 6 := ⟨by decide +kernel, rfl⟩
theorem D75_6 : rDec M75 6 (.if_icmp .ge 7) 3 9 := ⟨by decide +kernel, rfl⟩
theorem D75_9 : rDec M75 9 (.iconst 1) 1 10 := ⟨by decide +kernel, rfl⟩
theorem D75_10 : rDec M75 10 (.goto 4) 3 13 := ⟨by decide +kernel, rfl⟩
theorem D75_13 : rDec M75 13 (.iconst 0) 1 14 := ⟨by decide +kernel, rfl⟩
theorem D75_14 : rDec M75 14 (.ireturn) 1 15 := ⟨by decide +kernel, rfl⟩
theorem P75_14 : rSnd lab M75 14 B75_14 := by
  exact s_Ri (Or.inr ⟨rfl, by decide⟩) D75_14.1
theorem P75_13 : rSnd lab M75 13 B75_13 := by
  refine s_ic D75_13 kc_i_0 (by decide) ?_
  exact P75_14
theorem P75_0 : rSnd lab M75 0 B75_0 := by
  refine s_Ent ?_
  refine s_Il gk0 (Or.inr ⟨0, D75_0, rfl⟩) ?_
  refine s_If c_lt (fun _ => rfl) (fun _ _ => rfl) (b_lt (tg := 13) (by decide)) D75_1.1 P75_13 (?_ : rSnd _ _ 4 _)
  refine s_Il gk0 (Or.inr ⟨0, D75_4, rfl⟩) ?_
  refine s_ic D75_5 kc_i_4 (by decide) ?_
  refine s_Ic c_ge (i_ge (tg := 13) (by decide)) D75_6.1 P75_13 (?_ : rSnd _ _ 9 _)
  refine s_ic D75_9 kc_i_1 (by decide) ?_
  exact s_Go (pc' := 14) D75_10.1 (by decide) P75_14
theorem D76_0 : rDec M76 0 (.iload_n 1) 1 1 := ⟨by decide +kernel, rfl⟩
theorem D76_1 : rDec M76 1 (.ifCond .lt 15) 3 4 := ⟨by decide +kernel, rfl⟩
theorem D76_4 : rDec M76 4 (.iload_n 1) 1 5 := ⟨by decide +kernel, rfl⟩
theorem D76_5 : rDec M76 5 (.aload_n 0) 1 6 := ⟨by decide +kernel, rfl⟩
theorem D76_6 : rDec M76 6 (.getfield 166) 3 9 := ⟨by decide +kernel, rfl⟩
theorem D76_9 : rDec M76 9 (.if_icmp .ge 7) 3 12 := ⟨by decide +kernel, rfl⟩
theorem D76_16 : rDec M76 16 (.iconst 0) 1 17 := ⟨by decide +kernel, rfl⟩
theorem D76_17 : rDec M76 17 (.ireturn) 1 18 := ⟨by decide +kernel, rfl⟩
theorem P76_16 : rSnd lab M76 16 B76_16 := by
  refine s_ic D76_16 kc_i_0 (by decide) ?_
  exact s_Ri (Or.inr ⟨rfl, by decide⟩) D76_17.1
theorem P76_0 : rSnd lab M76 0 B76_0 := by
  refine s_Ent ?_
  refine s_Il gk1 (Or.inr ⟨1, D76_0, rfl⟩) ?_
  refine s_If c_lt (fun _ => rfl) (fun _ _ => rfl) (b_lt (tg := 16) (by decide)) D76_1.1 P76_16 (?_ : rSnd _ _ 4 _)
  refine s_Il gk1 (Or.inr ⟨1, D76_4, rfl⟩) ?_
  refine s_Al gk0 (Or.inr ⟨0, D76_5, rfl⟩) ?_
  refine s_Gf (ci := 0) (r := ("WordWright", kT0, 13)) rfl (show 3 < 13 from by decide) rfl (Or.inl wd439) (Or.inl rfl) rfl D76_6 ?_
  refine s_Ic c_ge (i_ge (tg := 16) (by decide)) D76_9.1 P76_16 (?_ : rSnd _ _ 12 _)
  exact rSnd_none
theorem D77_0 : rDec M77 0 (.iload_n 1) 1 1 := ⟨by decide +kernel, rfl⟩
theorem D77_1 : rDec M77 1 (.ifCond .lt 18) 3 4 := ⟨by decide +kernel, rfl⟩
theorem D77_4 : rDec M77 4 (.iload_n 1) 1 5 := ⟨by decide +kernel, rfl⟩
theorem D77_5 : rDec M77 5 (.aload_n 0) 1 6 := ⟨by decide +kernel, rfl⟩
theorem D77_6 : rDec M77 6 (.getfield 68) 3 9 := ⟨by decide +kernel, rfl⟩
theorem D77_9 : rDec M77 9 (.getfield 271) 3 12 := ⟨by decide +kernel, rfl⟩
theorem D77_12 : rDec M77 12 (.if_icmp .ge 7) 3 15 := ⟨by decide +kernel, rfl⟩
theorem D77_19 : rDec M77 19 (.iconst 0) 1 20 := ⟨by decide +kernel, rfl⟩
theorem D77_20 : rDec M77 20 (.ireturn) 1 21 := ⟨by decide +kernel, rfl⟩
theorem P77_19 : rSnd lab M77 19 B77_19 := by
  refine s_ic D77_19 kc_i_0 (by decide) ?_
  exact s_Ri (Or.inr ⟨rfl, by decide⟩) D77_20.1
theorem P77_0 : rSnd lab M77 0 B77_0 := by
  refine s_Ent ?_
  refine s_Il gk1 (Or.inr ⟨1, D77_0, rfl⟩) ?_
  refine s_If c_lt (fun _ => rfl) (fun _ _ => rfl) (b_lt (tg := 19) (by decide)) D77_1.1 P77_19 (?_ : rSnd _ _ 4 _)
  refine s_Il gk1 (Or.inr ⟨1, D77_4, rfl⟩) ?_
  refine s_Al gk0 (Or.inr ⟨0, D77_5, rfl⟩) ?_
  refine s_Gf (ci := 0) (r := ("WordWright", kT0, 13)) rfl (show 11 < 13 from by decide) rfl (Or.inl wd447) (Or.inl rfl) rfl D77_6 ?_
  refine s_Gf (ci := 6) (r := ("WordWright$Schemas", kT6, 8)) rfl (show 0 < 8 from by decide) rfl (Or.inl wd346) (Or.inl rfl) rfl D77_9 ?_
  refine s_Ic c_ge (i_ge (tg := 19) (by decide)) D77_12.1 P77_19 (?_ : rSnd _ _ 15 _)
  exact rSnd_none
theorem D78_0 : rDec M78 0 (.iload_n 1) 1 1 := ⟨by decide +kernel, rfl⟩
theorem D78_1 : rDec M78 1 (.tableswitch 179 0 6 #[43, 69, 69, 94, 120, 153, 43]) 43 44 := ⟨by decide +kernel, rfl⟩
theorem D78_44 : rDec M78 44 (.iload_n 2) 1 45 := ⟨by decide +kernel, rfl⟩
theorem D78_45 : rDec M78 45 (.invokestatic 326) 3 48 := ⟨by decide +kernel, rfl⟩
theorem D78_48 : rDec M78 48 (.ifCond .eq 20) 3 51 := ⟨by decide +kernel, rfl⟩
theorem D78_51 : rDec M78 51 (.aload_n 0) 1 52 := ⟨by decide +kernel, rfl⟩
theorem D78_52 : rDec M78 52 (.iload_n 3) 1 53 := ⟨by decide +kernel, rfl⟩
theorem D78_53 : rDec M78 53 (.invokevirtual 116) 3 56 := ⟨by decide +kernel, rfl⟩
theorem D78_56 : rDec M78 56 (.ifCond .eq 12) 3 59 := ⟨by decide +kernel, rfl⟩
theorem D78_59 : rDec M78 59 (.iload 4) 2 61 := ⟨by decide +kernel, rfl⟩
theorem D78_61 : rDec M78 61 (.ifCond .ne 7) 3 64 := ⟨by decide +kernel, rfl⟩
theorem D78_64 : rDec M78 64 (.iconst 1) 1 65 := ⟨by decide +kernel, rfl⟩
theorem D78_65 : rDec M78 65 (.goto 4) 3 68 := ⟨by decide +kernel, rfl⟩
theorem D78_68 : rDec M78 68 (.iconst 0) 1 69 := ⟨by decide +kernel, rfl⟩
theorem D78_69 : rDec M78 69 (.ireturn) 1 70 := ⟨by decide +kernel, rfl⟩
theorem D78_70 : rDec M78 70 (.iload_n 2) 1 71 := ⟨by decide +kernel, rfl⟩
theorem D78_71 : rDec M78 71 (.invokestatic 326) 3 74 := ⟨by decide +kernel, rfl⟩
theorem D78_74 : rDec M78 74 (.ifCond .eq 19) 3 77 := ⟨by decide +kernel, rfl⟩
theorem D78_77 : rDec M78 77 (.iload_n 3) 1 78 := ⟨by decide +kernel, rfl⟩
theorem D78_78 : rDec M78 78 (.invokestatic 326) 3 81 := ⟨by decide +kernel, rfl⟩
theorem D78_81 : rDec M78 81 (.ifCond .eq 12) 3 84 := ⟨by decide +kernel, rfl⟩
theorem D78_84 : rDec M78 84 (.iload 4) 2 86 := ⟨by decide +kernel, rfl⟩
theorem D78_86 : rDec M78 86 (.ifCond .ne 7) 3 89 := ⟨by decide +kernel, rfl⟩
theorem D78_89 : rDec M78 89 (.iconst 1) 1 90 := ⟨by decide +kernel, rfl⟩
theorem D78_90 : rDec M78 90 (.goto 4) 3 93 := ⟨by decide +kernel, rfl⟩
theorem D78_93 : rDec M78 93 (.iconst 0) 1 94 := ⟨by decide +kernel, rfl⟩
theorem D78_94 : rDec M78 94 (.ireturn) 1 95 := ⟨by decide +kernel, rfl⟩
theorem D78_95 : rDec M78 95 (.iload_n 2) 1 96 := ⟨by decide +kernel, rfl⟩
theorem D78_96 : rDec M78 96 (.invokestatic 326) 3 99 := ⟨by decide +kernel, rfl⟩
theorem D78_99 : rDec M78 99 (.ifCond .eq 20) 3 102 := ⟨by decide +kernel, rfl⟩
theorem D78_102 : rDec M78 102 (.aload_n 0) 1 103 := ⟨by decide +kernel, rfl⟩
theorem D78_103 : rDec M78 103 (.iload_n 3) 1 104 := ⟨by decide +kernel, rfl⟩
theorem D78_104 : rDec M78 104 (.invokevirtual 171) 3 107 := ⟨by decide +kernel, rfl⟩
theorem D78_107 : rDec M78 107 (.ifCond .eq 12) 3 110 := ⟨by decide +kernel, rfl⟩
theorem D78_119 : rDec M78 119 (.iconst 0) 1 120 := ⟨by decide +kernel, rfl⟩
theorem D78_120 : rDec M78 120 (.ireturn) 1 121 := ⟨by decide +kernel, rfl⟩
theorem D78_121 : rDec M78 121 (.iload_n 2) 1 122 := ⟨by decide +kernel, rfl⟩
theorem D78_122 : rDec M78 122 (.invokestatic 326) 3 125 := ⟨by decide +kernel, rfl⟩
theorem D78_125 : rDec M78 125 (.ifCond .eq 27) 3 128 := ⟨by decide +kernel, rfl⟩
theorem D78_128 : rDec M78 128 (.aload_n 0) 1 129 := ⟨by decide +kernel, rfl⟩
theorem D78_129 : rDec M78 129 (.iload_n 3) 1 130 := ⟨by decide +kernel, rfl⟩
theorem D78_130 : rDec M78 130 (.invokevirtual 116) 3 133 := ⟨by decide +kernel, rfl⟩
theorem D78_133 : rDec M78 133 (.ifCond .eq 19) 3 136 := ⟨by decide +kernel, rfl⟩
theorem D78_136 : rDec M78 136 (.iload 4) 2 138 := ⟨by decide +kernel, rfl⟩
theorem D78_138 : rDec M78 138 (.ifCond .lt 14) 3 141 := ⟨by decide +kernel, rfl⟩
theorem D78_141 : rDec M78 141 (.iload 4) 2 143 := ⟨by decide +kernel, rfl⟩
theorem D78_143 : rDec M78 143 (.bipush 10) 2 145 := ⟨by decide +kernel, rfl⟩
theorem D78_145 : rDec M78 145 (.if_icmp .gt 7) 3 148 := ⟨by decide +kernel, rfl⟩
theorem D78_148 : rDec M78 148 (.iconst 1) 1 149 := ⟨by decide +kernel, rfl⟩
theorem D78_149 : rDec M78 149 (.goto 4) 3 152 := ⟨by decide +kernel, rfl⟩
theorem D78_152 : rDec M78 152 (.iconst 0) 1 153 := ⟨by decide +kernel, rfl⟩
theorem D78_153 : rDec M78 153 (.ireturn) 1 154 := ⟨by decide +kernel, rfl⟩
theorem D78_154 : rDec M78 154 (.iload_n 2) 1 155 := ⟨by decide +kernel, rfl⟩
theorem D78_155 : rDec M78 155 (.ifCond .ne 23) 3 158 := ⟨by decide +kernel, rfl⟩
theorem D78_158 : rDec M78 158 (.iload_n 3) 1 159 := ⟨by decide +kernel, rfl⟩
theorem D78_159 : rDec M78 159 (.ifCond .ne 19) 3 162 := ⟨by decide +kernel, rfl⟩
theorem D78_162 : rDec M78 162 (.iload 4) 2 164 := ⟨by decide +kernel, rfl⟩
theorem D78_164 : rDec M78 164 (.ifCond .lt 14) 3 167 := ⟨by decide +kernel, rfl⟩
theorem D78_167 : rDec M78 167 (.iload 4) 2 169 := ⟨by decide +kernel, rfl⟩
theorem D78_169 : rDec M78 169 (.bipush 10) 2 171 := ⟨by decide +kernel, rfl⟩
theorem D78_171 : rDec M78 171 (.if_icmp .gt 7) 3 174 := ⟨by decide +kernel, rfl⟩
theorem D78_174 : rDec M78 174 (.iconst 1) 1 175 := ⟨by decide +kernel, rfl⟩
theorem D78_175 : rDec M78 175 (.goto 4) 3 178 := ⟨by decide +kernel, rfl⟩
theorem D78_178 : rDec M78 178 (.iconst 0) 1 179 := ⟨by decide +kernel, rfl⟩
theorem D78_179 : rDec M78 179 (.ireturn) 1 180 := ⟨by decide +kernel, rfl⟩
theorem D78_180 : rDec M78 180 (.iconst 0) 1 181 := ⟨by decide +kernel, rfl⟩
theorem D78_181 : rDec M78 181 (.ireturn) 1 182 := ⟨by decide +kernel, rfl⟩
theorem P78_180 : rSnd lab M78 180 B78_180 := by
  refine s_ic D78_180 kc_i_0 (by decide) ?_
  exact s_Ri (Or.inr ⟨rfl, by decide⟩) D78_181.1
theorem P78_179 : rSnd lab M78 179 B78_179 := by
  exact s_Ri (Or.inr ⟨rfl, by decide⟩) D78_179.1
theorem P78_178 : rSnd lab M78 178 B78_178 := by
  refine s_ic D78_178 kc_i_0 (by decide) ?_
  exact P78_179
theorem P78_154 : rSnd lab M78 154 B78_154 := by
  refine s_Il gk2 (Or.inr ⟨2, D78_154, rfl⟩) ?_
  refine s_If c_ne (fun _ => rfl) (fun _ _ => rfl) (b_ne (tg := 178) (by decide)) D78_155.1 P78_178 (?_ : rSnd _ _ 158 _)
  refine s_Il gk3 (Or.inr ⟨3, D78_158, rfl⟩) ?_
  refine s_If c_ne (fun _ => rfl) (fun _ _ => rfl) (b_ne (tg := 178) (by decide)) D78_159.1 P78_178 (?_ : rSnd _ _ 162 _)
  refine s_Il gk4 (Or.inl D78_162) ?_
  refine s_If c_lt (fun _ => rfl) (fun _ _ => rfl) (b_lt (tg := 178) (by decide)) D78_164.1 P78_178 (?_ : rSnd _ _ 167 _)
  refine s_Il gk4 (Or.inl D78_167) ?_
  refine s_bi D78_169 kc_b_10 (by decide) ?_
  refine s_Ic c_gt (i_gt (tg := 178) (by decide)) D78_171.1 P78_178 (?_ : rSnd _ _ 174 _)
  refine s_ic D78_174 kc_i_1 (by decide) ?_
  exact s_Go (pc' := 179) D78_175.1 (by decide) P78_179
theorem P78_153 : rSnd lab M78 153 B78_153 := by
  exact s_Ri (Or.inr ⟨rfl, by decide⟩) D78_153.1
theorem P78_152 : rSnd lab M78 152 B78_152 := by
  refine s_ic D78_152 kc_i_0 (by decide) ?_
  exact P78_153
theorem P78_121 : rSnd lab M78 121 B78_121 := by
  refine s_Il gk2 (Or.inr ⟨2, D78_121, rfl⟩) ?_
  refine s_Cs (id := 92) rfl (l_S rfl ok79 rfl wd1616 wd1617 D78_122.1) (?_ : rSnd _ _ 125 _)
  refine s_If c_eq (fun _ => rfl) (fun _ _ => rfl) (b_eq (tg := 152) (by decide)) D78_125.1 P78_152 (?_ : rSnd _ _ 128 _)
  refine s_Al gk0 (Or.inr ⟨0, D78_128, rfl⟩) ?_
  refine s_Il gk3 (Or.inr ⟨3, D78_129, rfl⟩) ?_
  refine s_Cv (ln := 3) (kd := 2) (C := "WordWright") (by decide) (by decide +kernel) rfl (l_V rfl ok74 rfl wd1269 wd1271 ws52 D78_130.1) (?_ : rSnd _ _ 133 _)
  refine s_If c_eq (fun _ => rfl) (fun _ _ => rfl) (b_eq (tg := 152) (by decide)) D78_133.1 P78_152 (?_ : rSnd _ _ 136 _)
  refine s_Il gk4 (Or.inl D78_136) ?_
  refine s_If c_lt (fun _ => rfl) (fun _ _ => rfl) (b_lt (tg := 152) (by decide)) D78_138.1 P78_152 (?_ : rSnd _ _ 141 _)
  refine s_Il gk4 (Or.inl D78_141) ?_
  refine s_bi D78_143 kc_b_10 (by decide) ?_
  refine s_Ic c_gt (i_gt (tg := 152) (by decide)) D78_145.1 P78_152 (?_ : rSnd _ _ 148 _)
  refine s_ic D78_148 kc_i_1 (by decide) ?_
  exact s_Go (pc' := 153) D78_149.1 (by decide) P78_153
theorem P78_119 : rSnd lab M78 119 B78_119 := by
  refine s_ic D78_119 kc_i_0 (by decide) ?_
  exact s_Ri (Or.inr ⟨rfl, by decide⟩) D78_120.1
theorem P78_95 : rSnd lab M78 95 B78_95 := by
  refine s_Il gk2 (Or.inr ⟨2, D78_95, rfl⟩) ?_
  refine s_Cs (id := 92) rfl (l_S rfl ok79 rfl wd1616 wd1617 D78_96.1) (?_ : rSnd _ _ 99 _)
  refine s_If c_eq (fun _ => rfl) (fun _ _ => rfl) (b_eq (tg := 119) (by decide)) D78_99.1 P78_119 (?_ : rSnd _ _ 102 _)
  refine s_Al gk0 (Or.inr ⟨0, D78_102, rfl⟩) ?_
  refine s_Il gk3 (Or.inr ⟨3, D78_103, rfl⟩) ?_
  refine s_Cv (ln := 3) (kd := 2) (C := "WordWright") (by decide) (by decide +kernel) rfl (l_V rfl ok76 rfl wd1273 wd1275 ws53 D78_104.1) (?_ : rSnd _ _ 107 _)
  refine s_If c_eq (fun _ => rfl) (fun _ _ => rfl) (b_eq (tg := 119) (by decide)) D78_107.1 P78_119 (?_ : rSnd _ _ 110 _)
  exact rSnd_none
theorem P78_94 : rSnd lab M78 94 B78_94 := by
  exact s_Ri (Or.inr ⟨rfl, by decide⟩) D78_94.1
theorem P78_93 : rSnd lab M78 93 B78_93 := by
  refine s_ic D78_93 kc_i_0 (by decide) ?_
  exact P78_94
theorem P78_70 : rSnd lab M78 70 B78_70 := by
  refine s_Il gk2 (Or.inr ⟨2, D78_70, rfl⟩) ?_
  refine s_Cs (id := 92) rfl (l_S rfl ok79 rfl wd1616 wd1617 D78_71.1) (?_ : rSnd _ _ 74 _)
  refine s_If c_eq (fun _ => rfl) (fun _ _ => rfl) (b_eq (tg := 93) (by decide)) D78_74.1 P78_93 (?_ : rSnd _ _ 77 _)
  refine s_Il gk3 (Or.inr ⟨3, D78_77, rfl⟩) ?_
  refine s_Cs (id := 92) rfl (l_S rfl ok79 rfl wd1616 wd1617 D78_78.1) (?_ : rSnd _ _ 81 _)
  refine s_If c_eq (fun _ => rfl) (fun _ _ => rfl) (b_eq (tg := 93) (by decide)) D78_81.1 P78_93 (?_ : rSnd _ _ 84 _)
  refine s_Il gk4 (Or.inl D78_84) ?_
  refine s_If c_ne (fun _ => rfl) (fun _ _ => rfl) (b_ne (tg := 93) (by decide)) D78_86.1 P78_93 (?_ : rSnd _ _ 89 _)
  refine s_ic D78_89 kc_i_1 (by decide) ?_
  exact s_Go (pc' := 94) D78_90.1 (by decide) P78_94
theorem P78_69 : rSnd lab M78 69 B78_69 := by
  exact s_Ri (Or.inr ⟨rfl, by decide⟩) D78_69.1
theorem P78_68 : rSnd lab M78 68 B78_68 := by
  refine s_ic D78_68 kc_i_0 (by decide) ?_
  exact P78_69
theorem P78_44 : rSnd lab M78 44 B78_44 := by
  refine s_Il gk2 (Or.inr ⟨2, D78_44, rfl⟩) ?_
  refine s_Cs (id := 92) rfl (l_S rfl ok79 rfl wd1616 wd1617 D78_45.1) (?_ : rSnd _ _ 48 _)
  refine s_If c_eq (fun _ => rfl) (fun _ _ => rfl) (b_eq (tg := 68) (by decide)) D78_48.1 P78_68 (?_ : rSnd _ _ 51 _)
  refine s_Al gk0 (Or.inr ⟨0, D78_51, rfl⟩) ?_
  refine s_Il gk3 (Or.inr ⟨3, D78_52, rfl⟩) ?_
  refine s_Cv (ln := 3) (kd := 2) (C := "WordWright") (by decide) (by decide +kernel) rfl (l_V rfl ok74 rfl wd1269 wd1271 ws52 D78_53.1) (?_ : rSnd _ _ 56 _)
  refine s_If c_eq (fun _ => rfl) (fun _ _ => rfl) (b_eq (tg := 68) (by decide)) D78_56.1 P78_68 (?_ : rSnd _ _ 59 _)
  refine s_Il gk4 (Or.inl D78_59) ?_
  refine s_If c_ne (fun _ => rfl) (fun _ _ => rfl) (b_ne (tg := 68) (by decide)) D78_61.1 P78_68 (?_ : rSnd _ _ 64 _)
  refine s_ic D78_64 kc_i_1 (by decide) ?_
  exact s_Go (pc' := 69) D78_65.1 (by decide) P78_69
theorem P78_0 : rSnd lab M78 0 B78_0 := by
  refine s_Ent ?_
  refine s_Il gk1 (Or.inr ⟨1, D78_0, rfl⟩) ?_
  exact s_Tsw (tgd := 180) D78_1.1 rfl (by decide) (by decide) ⟨⟨44, by decide, P78_44⟩, ⟨70, by decide, P78_70⟩, ⟨70, by decide, P78_70⟩, ⟨95, by decide, P78_95⟩, ⟨121, by decide, P78_121⟩, ⟨154, by decide, P78_154⟩, ⟨44, by decide, P78_44⟩, trivial⟩ (by decide) P78_180
theorem D79_0 : rDec M79 0 (.iload_n 0) 1 1 := ⟨by decide +kernel, rfl⟩
theorem D79_1 : rDec M79 1 (.ifCond .lt 12) 3 4 := ⟨by decide +kernel, rfl⟩
theorem D79_4 : rDec M79 4 (.iload_n 0) 1 5 := ⟨by decide +kernel, rfl⟩
theorem D79_5 : rDec M79 5 (.iconst 3) 1 6 := ⟨by decide +kernel, rfl⟩
theorem D79_6 : rDec M79 6 (.if_icmp .ge 7) 3 9 := ⟨by decide +kernel, rfl⟩
theorem D79_9 : rDec M79 9 (.iconst 1) 1 10 := ⟨by decide +kernel, rfl⟩
theorem D79_10 : rDec M79 10 (.goto 4) 3 13 := ⟨by decide +kernel, rfl⟩
theorem D79_13 : rDec M79 13 (.iconst 0) 1 14 := ⟨by decide +kernel, rfl⟩
theorem D79_14 : rDec M79 14 (.ireturn) 1 15 := ⟨by decide +kernel, rfl⟩
theorem P79_14 : rSnd lab M79 14 B79_14 := by
  exact s_Ri (Or.inr ⟨rfl, by decide⟩) D79_14.1
theorem P79_13 : rSnd lab M79 13 B79_13 := by
  refine s_ic D79_13 kc_i_0 (by decide) ?_
  exact P79_14
theorem P79_0 : rSnd lab M79 0 B79_0 := by
  refine s_Ent ?_
  refine s_Il gk0 (Or.inr ⟨0, D79_0, rfl⟩) ?_
  refine s_If c_lt (fun _ => rfl) (fun _ _ => rfl) (b_lt (tg := 13) (by decide)) D79_1.1 P79_13 (?_ : rSnd _ _ 4 _)
  refine s_Il gk0 (Or.inr ⟨0, D79_4, rfl⟩) ?_
  refine s_ic D79_5 kc_i_3 (by decide) ?_
  refine s_Ic c_ge (i_ge (tg := 13) (by decide)) D79_6.1 P79_13 (?_ : rSnd _ _ 9 _)
  refine s_ic D79_9 kc_i_1 (by decide) ?_
  exact s_Go (pc' := 14) D79_10.1 (by decide) P79_14
theorem D80_0 : rDec M80 0 (.iload_n 0) 1 1 := ⟨by decide +kernel, rfl⟩
theorem D80_1 : rDec M80 1 (.ifCond .lt 12) 3 4 := ⟨by decide +kernel, rfl⟩
theorem D80_4 : rDec M80 4 (.iload_n 0) 1 5 := ⟨by decide +kernel, rfl⟩
theorem D80_5 : rDec M80 5 (.iconst 4) 1 6 := ⟨by decide +kernel, rfl⟩
theorem D80_6 : rDec M80 6 (.if_icmp .ge 7) 3 9 := ⟨by decide +kernel, rfl⟩
theorem D80_9 : rDec M80 9 (.iconst 1) 1 10 := ⟨by decide +kernel, rfl⟩
theorem D80_10 : rDec M80 10 (.goto 4) 3 13 := ⟨by decide +kernel, rfl⟩
theorem D80_13 : rDec M80 13 (.iconst 0) 1 14 := ⟨by decide +kernel, rfl⟩
theorem D80_14 : rDec M80 14 (.ireturn) 1 15 := ⟨by decide +kernel, rfl⟩
theorem P80_14 : rSnd lab M80 14 B80_14 := by
  exact s_Ri (Or.inr ⟨rfl, by decide⟩) D80_14.1
theorem P80_13 : rSnd lab M80 13 B80_13 := by
  refine s_ic D80_13 kc_i_0 (by decide) ?_
  exact P80_14
theorem P80_0 : rSnd lab M80 0 B80_0 := by
  refine s_Ent ?_
  refine s_Il gk0 (Or.inr ⟨0, D80_0, rfl⟩) ?_
  refine s_If c_lt (fun _ => rfl) (fun _ _ => rfl) (b_lt (tg := 13) (by decide)) D80_1.1 P80_13 (?_ : rSnd _ _ 4 _)
  refine s_Il gk0 (Or.inr ⟨0, D80_4, rfl⟩) ?_
  refine s_ic D80_5 kc_i_4 (by decide) ?_
  refine s_Ic c_ge (i_ge (tg := 13) (by decide)) D80_6.1 P80_13 (?_ : rSnd _ _ 9 _)
  refine s_ic D80_9 kc_i_1 (by decide) ?_
  exact s_Go (pc' := 14) D80_10.1 (by decide) P80_14
theorem D81_0 : rDec M81 0 (.iload_n 0) 1 1 := ⟨by decide +kernel, rfl⟩
theorem D81_1 : rDec M81 1 (.ifCond .le 24) 3 4 := ⟨by decide +kernel, rfl⟩
theorem D81_4 : rDec M81 4 (.iload_n 0) 1 5 := ⟨by decide +kernel, rfl⟩
theorem D81_5 : rDec M81 5 (.ldc_w 378) 3 8 := ⟨by decide +kernel, rfl⟩
theorem D81_8 : rDec M81 8 (.if_icmp .ge 17) 3 11 := ⟨by decide +kernel, rfl⟩
theorem D81_11 : rDec M81 11 (.iload_n 0) 1 12 := ⟨by decide +kernel, rfl⟩
theorem D81_12 : rDec M81 12 (.invokestatic 379) 3 15 := ⟨by decide +kernel, rfl⟩
theorem D81_15 : rDec M81 15 (.iconst 1) 1 16 := ⟨by decide +kernel, rfl⟩
theorem D81_16 : rDec M81 16 (.iand) 1 17 := ⟨by decide +kernel, rfl⟩
theorem D81_17 : rDec M81 17 (.iconst 1) 1 18 := ⟨by decide +kernel, rfl⟩
theorem D81_18 : rDec M81 18 (.if_icmp .ne 7) 3 21 := ⟨by decide +kernel, rfl⟩
theorem D81_21 : rDec M81 21 (.iconst 1) 1 22 := ⟨by decide +kernel, rfl⟩
theorem D81_22 : rDec M81 22 (.goto 4) 3 25 := ⟨by decide +kernel, rfl⟩
theorem D81_25 : rDec M81 25 (.iconst 0) 1 26 := ⟨by decide +kernel, rfl⟩
theorem D81_26 : rDec M81 26 (.ireturn) 1 27 := ⟨by decide +kernel, rfl⟩
theorem P81_26 : rSnd lab M81 26 B81_26 := by
  exact s_Ri (Or.inr ⟨rfl, by decide⟩) D81_26.1
theorem P81_25 : rSnd lab M81 25 B81_25 := by
  refine s_ic D81_25 kc_i_0 (by decide) ?_
  exact P81_26
theorem P81_0 : rSnd lab M81 0 B81_0 := by
  refine s_Ent ?_
  refine s_Il gk0 (Or.inr ⟨0, D81_0, rfl⟩) ?_
  refine s_If c_le (fun _ => rfl) (fun _ _ => rfl) (b_le (tg := 25) (by decide)) D81_1.1 P81_25 (?_ : rSnd _ _ 4 _)
  refine s_Il gk0 (Or.inr ⟨0, D81_4, rfl⟩) ?_
  refine s_ldw rfl wd1384 D81_5 kc_I_2097152 (by decide) ?_
  refine s_Ic c_ge (i_ge (tg := 25) (by decide)) D81_8.1 P81_25 (?_ : rSnd _ _ 11 _)
  refine s_Il gk0 (Or.inr ⟨0, D81_11, rfl⟩) ?_
  refine s_Cs (id := 2) rfl (l_S rfl ok2 rfl wd500 wd501 D81_12.1) (?_ : rSnd _ _ 15 _)
  refine s_ic D81_15 kc_i_1 (by decide) ?_
  refine s_Bin q_iand n_and g_and rE2_x D81_16 ?_
  refine s_ic D81_17 kc_i_1 (by decide) ?_
  refine s_Ic c_ne (i_ne (tg := 25) (by decide)) D81_18.1 P81_25 (?_ : rSnd _ _ 21 _)
  refine s_ic D81_21 kc_i_1 (by decide) ?_
  exact s_Go (pc' := 26) D81_22.1 (by decide) P81_26
