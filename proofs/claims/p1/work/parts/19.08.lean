-- ===== rows and blocks, 8 =====
theorem D180_0 : rDec M180 0 (.aload_n 0) 1 1 := ⟨by decide +kernel, rfl⟩
theorem D180_1 : rDec M180 1 (.iconst 0) 1 2 := ⟨by decide +kernel, rfl⟩
theorem D180_2 : rDec M180 2 (.putfield 145) 3 5 := ⟨by decide +kernel, rfl⟩
theorem D180_5 : rDec M180 5 (.aload_n 0) 1 6 := ⟨by decide +kernel, rfl⟩
theorem D180_6 : rDec M180 6 (.getfield 116) 3 9 := ⟨by decide +kernel, rfl⟩
theorem D180_9 : rDec M180 9 (.getfield 304) 3 12 := ⟨by decide +kernel, rfl⟩
theorem D180_12 : rDec M180 12 (.invokeinterface 148 1) 5 17 := ⟨by decide +kernel, rfl⟩
theorem D180_17 : rDec M180 17 (.iconst 4) 1 18 := ⟨by decide +kernel, rfl⟩
theorem D180_18 : rDec M180 18 (.if_icmp .lt 9) 3 21 := ⟨by decide +kernel, rfl⟩
theorem D180_27 : rDec M180 27 (.new 103) 3 30 := ⟨by decide +kernel, rfl⟩
theorem D180_30 : rDec M180 30 (.dup) 1 31 := ⟨by decide +kernel, rfl⟩
theorem D180_31 : rDec M180 31 (.invokespecial 105) 3 34 := ⟨by decide +kernel, rfl⟩
theorem D180_34 : rDec M180 34 (.astore_n 1) 1 35 := ⟨by decide +kernel, rfl⟩
theorem D180_35 : rDec M180 35 (.aload_n 1) 1 36 := ⟨by decide +kernel, rfl⟩
theorem D180_36 : rDec M180 36 (.new 103) 3 39 := ⟨by decide +kernel, rfl⟩
theorem D180_39 : rDec M180 39 (.dup) 1 40 := ⟨by decide +kernel, rfl⟩
theorem D180_40 : rDec M180 40 (.invokespecial 105) 3 43 := ⟨by decide +kernel, rfl⟩
theorem D180_43 : rDec M180 43 (.invokeinterface 133 2) 5 48 := ⟨by decide +kernel, rfl⟩
theorem D180_48 : rDec M180 48 (.pop) 1 49 := ⟨by decide +kernel, rfl⟩
theorem D180_49 : rDec M180 49 (.aload_n 1) 1 50 := ⟨by decide +kernel, rfl⟩
theorem D180_50 : rDec M180 50 (.new 103) 3 53 := ⟨by decide +kernel, rfl⟩
theorem D180_53 : rDec M180 53 (.dup) 1 54 := ⟨by decide +kernel, rfl⟩
theorem D180_54 : rDec M180 54 (.invokespecial 105) 3 57 := ⟨by decide +kernel, rfl⟩
theorem D180_57 : rDec M180 57 (.invokeinterface 133 2) 5 62 := ⟨by decide +kernel, rfl⟩
theorem D180_62 : rDec M180 62 (.pop) 1 63 := ⟨by decide +kernel, rfl⟩
theorem D180_63 : rDec M180 63 (.aload_n 0) 1 64 := ⟨by decide +kernel, rfl⟩
theorem D180_64 : rDec M180 64 (.getfield 116) 3 67 := ⟨by decide +kernel, rfl⟩
theorem D180_67 : rDec M180 67 (.getfield 304) 3 70 := ⟨by decide +kernel, rfl⟩
theorem D180_70 : rDec M180 70 (.aload_n 1) 1 71 := ⟨by decide +kernel, rfl⟩
theorem D180_71 : rDec M180 71 (.invokeinterface 133 2) 5 76 := ⟨by decide +kernel, rfl⟩
theorem D180_76 : rDec M180 76 (.pop) 1 77 := ⟨by decide +kernel, rfl⟩
theorem D180_77 : rDec M180 77 (.aload_n 0) 1 78 := ⟨by decide +kernel, rfl⟩
theorem D180_78 : rDec M180 78 (.getfield 116) 3 81 := ⟨by decide +kernel, rfl⟩
theorem D180_81 : rDec M180 81 (.getfield 304) 3 84 := ⟨by decide +kernel, rfl⟩
theorem D180_84 : rDec M180 84 (.invokeinterface 148 1) 5 89 := ⟨by decide +kernel, rfl⟩
theorem D180_89 : rDec M180 89 (.iconst 1) 1 90 := ⟨by decide +kernel, rfl⟩
theorem D180_90 : rDec M180 90 (.isub) 1 91 := ⟨by decide +kernel, rfl⟩
theorem D180_91 : rDec M180 91 (.ireturn) 1 92 := ⟨by decide +kernel, rfl⟩
theorem P180_27 : rSnd lab M180 27 B180_27 := by
  refine s_New (ci := 24) (r := ("java/util/ArrayList", kT24, 3)) rfl rfl wd1888 wd1889 wd21 kr24 D180_27 ?_
  refine s_Dup D180_30 ?_
  refine s_Ci (id := 14) rfl (l_I rfl ok13 rfl rfl rfl wd1890 wd1891 D180_31.1) (?_ : rSnd _ _ 34 _)
  refine s_As sk1 (show 1 < 2 from by decide) (Or.inr ⟨1, D180_34, rfl⟩) ?_
  refine s_Al gk1 (Or.inr ⟨1, D180_35, rfl⟩) ?_
  refine s_New (ci := 24) (r := ("java/util/ArrayList", kT24, 3)) rfl rfl wd1888 wd1889 wd21 kr24 D180_36 ?_
  refine s_Dup D180_39 ?_
  refine s_Ci (id := 14) rfl (l_I rfl ok13 rfl rfl rfl wd1890 wd1891 D180_40.1) (?_ : rSnd _ _ 43 _)
  refine s_Cv (ln := 5) (kd := 50) (C := "java/util/ArrayList") (by decide) (by decide +kernel) rfl (l_F (C := "java/util/ArrayList") (x := ({ cls := "java/util/List", name := "add", desc := "(Ljava/lang/Object;)Z" } : Jvm.MethodName)) (ci := 24) (r := ("java/util/ArrayList", kT24, 3)) rfl rfl rfl ok7 rfl rfl (by decide) (List.mem_of_getElem? (i := 0) rfl) wd1951 wd1957 wd1955 D180_43.1) (?_ : rSnd _ _ 48 _)
  refine s_Pop D180_48 ?_
  refine s_Al gk1 (Or.inr ⟨1, D180_49, rfl⟩) ?_
  refine s_New (ci := 24) (r := ("java/util/ArrayList", kT24, 3)) rfl rfl wd1888 wd1889 wd21 kr24 D180_50 ?_
  refine s_Dup D180_53 ?_
  refine s_Ci (id := 14) rfl (l_I rfl ok13 rfl rfl rfl wd1890 wd1891 D180_54.1) (?_ : rSnd _ _ 57 _)
  refine s_Cv (ln := 5) (kd := 50) (C := "java/util/ArrayList") (by decide) (by decide +kernel) rfl (l_F (C := "java/util/ArrayList") (x := ({ cls := "java/util/List", name := "add", desc := "(Ljava/lang/Object;)Z" } : Jvm.MethodName)) (ci := 24) (r := ("java/util/ArrayList", kT24, 3)) rfl rfl rfl ok7 rfl rfl (by decide) (List.mem_of_getElem? (i := 0) rfl) wd1951 wd1957 wd1955 D180_57.1) (?_ : rSnd _ _ 62 _)
  refine s_Pop D180_62 ?_
  refine s_Al gk0 (Or.inr ⟨0, D180_63, rfl⟩) ?_
  refine s_Gf (ci := 11) (r := ("WordWrightModel", kT11, 10)) rfl (show 4 < 10 from by decide) rfl (Or.inl wd2032) (Or.inl rfl) rfl D180_64 ?_
  refine s_Gf (ci := 20) (r := ("WordWrightModel$Equations", kT20, 6)) rfl (show 0 < 6 from by decide) rfl (Or.inl wd1927) (Or.inl rfl) rfl D180_67 ?_
  refine s_Al gk1 (Or.inr ⟨1, D180_70, rfl⟩) ?_
  refine s_Cv (ln := 5) (kd := 50) (C := "java/util/ArrayList") (by decide) (by decide +kernel) rfl (l_F (C := "java/util/ArrayList") (x := ({ cls := "java/util/List", name := "add", desc := "(Ljava/lang/Object;)Z" } : Jvm.MethodName)) (ci := 24) (r := ("java/util/ArrayList", kT24, 3)) rfl rfl rfl ok7 rfl rfl (by decide) (List.mem_of_getElem? (i := 0) rfl) wd1951 wd1957 wd1955 D180_71.1) (?_ : rSnd _ _ 76 _)
  refine s_Pop D180_76 ?_
  refine s_Al gk0 (Or.inr ⟨0, D180_77, rfl⟩) ?_
  refine s_Gf (ci := 11) (r := ("WordWrightModel", kT11, 10)) rfl (show 4 < 10 from by decide) rfl (Or.inl wd2032) (Or.inl rfl) rfl D180_78 ?_
  refine s_Gf (ci := 20) (r := ("WordWrightModel$Equations", kT20, 6)) rfl (show 0 < 6 from by decide) rfl (Or.inl wd1927) (Or.inl rfl) rfl D180_81 ?_
  refine s_Cv (ln := 5) (kd := 50) (C := "java/util/ArrayList") (by decide) (by decide +kernel) rfl (l_F (C := "java/util/ArrayList") (x := ({ cls := "java/util/List", name := "size", desc := "()I" } : Jvm.MethodName)) (ci := 24) (r := ("java/util/ArrayList", kT24, 3)) rfl rfl rfl ok15 rfl rfl (by decide) (List.mem_of_getElem? (i := 4) rfl) wd2073 wd2078 wd2076 D180_84.1) (?_ : rSnd _ _ 89 _)
  refine s_ic D180_89 kc_i_1 (by decide) ?_
  refine s_Bin q_isub n_sub rG2_x rE2_x D180_90 ?_
  exact s_Ri (Or.inl rfl) D180_91.1
theorem P180_0 : rSnd lab M180 0 B180_0 := by
  refine s_Ent ?_
  refine s_Al gk0 (Or.inr ⟨0, D180_0, rfl⟩) ?_
  refine s_ic D180_1 kc_i_0 (by decide) ?_
  refine s_Pf (ci := 11) (r := ("WordWrightModel", kT11, 10)) rfl (show 0 < 10 from by decide) rfl (Or.inl ⟨rfl, Or.inl wd2025⟩) (Or.inl rfl) rfl (by decide) D180_2 ?_
  refine s_Al gk0 (Or.inr ⟨0, D180_5, rfl⟩) ?_
  refine s_Gf (ci := 11) (r := ("WordWrightModel", kT11, 10)) rfl (show 4 < 10 from by decide) rfl (Or.inl wd2032) (Or.inl rfl) rfl D180_6 ?_
  refine s_Gf (ci := 20) (r := ("WordWrightModel$Equations", kT20, 6)) rfl (show 0 < 6 from by decide) rfl (Or.inl wd1927) (Or.inl rfl) rfl D180_9 ?_
  refine s_Cv (ln := 5) (kd := 50) (C := "java/util/ArrayList") (by decide) (by decide +kernel) rfl (l_F (C := "java/util/ArrayList") (x := ({ cls := "java/util/List", name := "size", desc := "()I" } : Jvm.MethodName)) (ci := 24) (r := ("java/util/ArrayList", kT24, 3)) rfl rfl rfl ok15 rfl rfl (by decide) (List.mem_of_getElem? (i := 4) rfl) wd2073 wd2078 wd2076 D180_12.1) (?_ : rSnd _ _ 17 _)
  refine s_ic D180_17 kc_i_4 (by decide) ?_
  refine s_Ic c_lt (i_lt (tg := 27) (by decide)) D180_18.1 P180_27 (?_ : rSnd _ _ 21 _)
  exact rSnd_none
theorem D181_0 : rDec M181 0 (.aload_n 0) 1 1 := ⟨by decide +kernel, rfl⟩
theorem D181_1 : rDec M181 1 (.iconst 0) 1 2 := ⟨by decide +kernel, rfl⟩
theorem D181_2 : rDec M181 2 (.putfield 145) 3 5 := ⟨by decide +kernel, rfl⟩
theorem D181_5 : rDec M181 5 (.iload_n 1) 1 6 := ⟨by decide +kernel, rfl⟩
theorem D181_6 : rDec M181 6 (.ifCond .lt 16) 3 9 := ⟨by decide +kernel, rfl⟩
theorem D181_9 : rDec M181 9 (.iload_n 1) 1 10 := ⟨by decide +kernel, rfl⟩
theorem D181_10 : rDec M181 10 (.aload_n 0) 1 11 := ⟨by decide +kernel, rfl⟩
theorem D181_11 : rDec M181 11 (.getfield 110) 3 14 := ⟨by decide +kernel, rfl⟩
theorem D181_14 : rDec M181 14 (.invokeinterface 148 1) 5 19 := ⟨by decide +kernel, rfl⟩
theorem D181_19 : rDec M181 19 (.if_icmp .lt 9) 3 22 := ⟨by decide +kernel, rfl⟩
theorem D181_22 : rDec M181 22 (.aload_n 0) 1 23 := ⟨by decide +kernel, rfl⟩
theorem D181_23 : rDec M181 23 (.iconst 1) 1 24 := ⟨by decide +kernel, rfl⟩
theorem D181_24 : rDec M181 24 (.invokevirtual 191) 3 27 := ⟨by decide +kernel, rfl⟩
theorem D181_27 : rDec M181 27 (.ireturn) 1 28 := ⟨by decide +kernel, rfl⟩
theorem P181_22 : rSnd lab M181 22 B181_22 := by
  refine s_Al gk0 (Or.inr ⟨0, D181_22, rfl⟩) ?_
  refine s_ic D181_23 kc_i_1 (by decide) ?_
  refine s_Cv (ln := 3) (kd := 24) (C := "WordWrightModel") (by decide) (by decide +kernel) rfl (l_V rfl ok207 rfl wd2084 wd2086 ws65 D181_24.1) (?_ : rSnd _ _ 27 _)
  exact s_Ri (Or.inl rfl) D181_27.1
theorem P181_0 : rSnd lab M181 0 B181_0 := by
  refine s_Ent ?_
  refine s_Al gk0 (Or.inr ⟨0, D181_0, rfl⟩) ?_
  refine s_ic D181_1 kc_i_0 (by decide) ?_
  refine s_Pf (ci := 11) (r := ("WordWrightModel", kT11, 10)) rfl (show 0 < 10 from by decide) rfl (Or.inl ⟨rfl, Or.inl wd2025⟩) (Or.inl rfl) rfl (by decide) D181_2 ?_
  refine s_Il gk1 (Or.inr ⟨1, D181_5, rfl⟩) ?_
  refine s_If c_lt (fun _ => rfl) (fun _ _ => rfl) (b_lt (tg := 22) (by decide)) D181_6.1 P181_22 (?_ : rSnd _ _ 9 _)
  refine s_Il gk1 (Or.inr ⟨1, D181_9, rfl⟩) ?_
  refine s_Al gk0 (Or.inr ⟨0, D181_10, rfl⟩) ?_
  refine s_Gf (ci := 11) (r := ("WordWrightModel", kT11, 10)) rfl (show 3 < 10 from by decide) rfl (Or.inl wd2031) (Or.inl rfl) rfl D181_11 ?_
  refine s_Cv (ln := 5) (kd := 50) (C := "java/util/ArrayList") (by decide) (by decide +kernel) rfl (l_F (C := "java/util/ArrayList") (x := ({ cls := "java/util/List", name := "size", desc := "()I" } : Jvm.MethodName)) (ci := 24) (r := ("java/util/ArrayList", kT24, 3)) rfl rfl rfl ok15 rfl rfl (by decide) (List.mem_of_getElem? (i := 4) rfl) wd2073 wd2078 wd2076 D181_14.1) (?_ : rSnd _ _ 19 _)
  refine s_Ic c_lt (i_lt (tg := 28) (by decide)) D181_19.1 rSnd_none (?_ : rSnd _ _ 22 _)
  exact P181_22
theorem D182_0 : rDec M182 0 (.aload_n 0) 1 1 := ⟨by decide +kernel, rfl⟩
theorem D182_1 : rDec M182 1 (.iconst 0) 1 2 := ⟨by decide +kernel, rfl⟩
theorem D182_2 : rDec M182 2 (.putfield 145) 3 5 := ⟨by decide +kernel, rfl⟩
theorem D182_5 : rDec M182 5 (.iload_n 1) 1 6 := ⟨by decide +kernel, rfl⟩
theorem D182_6 : rDec M182 6 (.ifCond .lt 16) 3 9 := ⟨by decide +kernel, rfl⟩
theorem D182_9 : rDec M182 9 (.iload_n 1) 1 10 := ⟨by decide +kernel, rfl⟩
theorem D182_10 : rDec M182 10 (.aload_n 0) 1 11 := ⟨by decide +kernel, rfl⟩
theorem D182_11 : rDec M182 11 (.getfield 106) 3 14 := ⟨by decide +kernel, rfl⟩
theorem D182_14 : rDec M182 14 (.invokeinterface 148 1) 5 19 := ⟨by decide +kernel, rfl⟩
theorem D182_19 : rDec M182 19 (.if_icmp .lt 17) 3 22 := ⟨by decide +kernel, rfl⟩
theorem D182_22 : rDec M182 22 (.aload_n 0) 1 23 := ⟨by decide +kernel, rfl⟩
theorem D182_23 : rDec M182 23 (.iconst 1) 1 24 := ⟨by decide +kernel, rfl⟩
theorem D182_24 : rDec M182 24 (.invokevirtual 191) 3 27 := ⟨by decide +kernel, rfl⟩
theorem D182_27 : rDec M182 27 (.ifCond .le 7) 3 30 := ⟨by decide +kernel, rfl⟩
theorem D182_34 : rDec M182 34 (.iconst 0) 1 35 := ⟨by decide +kernel, rfl⟩
theorem D182_35 : rDec M182 35 (.ireturn) 1 36 := ⟨by decide +kernel, rfl⟩
theorem D182_36 : rDec M182 36 (.aload_n 0) 1 37 := ⟨by decide +kernel, rfl⟩
theorem D182_37 : rDec M182 37 (.getfield 106) 3 40 := ⟨by decide +kernel, rfl⟩
theorem D182_40 : rDec M182 40 (.iload_n 1) 1 41 := ⟨by decide +kernel, rfl⟩
theorem D182_41 : rDec M182 41 (.invokeinterface 155 2) 5 46 := ⟨by decide +kernel, rfl⟩
theorem D182_46 : rDec M182 46 (.checkcast 26) 3 49 := ⟨by decide +kernel, rfl⟩
theorem D182_49 : rDec M182 49 (.astore_n 3) 1 50 := ⟨by decide +kernel, rfl⟩
theorem D182_50 : rDec M182 50 (.iload_n 2) 1 51 := ⟨by decide +kernel, rfl⟩
theorem D182_51 : rDec M182 51 (.invokestatic 235) 3 54 := ⟨by decide +kernel, rfl⟩
theorem D182_54 : rDec M182 54 (.ifCond .ne 17) 3 57 := ⟨by decide +kernel, rfl⟩
theorem D182_57 : rDec M182 57 (.aload_n 0) 1 58 := ⟨by decide +kernel, rfl⟩
theorem D182_58 : rDec M182 58 (.iconst 2) 1 59 := ⟨by decide +kernel, rfl⟩
theorem D182_59 : rDec M182 59 (.invokevirtual 191) 3 62 := ⟨by decide +kernel, rfl⟩
theorem D182_62 : rDec M182 62 (.ifCond .le 7) 3 65 := ⟨by decide +kernel, rfl⟩
theorem D182_69 : rDec M182 69 (.iconst 0) 1 70 := ⟨by decide +kernel, rfl⟩
theorem D182_70 : rDec M182 70 (.ireturn) 1 71 := ⟨by decide +kernel, rfl⟩
theorem D182_71 : rDec M182 71 (.aload_n 3) 1 72 := ⟨by decide +kernel, rfl⟩
theorem D182_72 : rDec M182 72 (.iload_n 2) 1 73 := ⟨by decide +kernel, rfl⟩
theorem D182_73 : rDec M182 73 (.invokevirtual 239) 3 76 := ⟨by decide +kernel, rfl⟩
theorem D182_76 : rDec M182 76 (.ireturn) 1 77 := ⟨by decide +kernel, rfl⟩
theorem P182_71 : rSnd lab M182 71 B182_71 := by
  refine s_Al gk3 (Or.inr ⟨3, D182_71, rfl⟩) ?_
  refine s_Il gk2 (Or.inr ⟨2, D182_72, rfl⟩) ?_
  refine s_Cv (ln := 3) (kd := 40) (C := "WordWrightModel$Dfa") (by decide) (by decide +kernel) rfl (l_V rfl ok148 rfl wd2396 wd2397 wd2398 D182_73.1) (?_ : rSnd _ _ 76 _)
  exact s_Ri (Or.inr ⟨rfl, by decide⟩) D182_76.1
theorem P182_69 : rSnd lab M182 69 B182_69 := by
  refine s_ic D182_69 kc_i_0 (by decide) ?_
  exact s_Ri (Or.inr ⟨rfl, by decide⟩) D182_70.1
theorem P182_36 : rSnd lab M182 36 B182_36 := by
  refine s_Al gk0 (Or.inr ⟨0, D182_36, rfl⟩) ?_
  refine s_Gf (ci := 11) (r := ("WordWrightModel", kT11, 10)) rfl (show 2 < 10 from by decide) rfl (Or.inl wd2029) (Or.inl rfl) rfl D182_37 ?_
  refine s_Il gk1 (Or.inr ⟨1, D182_40, rfl⟩) ?_
  refine s_Cv (ln := 5) (kd := 50) (C := "java/util/ArrayList") (by decide) (by decide +kernel) rfl (l_F (C := "java/util/ArrayList") (x := ({ cls := "java/util/List", name := "get", desc := "(I)Ljava/lang/Object;" } : Jvm.MethodName)) (ci := 24) (r := ("java/util/ArrayList", kT24, 3)) rfl rfl rfl ok10 rfl rfl (by decide) (List.mem_of_getElem? (i := 2) rfl) wd2093 wd2098 wd2096 D182_41.1) (?_ : rSnd _ _ 46 _)
  refine s_Cst (C := "WordWrightModel$Dfa") (cst_ok (kd := 40) (by decide) (by decide +kernel)) rfl wd2111 D182_46 ?_
  refine s_As sk3 (show 3 < 4 from by decide) (Or.inr ⟨3, D182_49, rfl⟩) ?_
  refine s_Il gk2 (Or.inr ⟨2, D182_50, rfl⟩) ?_
  refine s_Cs (id := 255) rfl (l_S rfl ok189 rfl wd2393 wd2394 D182_51.1) (?_ : rSnd _ _ 54 _)
  refine s_If c_ne (fun _ => rfl) (fun _ _ => rfl) (b_ne (tg := 71) (by decide)) D182_54.1 P182_71 (?_ : rSnd _ _ 57 _)
  refine s_Al gk0 (Or.inr ⟨0, D182_57, rfl⟩) ?_
  refine s_ic D182_58 kc_i_2 (by decide) ?_
  refine s_Cv (ln := 3) (kd := 24) (C := "WordWrightModel") (by decide) (by decide +kernel) rfl (l_V rfl ok207 rfl wd2084 wd2086 ws65 D182_59.1) (?_ : rSnd _ _ 62 _)
  refine s_If c_le (fun _ => rfl) (fun _ _ => rfl) (b_le (tg := 69) (by decide)) D182_62.1 P182_69 (?_ : rSnd _ _ 65 _)
  exact rSnd_none
theorem P182_34 : rSnd lab M182 34 B182_34 := by
  refine s_ic D182_34 kc_i_0 (by decide) ?_
  exact s_Ri (Or.inr ⟨rfl, by decide⟩) D182_35.1
theorem P182_22 : rSnd lab M182 22 B182_22 := by
  refine s_Al gk0 (Or.inr ⟨0, D182_22, rfl⟩) ?_
  refine s_ic D182_23 kc_i_1 (by decide) ?_
  refine s_Cv (ln := 3) (kd := 24) (C := "WordWrightModel") (by decide) (by decide +kernel) rfl (l_V rfl ok207 rfl wd2084 wd2086 ws65 D182_24.1) (?_ : rSnd _ _ 27 _)
  refine s_If c_le (fun _ => rfl) (fun _ _ => rfl) (b_le (tg := 34) (by decide)) D182_27.1 P182_34 (?_ : rSnd _ _ 30 _)
  exact rSnd_none
theorem P182_0 : rSnd lab M182 0 B182_0 := by
  refine s_Ent ?_
  refine s_Al gk0 (Or.inr ⟨0, D182_0, rfl⟩) ?_
  refine s_ic D182_1 kc_i_0 (by decide) ?_
  refine s_Pf (ci := 11) (r := ("WordWrightModel", kT11, 10)) rfl (show 0 < 10 from by decide) rfl (Or.inl ⟨rfl, Or.inl wd2025⟩) (Or.inl rfl) rfl (by decide) D182_2 ?_
  refine s_Il gk1 (Or.inr ⟨1, D182_5, rfl⟩) ?_
  refine s_If c_lt (fun _ => rfl) (fun _ _ => rfl) (b_lt (tg := 22) (by decide)) D182_6.1 P182_22 (?_ : rSnd _ _ 9 _)
  refine s_Il gk1 (Or.inr ⟨1, D182_9, rfl⟩) ?_
  refine s_Al gk0 (Or.inr ⟨0, D182_10, rfl⟩) ?_
  refine s_Gf (ci := 11) (r := ("WordWrightModel", kT11, 10)) rfl (show 2 < 10 from by decide) rfl (Or.inl wd2029) (Or.inl rfl) rfl D182_11 ?_
  refine s_Cv (ln := 5) (kd := 50) (C := "java/util/ArrayList") (by decide) (by decide +kernel) rfl (l_F (C := "java/util/ArrayList") (x := ({ cls := "java/util/List", name := "size", desc := "()I" } : Jvm.MethodName)) (ci := 24) (r := ("java/util/ArrayList", kT24, 3)) rfl rfl rfl ok15 rfl rfl (by decide) (List.mem_of_getElem? (i := 4) rfl) wd2073 wd2078 wd2076 D182_14.1) (?_ : rSnd _ _ 19 _)
  refine s_Ic c_lt (i_lt (tg := 36) (by decide)) D182_19.1 P182_36 (?_ : rSnd _ _ 22 _)
  exact P182_22
theorem D183_0 : rDec M183 0 (.aload_n 0) 1 1 := ⟨by decide +kernel, rfl⟩
theorem D183_1 : rDec M183 1 (.invokevirtual 49) 3 4 := ⟨by decide +kernel, rfl⟩
theorem D183_4 : rDec M183 4 (.astore_n 1) 1 5 := ⟨by decide +kernel, rfl⟩
theorem D183_5 : rDec M183 5 (.new 53) 3 8 := ⟨by decide +kernel, rfl⟩
theorem D183_8 : rDec M183 8 (.dup) 1 9 := ⟨by decide +kernel, rfl⟩
theorem D183_9 : rDec M183 9 (.aload_n 0) 1 10 := ⟨by decide +kernel, rfl⟩
theorem D183_10 : rDec M183 10 (.aload_n 1) 1 11 := ⟨by decide +kernel, rfl⟩
theorem D183_11 : rDec M183 11 (.invokespecial 55) 3 14 := ⟨by decide +kernel, rfl⟩
theorem D183_14 : rDec M183 14 (.invokevirtual 58) 3 17 := ⟨by decide +kernel, rfl⟩
theorem D183_17 : rDec M183 17 (.areturn) 1 18 := ⟨by decide +kernel, rfl⟩
theorem P183_0 : rSnd lab M183 0 B183_0 := by
  refine s_Ent ?_
  refine s_Al gk0 (Or.inr ⟨0, D183_0, rfl⟩) ?_
  refine s_Cv (ln := 3) (kd := 40) (C := "WordWrightModel$Dfa") (by decide) (by decide +kernel) rfl (l_V rfl ok151 rfl wd2187 wd2188 wd2189 D183_1.1) (?_ : rSnd _ _ 4 _)
  refine s_As sk1 (show 1 < 2 from by decide) (Or.inr ⟨1, D183_4, rfl⟩) ?_
  refine s_New (ci := 17) (r := ("WordWrightModel$6", kT17, 2)) rfl rfl wd2192 wd2193 wd35 kr17 D183_5 ?_
  refine s_Dup D183_8 ?_
  refine s_Al gk0 (Or.inr ⟨0, D183_9, rfl⟩) ?_
  refine s_Al gk1 (Or.inr ⟨1, D183_10, rfl⟩) ?_
  refine s_Ci (id := 159) rfl (l_I rfl ok136 rfl rfl rfl wd2194 wd2195 D183_11.1) (?_ : rSnd _ _ 14 _)
  refine s_Cv (ln := 3) (kd := 36) (C := "WordWrightModel$6") (by decide) (by decide +kernel) rfl (l_U (C := "WordWrightModel$6") (owner := "WordWrightModel$Walk") (x := ({ cls := "WordWrightModel$6", name := "smallest", desc := "()LWordWrightModel$Dfa;" } : Jvm.MethodName)) rfl ok169 rfl rfl wd2205 wd2206 wd1695 wd2207 D183_14.1) (?_ : rSnd _ _ 17 _)
  exact s_Ra (Or.inl ⟨_, rfl⟩) D183_17.1
theorem D184_0 : rDec M184 0 (.aload_n 0) 1 1 := ⟨by decide +kernel, rfl⟩
theorem D184_1 : rDec M184 1 (.iconst 0) 1 2 := ⟨by decide +kernel, rfl⟩
theorem D184_2 : rDec M184 2 (.putfield 145) 3 5 := ⟨by decide +kernel, rfl⟩
theorem D184_5 : rDec M184 5 (.iload_n 1) 1 6 := ⟨by decide +kernel, rfl⟩
theorem D184_6 : rDec M184 6 (.ifCond .lt 16) 3 9 := ⟨by decide +kernel, rfl⟩
theorem D184_9 : rDec M184 9 (.iload_n 1) 1 10 := ⟨by decide +kernel, rfl⟩
theorem D184_10 : rDec M184 10 (.aload_n 0) 1 11 := ⟨by decide +kernel, rfl⟩
theorem D184_11 : rDec M184 11 (.getfield 106) 3 14 := ⟨by decide +kernel, rfl⟩
theorem D184_14 : rDec M184 14 (.invokeinterface 148 1) 5 19 := ⟨by decide +kernel, rfl⟩
theorem D184_19 : rDec M184 19 (.if_icmp .lt 9) 3 22 := ⟨by decide +kernel, rfl⟩
theorem D184_22 : rDec M184 22 (.aload_n 0) 1 23 := ⟨by decide +kernel, rfl⟩
theorem D184_23 : rDec M184 23 (.iconst 1) 1 24 := ⟨by decide +kernel, rfl⟩
theorem D184_24 : rDec M184 24 (.invokevirtual 191) 3 27 := ⟨by decide +kernel, rfl⟩
theorem D184_27 : rDec M184 27 (.ireturn) 1 28 := ⟨by decide +kernel, rfl⟩
theorem D184_28 : rDec M184 28 (.aload_n 0) 1 29 := ⟨by decide +kernel, rfl⟩
theorem D184_29 : rDec M184 29 (.getfield 106) 3 32 := ⟨by decide +kernel, rfl⟩
theorem D184_32 : rDec M184 32 (.iload_n 1) 1 33 := ⟨by decide +kernel, rfl⟩
theorem D184_33 : rDec M184 33 (.invokeinterface 155 2) 5 38 := ⟨by decide +kernel, rfl⟩
theorem D184_38 : rDec M184 38 (.checkcast 26) 3 41 := ⟨by decide +kernel, rfl⟩
theorem D184_41 : rDec M184 41 (.astore_n 3) 1 42 := ⟨by decide +kernel, rfl⟩
theorem D184_42 : rDec M184 42 (.iload_n 2) 1 43 := ⟨by decide +kernel, rfl⟩
theorem D184_43 : rDec M184 43 (.bipush 13) 2 45 := ⟨by decide +kernel, rfl⟩
theorem D184_45 : rDec M184 45 (.invokestatic 151) 3 48 := ⟨by decide +kernel, rfl⟩
theorem D184_48 : rDec M184 48 (.ifCond .ne 9) 3 51 := ⟨by decide +kernel, rfl⟩
theorem D184_51 : rDec M184 51 (.aload_n 0) 1 52 := ⟨by decide +kernel, rfl⟩
theorem D184_52 : rDec M184 52 (.iconst 2) 1 53 := ⟨by decide +kernel, rfl⟩
theorem D184_53 : rDec M184 53 (.invokevirtual 191) 3 56 := ⟨by decide +kernel, rfl⟩
theorem D184_56 : rDec M184 56 (.ireturn) 1 57 := ⟨by decide +kernel, rfl⟩
theorem D184_57 : rDec M184 57 (.aload_n 3) 1 58 := ⟨by decide +kernel, rfl⟩
theorem D184_58 : rDec M184 58 (.iload_n 2) 1 59 := ⟨by decide +kernel, rfl⟩
theorem D184_59 : rDec M184 59 (.invokestatic 242) 3 62 := ⟨by decide +kernel, rfl⟩
theorem D184_62 : rDec M184 62 (.ireturn) 1 63 := ⟨by decide +kernel, rfl⟩
theorem P184_57 : rSnd lab M184 57 B184_57 := by
  refine s_Al gk3 (Or.inr ⟨3, D184_57, rfl⟩) ?_
  refine s_Il gk2 (Or.inr ⟨2, D184_58, rfl⟩) ?_
  refine s_Cs (id := 229) rfl (l_S rfl ok177 rfl wd2407 wd2408 D184_59.1) (?_ : rSnd _ _ 62 _)
  exact s_Ri (Or.inl rfl) D184_62.1
theorem P184_28 : rSnd lab M184 28 B184_28 := by
  refine s_Al gk0 (Or.inr ⟨0, D184_28, rfl⟩) ?_
  refine s_Gf (ci := 11) (r := ("WordWrightModel", kT11, 10)) rfl (show 2 < 10 from by decide) rfl (Or.inl wd2029) (Or.inl rfl) rfl D184_29 ?_
  refine s_Il gk1 (Or.inr ⟨1, D184_32, rfl⟩) ?_
  refine s_Cv (ln := 5) (kd := 50) (C := "java/util/ArrayList") (by decide) (by decide +kernel) rfl (l_F (C := "java/util/ArrayList") (x := ({ cls := "java/util/List", name := "get", desc := "(I)Ljava/lang/Object;" } : Jvm.MethodName)) (ci := 24) (r := ("java/util/ArrayList", kT24, 3)) rfl rfl rfl ok10 rfl rfl (by decide) (List.mem_of_getElem? (i := 2) rfl) wd2093 wd2098 wd2096 D184_33.1) (?_ : rSnd _ _ 38 _)
  refine s_Cst (C := "WordWrightModel$Dfa") (cst_ok (kd := 40) (by decide) (by decide +kernel)) rfl wd2111 D184_38 ?_
  refine s_As sk3 (show 3 < 4 from by decide) (Or.inr ⟨3, D184_41, rfl⟩) ?_
  refine s_Il gk2 (Or.inr ⟨2, D184_42, rfl⟩) ?_
  refine s_bi D184_43 kc_b_13 (by decide) ?_
  refine s_Cs (id := 250) rfl (l_S rfl ok185 rfl wd2081 wd2082 D184_45.1) (?_ : rSnd _ _ 48 _)
  refine s_If c_ne (fun _ => rfl) (fun _ _ => rfl) (b_ne (tg := 57) (by decide)) D184_48.1 P184_57 (?_ : rSnd _ _ 51 _)
  refine s_Al gk0 (Or.inr ⟨0, D184_51, rfl⟩) ?_
  refine s_ic D184_52 kc_i_2 (by decide) ?_
  refine s_Cv (ln := 3) (kd := 24) (C := "WordWrightModel") (by decide) (by decide +kernel) rfl (l_V rfl ok207 rfl wd2084 wd2086 ws65 D184_53.1) (?_ : rSnd _ _ 56 _)
  exact s_Ri (Or.inl rfl) D184_56.1
theorem P184_22 : rSnd lab M184 22 B184_22 := by
  refine s_Al gk0 (Or.inr ⟨0, D184_22, rfl⟩) ?_
  refine s_ic D184_23 kc_i_1 (by decide) ?_
  refine s_Cv (ln := 3) (kd := 24) (C := "WordWrightModel") (by decide) (by decide +kernel) rfl (l_V rfl ok207 rfl wd2084 wd2086 ws65 D184_24.1) (?_ : rSnd _ _ 27 _)
  exact s_Ri (Or.inl rfl) D184_27.1
theorem P184_0 : rSnd lab M184 0 B184_0 := by
  refine s_Ent ?_
  refine s_Al gk0 (Or.inr ⟨0, D184_0, rfl⟩) ?_
  refine s_ic D184_1 kc_i_0 (by decide) ?_
  refine s_Pf (ci := 11) (r := ("WordWrightModel", kT11, 10)) rfl (show 0 < 10 from by decide) rfl (Or.inl ⟨rfl, Or.inl wd2025⟩) (Or.inl rfl) rfl (by decide) D184_2 ?_
  refine s_Il gk1 (Or.inr ⟨1, D184_5, rfl⟩) ?_
  refine s_If c_lt (fun _ => rfl) (fun _ _ => rfl) (b_lt (tg := 22) (by decide)) D184_6.1 P184_22 (?_ : rSnd _ _ 9 _)
  refine s_Il gk1 (Or.inr ⟨1, D184_9, rfl⟩) ?_
  refine s_Al gk0 (Or.inr ⟨0, D184_10, rfl⟩) ?_
  refine s_Gf (ci := 11) (r := ("WordWrightModel", kT11, 10)) rfl (show 2 < 10 from by decide) rfl (Or.inl wd2029) (Or.inl rfl) rfl D184_11 ?_
  refine s_Cv (ln := 5) (kd := 50) (C := "java/util/ArrayList") (by decide) (by decide +kernel) rfl (l_F (C := "java/util/ArrayList") (x := ({ cls := "java/util/List", name := "size", desc := "()I" } : Jvm.MethodName)) (ci := 24) (r := ("java/util/ArrayList", kT24, 3)) rfl rfl rfl ok15 rfl rfl (by decide) (List.mem_of_getElem? (i := 4) rfl) wd2073 wd2078 wd2076 D184_14.1) (?_ : rSnd _ _ 19 _)
  refine s_Ic c_lt (i_lt (tg := 28) (by decide)) D184_19.1 P184_28 (?_ : rSnd _ _ 22 _)
  exact P184_22
theorem D185_0 : rDec M185 0 (.iload_n 0) 1 1 := ⟨by decide +kernel, rfl⟩
theorem D185_1 : rDec M185 1 (.ifCond .lt 12) 3 4 := ⟨by decide +kernel, rfl⟩
theorem D185_4 : rDec M185 4 (.iload_n 0) 1 5 := ⟨by decide +kernel, rfl⟩
theorem D185_5 : rDec M185 5 (.iload_n 1) 1 6 := ⟨by decide +kernel, rfl⟩
theorem D185_6 : rDec M185 6 (.if_icmp .ge 7) 3 9 := ⟨by decide +kernel, rfl⟩
theorem D185_9 : rDec M185 9 (.iconst 1) 1 10 := ⟨by decide +kernel, rfl⟩
theorem D185_10 : rDec M185 10 (.goto 4) 3 13 := ⟨by decide +kernel, rfl⟩
theorem D185_13 : rDec M185 13 (.iconst 0) 1 14 := ⟨by decide +kernel, rfl⟩
theorem D185_14 : rDec M185 14 (.ireturn) 1 15 := ⟨by decide +kernel, rfl⟩
theorem P185_14 : rSnd lab M185 14 B185_14 := by
  exact s_Ri (Or.inr ⟨rfl, by decide⟩) D185_14.1
theorem P185_13 : rSnd lab M185 13 B185_13 := by
  refine s_ic D185_13 kc_i_0 (by decide) ?_
  exact P185_14
theorem P185_0 : rSnd lab M185 0 B185_0 := by
  refine s_Ent ?_
  refine s_Il gk0 (Or.inr ⟨0, D185_0, rfl⟩) ?_
  refine s_If c_lt (fun _ => rfl) (fun _ _ => rfl) (b_lt (tg := 13) (by decide)) D185_1.1 P185_13 (?_ : rSnd _ _ 4 _)
  refine s_Il gk0 (Or.inr ⟨0, D185_4, rfl⟩) ?_
  refine s_Il gk1 (Or.inr ⟨1, D185_5, rfl⟩) ?_
  refine s_Ic c_ge (i_ge (tg := 13) (by decide)) D185_6.1 P185_13 (?_ : rSnd _ _ 9 _)
  refine s_ic D185_9 kc_i_1 (by decide) ?_
  exact s_Go (pc' := 14) D185_10.1 (by decide) P185_14
theorem D186_0 : rDec M186 0 (.aload_n 0) 1 1 := ⟨by decide +kernel, rfl⟩
theorem D186_1 : rDec M186 1 (.invokespecial 90) 3 4 := ⟨by decide +kernel, rfl⟩
theorem D186_4 : rDec M186 4 (.aload_n 0) 1 5 := ⟨by decide +kernel, rfl⟩
theorem D186_5 : rDec M186 5 (.iconst 3) 1 6 := ⟨by decide +kernel, rfl⟩
theorem D186_6 : rDec M186 6 (.iconst 0) 1 7 := ⟨by decide +kernel, rfl⟩
theorem D186_7 : rDec M186 7 (.invokestatic 95) 3 10 := ⟨by decide +kernel, rfl⟩
theorem D186_10 : rDec M186 10 (.putfield 99) 3 13 := ⟨by decide +kernel, rfl⟩
theorem D186_13 : rDec M186 13 (.aload_n 0) 1 14 := ⟨by decide +kernel, rfl⟩
theorem D186_14 : rDec M186 14 (.new 103) 3 17 := ⟨by decide +kernel, rfl⟩
theorem D186_17 : rDec M186 17 (.dup) 1 18 := ⟨by decide +kernel, rfl⟩
theorem D186_18 : rDec M186 18 (.invokespecial 105) 3 21 := ⟨by decide +kernel, rfl⟩
theorem D186_21 : rDec M186 21 (.putfield 106) 3 24 := ⟨by decide +kernel, rfl⟩
theorem D186_24 : rDec M186 24 (.aload_n 0) 1 25 := ⟨by decide +kernel, rfl⟩
theorem D186_25 : rDec M186 25 (.new 103) 3 28 := ⟨by decide +kernel, rfl⟩
theorem D186_28 : rDec M186 28 (.dup) 1 29 := ⟨by decide +kernel, rfl⟩
theorem D186_29 : rDec M186 29 (.invokespecial 105) 3 32 := ⟨by decide +kernel, rfl⟩
theorem D186_32 : rDec M186 32 (.putfield 110) 3 35 := ⟨by decide +kernel, rfl⟩
theorem D186_35 : rDec M186 35 (.aload_n 0) 1 36 := ⟨by decide +kernel, rfl⟩
theorem D186_36 : rDec M186 36 (.new 113) 3 39 := ⟨by decide +kernel, rfl⟩
theorem D186_39 : rDec M186 39 (.dup) 1 40 := ⟨by decide +kernel, rfl⟩
theorem D186_40 : rDec M186 40 (.invokespecial 115) 3 43 := ⟨by decide +kernel, rfl⟩
theorem D186_43 : rDec M186 43 (.putfield 116) 3 46 := ⟨by decide +kernel, rfl⟩
theorem D186_46 : rDec M186 46 (.aload_n 0) 1 47 := ⟨by decide +kernel, rfl⟩
theorem D186_47 : rDec M186 47 (.new 103) 3 50 := ⟨by decide +kernel, rfl⟩
theorem D186_50 : rDec M186 50 (.dup) 1 51 := ⟨by decide +kernel, rfl⟩
theorem D186_51 : rDec M186 51 (.invokespecial 105) 3 54 := ⟨by decide +kernel, rfl⟩
theorem D186_54 : rDec M186 54 (.putfield 120) 3 57 := ⟨by decide +kernel, rfl⟩
theorem D186_57 : rDec M186 57 (.aload_n 0) 1 58 := ⟨by decide +kernel, rfl⟩
theorem D186_58 : rDec M186 58 (.bipush 30) 2 60 := ⟨by decide +kernel, rfl⟩
theorem D186_60 : rDec M186 60 (.newarray .int) 2 62 := ⟨by decide +kernel, rfl⟩
theorem D186_62 : rDec M186 62 (.putfield 123) 3 65 := ⟨by decide +kernel, rfl⟩
theorem D186_65 : rDec M186 65 (.aload_n 0) 1 66 := ⟨by decide +kernel, rfl⟩
theorem D186_66 : rDec M186 66 (.bipush 30) 2 68 := ⟨by decide +kernel, rfl⟩
theorem D186_68 : rDec M186 68 (.newarray .int) 2 70 := ⟨by decide +kernel, rfl⟩
theorem D186_70 : rDec M186 70 (.putfield 127) 3 73 := ⟨by decide +kernel, rfl⟩
theorem D186_73 : rDec M186 73 (.aload_n 0) 1 74 := ⟨by decide +kernel, rfl⟩
theorem D186_74 : rDec M186 74 (.new 103) 3 77 := ⟨by decide +kernel, rfl⟩
theorem D186_77 : rDec M186 77 (.dup) 1 78 := ⟨by decide +kernel, rfl⟩
theorem D186_78 : rDec M186 78 (.invokespecial 105) 3 81 := ⟨by decide +kernel, rfl⟩
theorem D186_81 : rDec M186 81 (.putfield 130) 3 84 := ⟨by decide +kernel, rfl⟩
theorem D186_84 : rDec M186 84 (.aload_n 0) 1 85 := ⟨by decide +kernel, rfl⟩
theorem D186_85 : rDec M186 85 (.getfield 106) 3 88 := ⟨by decide +kernel, rfl⟩
theorem D186_88 : rDec M186 88 (.iconst 0) 1 89 := ⟨by decide +kernel, rfl⟩
theorem D186_89 : rDec M186 89 (.iconst 0) 1 90 := ⟨by decide +kernel, rfl⟩
theorem D186_90 : rDec M186 90 (.invokestatic 95) 3 93 := ⟨by decide +kernel, rfl⟩
theorem D186_93 : rDec M186 93 (.invokeinterface 133 2) 5 98 := ⟨by decide +kernel, rfl⟩
theorem D186_98 : rDec M186 98 (.pop) 1 99 := ⟨by decide +kernel, rfl⟩
theorem D186_99 : rDec M186 99 (.aload_n 0) 1 100 := ⟨by decide +kernel, rfl⟩
theorem D186_100 : rDec M186 100 (.getfield 106) 3 103 := ⟨by decide +kernel, rfl⟩
theorem D186_103 : rDec M186 103 (.aload_n 0) 1 104 := ⟨by decide +kernel, rfl⟩
theorem D186_104 : rDec M186 104 (.getfield 99) 3 107 := ⟨by decide +kernel, rfl⟩
theorem D186_107 : rDec M186 107 (.invokeinterface 133 2) 5 112 := ⟨by decide +kernel, rfl⟩
theorem D186_112 : rDec M186 112 (.pop) 1 113 := ⟨by decide +kernel, rfl⟩
theorem D186_113 : rDec M186 113 (.iconst 0) 1 114 := ⟨by decide +kernel, rfl⟩
theorem D186_114 : rDec M186 114 (.istore_n 1) 1 115 := ⟨by decide +kernel, rfl⟩
theorem D186_115 : rDec M186 115 (.iload_n 1) 1 116 := ⟨by decide +kernel, rfl⟩
theorem D186_116 : rDec M186 116 (.iconst 4) 1 117 := ⟨by decide +kernel, rfl⟩
theorem D186_117 : rDec M186 117 (.if_icmp .ge 32) 3 120 := ⟨by decide +kernel, rfl⟩
theorem D186_120 : rDec M186 120 (.aload_n 0) 1 121 := ⟨by decide +kernel, rfl⟩
theorem D186_121 : rDec M186 121 (.getfield 116) 3 124 := ⟨by decide +kernel, rfl⟩
theorem D186_124 : rDec M186 124 (.getfield 139) 3 127 := ⟨by decide +kernel, rfl⟩
theorem D186_127 : rDec M186 127 (.iload_n 1) 1 128 := ⟨by decide +kernel, rfl⟩
theorem D186_128 : rDec M186 128 (.aload_n 0) 1 129 := ⟨by decide +kernel, rfl⟩
theorem D186_129 : rDec M186 129 (.getfield 99) 3 132 := ⟨by decide +kernel, rfl⟩
theorem D186_132 : rDec M186 132 (.aastore) 1 133 := ⟨by decide +kernel, rfl⟩
theorem D186_133 : rDec M186 133 (.aload_n 0) 1 134 := ⟨by decide +kernel, rfl⟩
theorem D186_134 : rDec M186 134 (.getfield 116) 3 137 := ⟨by decide +kernel, rfl⟩
theorem D186_137 : rDec M186 137 (.getfield 142) 3 140 := ⟨by decide +kernel, rfl⟩
theorem D186_140 : rDec M186 140 (.iload_n 1) 1 141 := ⟨by decide +kernel, rfl⟩
theorem D186_141 : rDec M186 141 (.iconst 1) 1 142 := ⟨by decide +kernel, rfl⟩
theorem D186_142 : rDec M186 142 (.iastore) 1 143 := ⟨by decide +kernel, rfl⟩
theorem D186_143 : rDec M186 143 (.iinc 1 1) 3 146 := ⟨by decide +kernel, rfl⟩
theorem D186_146 : rDec M186 146 (.goto (-31)) 3 149 := ⟨by decide +kernel, rfl⟩
theorem D186_149 : rDec M186 149 (.return_) 1 150 := ⟨by decide +kernel, rfl⟩
theorem P186_149 : rSnd lab M186 149 B186_149 := by
  exact s_Rv rfl D186_149.1
theorem P186_115 : rSnd lab M186 115 B186_115 := by
  refine s_Il gk1 (Or.inr ⟨1, D186_115, rfl⟩) ?_
  refine s_ic D186_116 kc_i_4 (by decide) ?_
  refine s_Ic c_ge (i_ge (tg := 149) (by decide)) D186_117.1 P186_149 (?_ : rSnd _ _ 120 _)
  refine s_Al gk0 (Or.inr ⟨0, D186_120, rfl⟩) ?_
  refine s_Gf (ci := 11) (r := ("WordWrightModel", kT11, 10)) rfl (show 4 < 10 from by decide) rfl (Or.inl wd2032) (Or.inl rfl) rfl D186_121 ?_
  refine s_Gf (ci := 20) (r := ("WordWrightModel$Equations", kT20, 6)) rfl (show 1 < 6 from by decide) rfl (Or.inl wd1929) (Or.inl rfl) rfl D186_124 ?_
  refine s_Il gk1 (Or.inr ⟨1, D186_127, rfl⟩) ?_
  refine s_Al gk0 (Or.inr ⟨0, D186_128, rfl⟩) ?_
  refine s_Gf (ci := 11) (r := ("WordWrightModel", kT11, 10)) rfl (show 1 < 10 from by decide) rfl (Or.inl wd2027) (Or.inl rfl) rfl D186_129 ?_
  refine s_Aas okAs_ok D186_132 ?_
  refine s_Al gk0 (Or.inr ⟨0, D186_133, rfl⟩) ?_
  refine s_Gf (ci := 11) (r := ("WordWrightModel", kT11, 10)) rfl (show 4 < 10 from by decide) rfl (Or.inl wd2032) (Or.inl rfl) rfl D186_134 ?_
  refine s_Gf (ci := 20) (r := ("WordWrightModel$Equations", kT20, 6)) rfl (show 2 < 6 from by decide) rfl (Or.inl wd1931) (Or.inl rfl) rfl D186_137 ?_
  refine s_Il gk1 (Or.inr ⟨1, D186_140, rfl⟩) ?_
  refine s_ic D186_141 kc_i_1 (by decide) ?_
  refine s_Ast (t := 0) rfl q_iast rfl (by decide) D186_142 ?_
  refine s_Inc gk1 sk1 (show 1 < 2 from by decide) kc_i_1 D186_143 ?_
  exact s_Go (pc' := 115) D186_146.1 (by decide) (s_Jb rfl)
theorem P186_0 : rSnd lab M186 0 B186_0 := by
  refine s_Ent ?_
  refine s_Al gk0 (Or.inr ⟨0, D186_0, rfl⟩) ?_
  refine s_Oi rfl wd1671 wd62 wd63 D186_1 ?_
  refine s_Al gk0 (Or.inr ⟨0, D186_4, rfl⟩) ?_
  refine s_ic D186_5 kc_i_3 (by decide) ?_
  refine s_ic D186_6 kc_i_0 (by decide) ?_
  refine s_Cs (id := 295) rfl (l_S rfl ok215 rfl wd1672 wd1673 D186_7.1) (?_ : rSnd _ _ 10 _)
  refine s_Pf (ci := 11) (r := ("WordWrightModel", kT11, 10)) rfl (show 1 < 10 from by decide) rfl (Or.inr ⟨rfl, wd2027, rfl, rfl⟩) (Or.inl rfl) rfl (by decide) D186_10 ?_
  refine s_Al gk0 (Or.inr ⟨0, D186_13, rfl⟩) ?_
  refine s_New (ci := 24) (r := ("java/util/ArrayList", kT24, 3)) rfl rfl wd1888 wd1889 wd21 kr24 D186_14 ?_
  refine s_Dup D186_17 ?_
  refine s_Ci (id := 14) rfl (l_I rfl ok13 rfl rfl rfl wd1890 wd1891 D186_18.1) (?_ : rSnd _ _ 21 _)
  refine s_Pf (ci := 11) (r := ("WordWrightModel", kT11, 10)) rfl (show 2 < 10 from by decide) rfl (Or.inr ⟨rfl, wd2029, rfl, rfl⟩) (Or.inl rfl) rfl (by decide) D186_21 ?_
  refine s_Al gk0 (Or.inr ⟨0, D186_24, rfl⟩) ?_
  refine s_New (ci := 24) (r := ("java/util/ArrayList", kT24, 3)) rfl rfl wd1888 wd1889 wd21 kr24 D186_25 ?_
  refine s_Dup D186_28 ?_
  refine s_Ci (id := 14) rfl (l_I rfl ok13 rfl rfl rfl wd1890 wd1891 D186_29.1) (?_ : rSnd _ _ 32 _)
  refine s_Pf (ci := 11) (r := ("WordWrightModel", kT11, 10)) rfl (show 3 < 10 from by decide) rfl (Or.inr ⟨rfl, wd2031, rfl, rfl⟩) (Or.inl rfl) rfl (by decide) D186_32 ?_
  refine s_Al gk0 (Or.inr ⟨0, D186_35, rfl⟩) ?_
  refine s_New (ci := 20) (r := ("WordWrightModel$Equations", kT20, 6)) rfl rfl wd1914 wd1915 wd22 kr20 D186_36 ?_
  refine s_Dup D186_39 ?_
  refine s_Ci (id := 186) rfl (l_IN (j := 22) rfl ok154 rfl rfl rfl rfl wd1917 D186_40.1) (?_ : rSnd _ _ 43 _)
  refine s_Pf (ci := 11) (r := ("WordWrightModel", kT11, 10)) rfl (show 4 < 10 from by decide) rfl (Or.inr ⟨rfl, wd2032, rfl, rfl⟩) (Or.inl rfl) rfl (by decide) D186_43 ?_
  refine s_Al gk0 (Or.inr ⟨0, D186_46, rfl⟩) ?_
  refine s_New (ci := 24) (r := ("java/util/ArrayList", kT24, 3)) rfl rfl wd1888 wd1889 wd21 kr24 D186_47 ?_
  refine s_Dup D186_50 ?_
  refine s_Ci (id := 14) rfl (l_I rfl ok13 rfl rfl rfl wd1890 wd1891 D186_51.1) (?_ : rSnd _ _ 54 _)
  refine s_Pf (ci := 11) (r := ("WordWrightModel", kT11, 10)) rfl (show 5 < 10 from by decide) rfl (Or.inr ⟨rfl, wd2033, rfl, rfl⟩) (Or.inl rfl) rfl (by decide) D186_54 ?_
  refine s_Al gk0 (Or.inr ⟨0, D186_57, rfl⟩) ?_
  refine s_bi D186_58 kc_b_30 (by decide) ?_
  refine s_Nwa (t := 0) rfl (q_newa (at_ := .int) (Or.inl rfl)) (fun ht _ => ht _ wd91) D186_60 ?_
  refine s_Pf (ci := 11) (r := ("WordWrightModel", kT11, 10)) rfl (show 6 < 10 from by decide) rfl (Or.inr ⟨rfl, wd2034, rfl, rfl⟩) (Or.inl rfl) rfl (by decide) D186_62 ?_
  refine s_Al gk0 (Or.inr ⟨0, D186_65, rfl⟩) ?_
  refine s_bi D186_66 kc_b_30 (by decide) ?_
  refine s_Nwa (t := 0) rfl (q_newa (at_ := .int) (Or.inl rfl)) (fun ht _ => ht _ wd91) D186_68 ?_
  refine s_Pf (ci := 11) (r := ("WordWrightModel", kT11, 10)) rfl (show 7 < 10 from by decide) rfl (Or.inr ⟨rfl, wd2035, rfl, rfl⟩) (Or.inl rfl) rfl (by decide) D186_70 ?_
  refine s_Al gk0 (Or.inr ⟨0, D186_73, rfl⟩) ?_
  refine s_New (ci := 24) (r := ("java/util/ArrayList", kT24, 3)) rfl rfl wd1888 wd1889 wd21 kr24 D186_74 ?_
  refine s_Dup D186_77 ?_
  refine s_Ci (id := 14) rfl (l_I rfl ok13 rfl rfl rfl wd1890 wd1891 D186_78.1) (?_ : rSnd _ _ 81 _)
  refine s_Pf (ci := 11) (r := ("WordWrightModel", kT11, 10)) rfl (show 9 < 10 from by decide) rfl (Or.inr ⟨rfl, wd2038, rfl, rfl⟩) (Or.inl rfl) rfl (by decide) D186_81 ?_
  refine s_Al gk0 (Or.inr ⟨0, D186_84, rfl⟩) ?_
  refine s_Gf (ci := 11) (r := ("WordWrightModel", kT11, 10)) rfl (show 2 < 10 from by decide) rfl (Or.inl wd2029) (Or.inl rfl) rfl D186_85 ?_
  refine s_ic D186_88 kc_i_0 (by decide) ?_
  refine s_ic D186_89 kc_i_0 (by decide) ?_
  refine s_Cs (id := 295) rfl (l_S rfl ok215 rfl wd1672 wd1673 D186_90.1) (?_ : rSnd _ _ 93 _)
  refine s_Cv (ln := 5) (kd := 50) (C := "java/util/ArrayList") (by decide) (by decide +kernel) rfl (l_F (C := "java/util/ArrayList") (x := ({ cls := "java/util/List", name := "add", desc := "(Ljava/lang/Object;)Z" } : Jvm.MethodName)) (ci := 24) (r := ("java/util/ArrayList", kT24, 3)) rfl rfl rfl ok7 rfl rfl (by decide) (List.mem_of_getElem? (i := 0) rfl) wd1951 wd1957 wd1955 D186_93.1) (?_ : rSnd _ _ 98 _)
  refine s_Pop D186_98 ?_
  refine s_Al gk0 (Or.inr ⟨0, D186_99, rfl⟩) ?_
  refine s_Gf (ci := 11) (r := ("WordWrightModel", kT11, 10)) rfl (show 2 < 10 from by decide) rfl (Or.inl wd2029) (Or.inl rfl) rfl D186_100 ?_
  refine s_Al gk0 (Or.inr ⟨0, D186_103, rfl⟩) ?_
  refine s_Gf (ci := 11) (r := ("WordWrightModel", kT11, 10)) rfl (show 1 < 10 from by decide) rfl (Or.inl wd2027) (Or.inl rfl) rfl D186_104 ?_
  refine s_Cv (ln := 5) (kd := 50) (C := "java/util/ArrayList") (by decide) (by decide +kernel) rfl (l_F (C := "java/util/ArrayList") (x := ({ cls := "java/util/List", name := "add", desc := "(Ljava/lang/Object;)Z" } : Jvm.MethodName)) (ci := 24) (r := ("java/util/ArrayList", kT24, 3)) rfl rfl rfl ok7 rfl rfl (by decide) (List.mem_of_getElem? (i := 0) rfl) wd1951 wd1957 wd1955 D186_107.1) (?_ : rSnd _ _ 112 _)
  refine s_Pop D186_112 ?_
  refine s_ic D186_113 kc_i_0 (by decide) ?_
  refine s_Is sk1 (show 1 < 2 from by decide) (Or.inr ⟨1, D186_114, rfl⟩) ?_
  exact P186_115
theorem D187_0 : rDec M187 0 (.aload_n 0) 1 1 := ⟨by decide +kernel, rfl⟩
theorem D187_1 : rDec M187 1 (.invokevirtual 214) 3 4 := ⟨by decide +kernel, rfl⟩
theorem D187_4 : rDec M187 4 (.ifCond .ne 15) 3 7 := ⟨by decide +kernel, rfl⟩
theorem D187_7 : rDec M187 7 (.aload_n 0) 1 8 := ⟨by decide +kernel, rfl⟩
theorem D187_8 : rDec M187 8 (.invokestatic 218) 3 11 := ⟨by decide +kernel, rfl⟩
theorem D187_11 : rDec M187 11 (.iconst (-1)) 1 12 := ⟨by decide +kernel, rfl⟩
theorem D187_12 : rDec M187 12 (.if_icmp .ne 7) 3 15 := ⟨by decide +kernel, rfl⟩
theorem D187_15 : rDec M187 15 (.iconst 1) 1 16 := ⟨by decide +kernel, rfl⟩
theorem D187_16 : rDec M187 16 (.goto 4) 3 19 := ⟨by decide +kernel, rfl⟩
theorem D187_19 : rDec M187 19 (.iconst 0) 1 20 := ⟨by decide +kernel, rfl⟩
theorem D187_20 : rDec M187 20 (.ireturn) 1 21 := ⟨by decide +kernel, rfl⟩
theorem P187_20 : rSnd lab M187 20 B187_20 := by
  exact s_Ri (Or.inr ⟨rfl, by decide⟩) D187_20.1
theorem P187_19 : rSnd lab M187 19 B187_19 := by
  refine s_ic D187_19 kc_i_0 (by decide) ?_
  exact P187_20
theorem P187_0 : rSnd lab M187 0 B187_0 := by
  refine s_Ent ?_
  refine s_Al gk0 (Or.inr ⟨0, D187_0, rfl⟩) ?_
  refine s_Cv (ln := 3) (kd := 40) (C := "WordWrightModel$Dfa") (by decide) (by decide +kernel) rfl (l_V rfl ok150 rfl wd2373 wd2374 wd2375 D187_1.1) (?_ : rSnd _ _ 4 _)
  refine s_If c_ne (fun _ => rfl) (fun _ _ => rfl) (b_ne (tg := 19) (by decide)) D187_4.1 P187_19 (?_ : rSnd _ _ 7 _)
  refine s_Al gk0 (Or.inr ⟨0, D187_7, rfl⟩) ?_
  refine s_Cs (id := 270) rfl (l_S rfl ok196 rfl wd2378 wd2379 D187_8.1) (?_ : rSnd _ _ 11 _)
  refine s_ic D187_11 kc_i_m1 (by decide) ?_
  refine s_Ic c_ne (i_ne (tg := 19) (by decide)) D187_12.1 P187_19 (?_ : rSnd _ _ 15 _)
  refine s_ic D187_15 kc_i_1 (by decide) ?_
  exact s_Go (pc' := 20) D187_16.1 (by decide) P187_20
theorem D188_0 : rDec M188 0 (.iload_n 2) 1 1 := ⟨by decide +kernel, rfl⟩
theorem D188_1 : rDec M188 1 (.aload_n 0) 1 2 := ⟨by decide +kernel, rfl⟩
theorem D188_2 : rDec M188 2 (.getfield 106) 3 5 := ⟨by decide +kernel, rfl⟩
theorem D188_5 : rDec M188 5 (.invokeinterface 148 1) 5 10 := ⟨by decide +kernel, rfl⟩
theorem D188_10 : rDec M188 10 (.invokestatic 151) 3 13 := ⟨by decide +kernel, rfl⟩
theorem D188_13 : rDec M188 13 (.istore 4) 2 15 := ⟨by decide +kernel, rfl⟩
theorem D188_15 : rDec M188 15 (.iload_n 3) 1 16 := ⟨by decide +kernel, rfl⟩
theorem D188_16 : rDec M188 16 (.aload_n 0) 1 17 := ⟨by decide +kernel, rfl⟩
theorem D188_17 : rDec M188 17 (.getfield 106) 3 20 := ⟨by decide +kernel, rfl⟩
theorem D188_20 : rDec M188 20 (.invokeinterface 148 1) 5 25 := ⟨by decide +kernel, rfl⟩
theorem D188_25 : rDec M188 25 (.invokestatic 151) 3 28 := ⟨by decide +kernel, rfl⟩
theorem D188_28 : rDec M188 28 (.istore 5) 2 30 := ⟨by decide +kernel, rfl⟩
theorem D188_30 : rDec M188 30 (.iload_n 2) 1 31 := ⟨by decide +kernel, rfl⟩
theorem D188_31 : rDec M188 31 (.aload_n 0) 1 32 := ⟨by decide +kernel, rfl⟩
theorem D188_32 : rDec M188 32 (.getfield 110) 3 35 := ⟨by decide +kernel, rfl⟩
theorem D188_35 : rDec M188 35 (.invokeinterface 148 1) 5 40 := ⟨by decide +kernel, rfl⟩
theorem D188_40 : rDec M188 40 (.invokestatic 151) 3 43 := ⟨by decide +kernel, rfl⟩
theorem D188_43 : rDec M188 43 (.istore 6) 2 45 := ⟨by decide +kernel, rfl⟩
theorem D188_45 : rDec M188 45 (.iload_n 1) 1 46 := ⟨by decide +kernel, rfl⟩
theorem D188_46 : rDec M188 46 (.tableswitch 145 0 12 #[66, 66, 80, 66, 98, 98, 98, 98, 114, 114, 114, 129, 129]) 66 112 := ⟨by decide +kernel, rfl⟩
theorem D188_112 : rDec M188 112 (.iload_n 2) 1 113 := ⟨by decide +kernel, rfl⟩
theorem D188_113 : rDec M188 113 (.ifCond .ne 11) 3 116 := ⟨by decide +kernel, rfl⟩
theorem D188_116 : rDec M188 116 (.iload_n 3) 1 117 := ⟨by decide +kernel, rfl⟩
theorem D188_117 : rDec M188 117 (.ifCond .ne 7) 3 120 := ⟨by decide +kernel, rfl⟩
theorem D188_120 : rDec M188 120 (.iconst 1) 1 121 := ⟨by decide +kernel, rfl⟩
theorem D188_121 : rDec M188 121 (.goto 4) 3 124 := ⟨by decide +kernel, rfl⟩
theorem D188_124 : rDec M188 124 (.iconst 0) 1 125 := ⟨by decide +kernel, rfl⟩
theorem D188_125 : rDec M188 125 (.ireturn) 1 126 := ⟨by decide +kernel, rfl⟩
theorem D188_126 : rDec M188 126 (.iload_n 2) 1 127 := ⟨by decide +kernel, rfl⟩
theorem D188_127 : rDec M188 127 (.iconst 4) 1 128 := ⟨by decide +kernel, rfl⟩
theorem D188_128 : rDec M188 128 (.invokestatic 151) 3 131 := ⟨by decide +kernel, rfl⟩
theorem D188_131 : rDec M188 131 (.ifCond .eq 11) 3 134 := ⟨by decide +kernel, rfl⟩
theorem D188_134 : rDec M188 134 (.iload_n 3) 1 135 := ⟨by decide +kernel, rfl⟩
theorem D188_135 : rDec M188 135 (.ifCond .ne 7) 3 138 := ⟨by decide +kernel, rfl⟩
theorem D188_138 : rDec M188 138 (.iconst 1) 1 139 := ⟨by decide +kernel, rfl⟩
theorem D188_139 : rDec M188 139 (.goto 4) 3 142 := ⟨by decide +kernel, rfl⟩
theorem D188_142 : rDec M188 142 (.iconst 0) 1 143 := ⟨by decide +kernel, rfl⟩
theorem D188_143 : rDec M188 143 (.ireturn) 1 144 := ⟨by decide +kernel, rfl⟩
theorem D188_144 : rDec M188 144 (.iload 4) 2 146 := ⟨by decide +kernel, rfl⟩
theorem D188_146 : rDec M188 146 (.ifCond .eq 12) 3 149 := ⟨by decide +kernel, rfl⟩
theorem D188_149 : rDec M188 149 (.iload 5) 2 151 := ⟨by decide +kernel, rfl⟩
theorem D188_151 : rDec M188 151 (.ifCond .eq 7) 3 154 := ⟨by decide +kernel, rfl⟩
theorem D188_154 : rDec M188 154 (.iconst 1) 1 155 := ⟨by decide +kernel, rfl⟩
theorem D188_155 : rDec M188 155 (.goto 4) 3 158 := ⟨by decide +kernel, rfl⟩
theorem D188_158 : rDec M188 158 (.iconst 0) 1 159 := ⟨by decide +kernel, rfl⟩
theorem D188_159 : rDec M188 159 (.ireturn) 1 160 := ⟨by decide +kernel, rfl⟩
theorem D188_160 : rDec M188 160 (.iload 4) 2 162 := ⟨by decide +kernel, rfl⟩
theorem D188_162 : rDec M188 162 (.ifCond .eq 11) 3 165 := ⟨by decide +kernel, rfl⟩
theorem D188_165 : rDec M188 165 (.iload_n 3) 1 166 := ⟨by decide +kernel, rfl⟩
theorem D188_166 : rDec M188 166 (.ifCond .ne 7) 3 169 := ⟨by decide +kernel, rfl⟩
theorem D188_169 : rDec M188 169 (.iconst 1) 1 170 := ⟨by decide +kernel, rfl⟩
theorem D188_170 : rDec M188 170 (.goto 4) 3 173 := ⟨by decide +kernel, rfl⟩
theorem D188_173 : rDec M188 173 (.iconst 0) 1 174 := ⟨by decide +kernel, rfl⟩
theorem D188_174 : rDec M188 174 (.ireturn) 1 175 := ⟨by decide +kernel, rfl⟩
theorem D188_175 : rDec M188 175 (.iload 6) 2 177 := ⟨by decide +kernel, rfl⟩
theorem D188_177 : rDec M188 177 (.ifCond .eq 12) 3 180 := ⟨by decide +kernel, rfl⟩
theorem D188_189 : rDec M188 189 (.iconst 0) 1 190 := ⟨by decide +kernel, rfl⟩
theorem D188_190 : rDec M188 190 (.ireturn) 1 191 := ⟨by decide +kernel, rfl⟩
theorem D188_191 : rDec M188 191 (.iload_n 1) 1 192 := ⟨by decide +kernel, rfl⟩
theorem D188_192 : rDec M188 192 (.bipush 13) 2 194 := ⟨by decide +kernel, rfl⟩
theorem D188_194 : rDec M188 194 (.if_icmp .ne 16) 3 197 := ⟨by decide +kernel, rfl⟩
theorem D188_197 : rDec M188 197 (.iload 6) 2 199 := ⟨by decide +kernel, rfl⟩
theorem D188_199 : rDec M188 199 (.ifCond .eq 11) 3 202 := ⟨by decide +kernel, rfl⟩
theorem D188_210 : rDec M188 210 (.iconst 0) 1 211 := ⟨by decide +kernel, rfl⟩
theorem D188_211 : rDec M188 211 (.ireturn) 1 212 := ⟨by decide +kernel, rfl⟩
theorem P188_210 : rSnd lab M188 210 B188_210 := by
  refine s_ic D188_210 kc_i_0 (by decide) ?_
  exact s_Ri (Or.inr ⟨rfl, by decide⟩) D188_211.1
theorem P188_191 : rSnd lab M188 191 B188_191 := by
  refine s_Il gk1 (Or.inr ⟨1, D188_191, rfl⟩) ?_
  refine s_bi D188_192 kc_b_13 (by decide) ?_
  refine s_Ic c_ne (i_ne (tg := 210) (by decide)) D188_194.1 P188_210 (?_ : rSnd _ _ 197 _)
  refine s_Il gk6 (Or.inl D188_197) ?_
  refine s_If c_eq (fun _ => rfl) (fun _ _ => rfl) (b_eq (tg := 210) (by decide)) D188_199.1 P188_210 (?_ : rSnd _ _ 202 _)
  exact rSnd_none
theorem P188_189 : rSnd lab M188 189 B188_189 := by
  refine s_ic D188_189 kc_i_0 (by decide) ?_
  exact s_Ri (Or.inr ⟨rfl, by decide⟩) D188_190.1
theorem P188_175 : rSnd lab M188 175 B188_175 := by
  refine s_Il gk6 (Or.inl D188_175) ?_
  refine s_If c_eq (fun _ => rfl) (fun _ _ => rfl) (b_eq (tg := 189) (by decide)) D188_177.1 P188_189 (?_ : rSnd _ _ 180 _)
  exact rSnd_none
theorem P188_174 : rSnd lab M188 174 B188_174 := by
  exact s_Ri (Or.inr ⟨rfl, by decide⟩) D188_174.1
theorem P188_173 : rSnd lab M188 173 B188_173 := by
  refine s_ic D188_173 kc_i_0 (by decide) ?_
  exact P188_174
theorem P188_160 : rSnd lab M188 160 B188_160 := by
  refine s_Il gk4 (Or.inl D188_160) ?_
  refine s_If c_eq (fun _ => rfl) (fun _ _ => rfl) (b_eq (tg := 173) (by decide)) D188_162.1 P188_173 (?_ : rSnd _ _ 165 _)
  refine s_Il gk3 (Or.inr ⟨3, D188_165, rfl⟩) ?_
  refine s_If c_ne (fun _ => rfl) (fun _ _ => rfl) (b_ne (tg := 173) (by decide)) D188_166.1 P188_173 (?_ : rSnd _ _ 169 _)
  refine s_ic D188_169 kc_i_1 (by decide) ?_
  exact s_Go (pc' := 174) D188_170.1 (by decide) P188_174
theorem P188_159 : rSnd lab M188 159 B188_159 := by
  exact s_Ri (Or.inr ⟨rfl, by decide⟩) D188_159.1
theorem P188_158 : rSnd lab M188 158 B188_158 := by
  refine s_ic D188_158 kc_i_0 (by decide) ?_
  exact P188_159
theorem P188_144 : rSnd lab M188 144 B188_144 := by
  refine s_Il gk4 (Or.inl D188_144) ?_
  refine s_If c_eq (fun _ => rfl) (fun _ _ => rfl) (b_eq (tg := 158) (by decide)) D188_146.1 P188_158 (?_ : rSnd _ _ 149 _)
  refine s_Il gk5 (Or.inl D188_149) ?_
  refine s_If c_eq (fun _ => rfl) (fun _ _ => rfl) (b_eq (tg := 158) (by decide)) D188_151.1 P188_158 (?_ : rSnd _ _ 154 _)
  refine s_ic D188_154 kc_i_1 (by decide) ?_
  exact s_Go (pc' := 159) D188_155.1 (by decide) P188_159
theorem P188_143 : rSnd lab M188 143 B188_143 := by
  exact s_Ri (Or.inr ⟨rfl, by decide⟩) D188_143.1
theorem P188_142 : rSnd lab M188 142 B188_142 := by
  refine s_ic D188_142 kc_i_0 (by decide) ?_
  exact P188_143
theorem P188_126 : rSnd lab M188 126 B188_126 := by
  refine s_Il gk2 (Or.inr ⟨2, D188_126, rfl⟩) ?_
  refine s_ic D188_127 kc_i_4 (by decide) ?_
  refine s_Cs (id := 250) rfl (l_S rfl ok185 rfl wd2081 wd2082 D188_128.1) (?_ : rSnd _ _ 131 _)
  refine s_If c_eq (fun _ => rfl) (fun _ _ => rfl) (b_eq (tg := 142) (by decide)) D188_131.1 P188_142 (?_ : rSnd _ _ 134 _)
  refine s_Il gk3 (Or.inr ⟨3, D188_134, rfl⟩) ?_
  refine s_If c_ne (fun _ => rfl) (fun _ _ => rfl) (b_ne (tg := 142) (by decide)) D188_135.1 P188_142 (?_ : rSnd _ _ 138 _)
  refine s_ic D188_138 kc_i_1 (by decide) ?_
  exact s_Go (pc' := 143) D188_139.1 (by decide) P188_143
theorem P188_125 : rSnd lab M188 125 B188_125 := by
  exact s_Ri (Or.inr ⟨rfl, by decide⟩) D188_125.1
theorem P188_124 : rSnd lab M188 124 B188_124 := by
  refine s_ic D188_124 kc_i_0 (by decide) ?_
  exact P188_125
theorem P188_112 : rSnd lab M188 112 B188_112 := by
  refine s_Il gk2 (Or.inr ⟨2, D188_112, rfl⟩) ?_
  refine s_If c_ne (fun _ => rfl) (fun _ _ => rfl) (b_ne (tg := 124) (by decide)) D188_113.1 P188_124 (?_ : rSnd _ _ 116 _)
  refine s_Il gk3 (Or.inr ⟨3, D188_116, rfl⟩) ?_
  refine s_If c_ne (fun _ => rfl) (fun _ _ => rfl) (b_ne (tg := 124) (by decide)) D188_117.1 P188_124 (?_ : rSnd _ _ 120 _)
  refine s_ic D188_120 kc_i_1 (by decide) ?_
  exact s_Go (pc' := 125) D188_121.1 (by decide) P188_125
theorem P188_0 : rSnd lab M188 0 B188_0 := by
  refine s_Ent ?_
  refine s_Il gk2 (Or.inr ⟨2, D188_0, rfl⟩) ?_
  refine s_Al gk0 (Or.inr ⟨0, D188_1, rfl⟩) ?_
  refine s_Gf (ci := 11) (r := ("WordWrightModel", kT11, 10)) rfl (show 2 < 10 from by decide) rfl (Or.inl wd2029) (Or.inl rfl) rfl D188_2 ?_
  refine s_Cv (ln := 5) (kd := 50) (C := "java/util/ArrayList") (by decide) (by decide +kernel) rfl (l_F (C := "java/util/ArrayList") (x := ({ cls := "java/util/List", name := "size", desc := "()I" } : Jvm.MethodName)) (ci := 24) (r := ("java/util/ArrayList", kT24, 3)) rfl rfl rfl ok15 rfl rfl (by decide) (List.mem_of_getElem? (i := 4) rfl) wd2073 wd2078 wd2076 D188_5.1) (?_ : rSnd _ _ 10 _)
  refine s_Cs (id := 250) rfl (l_S rfl ok185 rfl wd2081 wd2082 D188_10.1) (?_ : rSnd _ _ 13 _)
  refine s_Is sk4 (show 4 < 7 from by decide) (Or.inl D188_13) ?_
  refine s_Il gk3 (Or.inr ⟨3, D188_15, rfl⟩) ?_
  refine s_Al gk0 (Or.inr ⟨0, D188_16, rfl⟩) ?_
  refine s_Gf (ci := 11) (r := ("WordWrightModel", kT11, 10)) rfl (show 2 < 10 from by decide) rfl (Or.inl wd2029) (Or.inl rfl) rfl D188_17 ?_
  refine s_Cv (ln := 5) (kd := 50) (C := "java/util/ArrayList") (by decide) (by decide +kernel) rfl (l_F (C := "java/util/ArrayList") (x := ({ cls := "java/util/List", name := "size", desc := "()I" } : Jvm.MethodName)) (ci := 24) (r := ("java/util/ArrayList", kT24, 3)) rfl rfl rfl ok15 rfl rfl (by decide) (List.mem_of_getElem? (i := 4) rfl) wd2073 wd2078 wd2076 D188_20.1) (?_ : rSnd _ _ 25 _)
  refine s_Cs (id := 250) rfl (l_S rfl ok185 rfl wd2081 wd2082 D188_25.1) (?_ : rSnd _ _ 28 _)
  refine s_Is sk5 (show 5 < 7 from by decide) (Or.inl D188_28) ?_
  refine s_Il gk2 (Or.inr ⟨2, D188_30, rfl⟩) ?_
  refine s_Al gk0 (Or.inr ⟨0, D188_31, rfl⟩) ?_
  refine s_Gf (ci := 11) (r := ("WordWrightModel", kT11, 10)) rfl (show 3 < 10 from by decide) rfl (Or.inl wd2031) (Or.inl rfl) rfl D188_32 ?_
  refine s_Cv (ln := 5) (kd := 50) (C := "java/util/ArrayList") (by decide) (by decide +kernel) rfl (l_F (C := "java/util/ArrayList") (x := ({ cls := "java/util/List", name := "size", desc := "()I" } : Jvm.MethodName)) (ci := 24) (r := ("java/util/ArrayList", kT24, 3)) rfl rfl rfl ok15 rfl rfl (by decide) (List.mem_of_getElem? (i := 4) rfl) wd2073 wd2078 wd2076 D188_35.1) (?_ : rSnd _ _ 40 _)
  refine s_Cs (id := 250) rfl (l_S rfl ok185 rfl wd2081 wd2082 D188_40.1) (?_ : rSnd _ _ 43 _)
  refine s_Is sk6 (show 6 < 7 from by decide) (Or.inl D188_43) ?_
  refine s_Il gk1 (Or.inr ⟨1, D188_45, rfl⟩) ?_
  exact s_Tsw (tgd := 191) D188_46.1 rfl (by decide) (by decide) ⟨⟨112, by decide, P188_112⟩, ⟨112, by decide, P188_112⟩, ⟨126, by decide, P188_126⟩, ⟨112, by decide, P188_112⟩, ⟨144, by decide, P188_144⟩, ⟨144, by decide, P188_144⟩, ⟨144, by decide, P188_144⟩, ⟨144, by decide, P188_144⟩, ⟨160, by decide, P188_160⟩, ⟨160, by decide, P188_160⟩, ⟨160, by decide, P188_160⟩, ⟨175, by decide, P188_175⟩, ⟨175, by decide, P188_175⟩, trivial⟩ (by decide) P188_191
theorem D189_0 : rDec M189 0 (.iload_n 0) 1 1 := ⟨by decide +kernel, rfl⟩
theorem D189_1 : rDec M189 1 (.istore_n 1) 1 2 := ⟨by decide +kernel, rfl⟩
theorem D189_2 : rDec M189 2 (.iconst 0) 1 3 := ⟨by decide +kernel, rfl⟩
theorem D189_3 : rDec M189 3 (.istore_n 2) 1 4 := ⟨by decide +kernel, rfl⟩
theorem D189_4 : rDec M189 4 (.iload_n 1) 1 5 := ⟨by decide +kernel, rfl⟩
theorem D189_5 : rDec M189 5 (.iconst 3) 1 6 := ⟨by decide +kernel, rfl⟩
theorem D189_6 : rDec M189 6 (.if_icmp .le 13) 3 9 := ⟨by decide +kernel, rfl⟩
theorem D189_9 : rDec M189 9 (.iload_n 1) 1 10 := ⟨by decide +kernel, rfl⟩
theorem D189_10 : rDec M189 10 (.iconst 4) 1 11 := ⟨by decide +kernel, rfl⟩
theorem D189_11 : rDec M189 11 (.idiv) 1 12 := ⟨by decide +kernel, rfl⟩
theorem D189_12 : rDec M189 12 (.istore_n 1) 1 13 := ⟨by decide +kernel, rfl⟩
theorem D189_13 : rDec M189 13 (.iinc 2 1) 3 16 := ⟨by decide +kernel, rfl⟩
theorem D189_16 : rDec M189 16 (.goto (-12)) 3 19 := ⟨by decide +kernel, rfl⟩
theorem D189_19 : rDec M189 19 (.iload_n 1) 1 20 := ⟨by decide +kernel, rfl⟩
theorem D189_20 : rDec M189 20 (.iconst 1) 1 21 := ⟨by decide +kernel, rfl⟩
theorem D189_21 : rDec M189 21 (.if_icmp .ne 13) 3 24 := ⟨by decide +kernel, rfl⟩
theorem D189_24 : rDec M189 24 (.iload_n 2) 1 25 := ⟨by decide +kernel, rfl⟩
theorem D189_25 : rDec M189 25 (.bipush 10) 2 27 := ⟨by decide +kernel, rfl⟩
theorem D189_27 : rDec M189 27 (.if_icmp .gt 7) 3 30 := ⟨by decide +kernel, rfl⟩
theorem D189_30 : rDec M189 30 (.iconst 1) 1 31 := ⟨by decide +kernel, rfl⟩
theorem D189_31 : rDec M189 31 (.goto 4) 3 34 := ⟨by decide +kernel, rfl⟩
theorem D189_34 : rDec M189 34 (.iconst 0) 1 35 := ⟨by decide +kernel, rfl⟩
theorem D189_35 : rDec M189 35 (.ireturn) 1 36 := ⟨by decide +kernel, rfl⟩
theorem P189_35 : rSnd lab M189 35 B189_35 := by
  exact s_Ri (Or.inr ⟨rfl, by decide⟩) D189_35.1
theorem P189_34 : rSnd lab M189 34 B189_34 := by
  refine s_ic D189_34 kc_i_0 (by decide) ?_
  exact P189_35
theorem P189_19 : rSnd lab M189 19 B189_19 := by
  refine s_Il gk1 (Or.inr ⟨1, D189_19, rfl⟩) ?_
  refine s_ic D189_20 kc_i_1 (by decide) ?_
  refine s_Ic c_ne (i_ne (tg := 34) (by decide)) D189_21.1 P189_34 (?_ : rSnd _ _ 24 _)
  refine s_Il gk2 (Or.inr ⟨2, D189_24, rfl⟩) ?_
  refine s_bi D189_25 kc_b_10 (by decide) ?_
  refine s_Ic c_gt (i_gt (tg := 34) (by decide)) D189_27.1 P189_34 (?_ : rSnd _ _ 30 _)
  refine s_ic D189_30 kc_i_1 (by decide) ?_
  exact s_Go (pc' := 35) D189_31.1 (by decide) P189_35
theorem P189_4 : rSnd lab M189 4 B189_4 := by
  refine s_Il gk1 (Or.inr ⟨1, D189_4, rfl⟩) ?_
  refine s_ic D189_5 kc_i_3 (by decide) ?_
  refine s_Ic c_le (i_le (tg := 19) (by decide)) D189_6.1 P189_19 (?_ : rSnd _ _ 9 _)
  refine s_Il gk1 (Or.inr ⟨1, D189_9, rfl⟩) ?_
  refine s_ic D189_10 kc_i_4 (by decide) ?_
  refine s_Div q_idiv n_div g_div D189_11 ?_
  refine s_Is sk1 (show 1 < 3 from by decide) (Or.inr ⟨1, D189_12, rfl⟩) ?_
  refine s_Inc gk2 sk2 (show 2 < 3 from by decide) kc_i_1 D189_13 ?_
  exact s_Go (pc' := 4) D189_16.1 (by decide) (s_Jb rfl)
theorem P189_0 : rSnd lab M189 0 B189_0 := by
  refine s_Ent ?_
  refine s_Il gk0 (Or.inr ⟨0, D189_0, rfl⟩) ?_
  refine s_Is sk1 (show 1 < 3 from by decide) (Or.inr ⟨1, D189_1, rfl⟩) ?_
  refine s_ic D189_2 kc_i_0 (by decide) ?_
  refine s_Is sk2 (show 2 < 3 from by decide) (Or.inr ⟨2, D189_3, rfl⟩) ?_
  exact P189_4
theorem D190_0 : rDec M190 0 (.new 19) 3 3 := ⟨by decide +kernel, rfl⟩
theorem D190_3 : rDec M190 3 (.dup) 1 4 := ⟨by decide +kernel, rfl⟩
theorem D190_4 : rDec M190 4 (.aload_n 0) 1 5 := ⟨by decide +kernel, rfl⟩
theorem D190_5 : rDec M190 5 (.aload_n 1) 1 6 := ⟨by decide +kernel, rfl⟩
theorem D190_6 : rDec M190 6 (.invokespecial 21) 3 9 := ⟨by decide +kernel, rfl⟩
theorem D190_9 : rDec M190 9 (.invokevirtual 24) 3 12 := ⟨by decide +kernel, rfl⟩
theorem D190_12 : rDec M190 12 (.areturn) 1 13 := ⟨by decide +kernel, rfl⟩
theorem P190_0 : rSnd lab M190 0 B190_0 := by
  refine s_Ent ?_
  refine s_New (ci := 14) (r := ("WordWrightModel$3", kT14, 2)) rfl rfl wd2115 wd1712 wd31 kr14 D190_0 ?_
  refine s_Dup D190_3 ?_
  refine s_Al gk0 (Or.inr ⟨0, D190_4, rfl⟩) ?_
  refine s_Al gk1 (Or.inr ⟨1, D190_5, rfl⟩) ?_
  refine s_Ci (id := 144) rfl (l_I rfl ok123 rfl rfl rfl wd2116 wd2117 D190_6.1) (?_ : rSnd _ _ 9 _)
  refine s_Cv (ln := 3) (kd := 30) (C := "WordWrightModel$3") (by decide) (by decide +kernel) rfl (l_U (C := "WordWrightModel$3") (owner := "WordWrightModel$Walk") (x := ({ cls := "WordWrightModel$3", name := "smallest", desc := "()LWordWrightModel$Dfa;" } : Jvm.MethodName)) rfl ok169 rfl rfl wd2127 wd2128 wd1695 wd2129 D190_9.1) (?_ : rSnd _ _ 12 _)
  exact s_Ra (Or.inl ⟨_, rfl⟩) D190_12.1
theorem D191_0 : rDec M191 0 (.iload_n 2) 1 1 := ⟨by decide +kernel, rfl⟩
theorem D191_1 : rDec M191 1 (.tableswitch 107 0 4 #[35, 40, 83, 89, 102]) 35 36 := ⟨by decide +kernel, rfl⟩
theorem D191_36 : rDec M191 36 (.aload_n 1) 1 37 := ⟨by decide +kernel, rfl⟩
theorem D191_37 : rDec M191 37 (.getfield 25) 3 40 := ⟨by decide +kernel, rfl⟩
theorem D191_40 : rDec M191 40 (.ireturn) 1 41 := ⟨by decide +kernel, rfl⟩
theorem D191_41 : rDec M191 41 (.iconst 0) 1 42 := ⟨by decide +kernel, rfl⟩
theorem D191_42 : rDec M191 42 (.istore_n 3) 1 43 := ⟨by decide +kernel, rfl⟩
theorem D191_43 : rDec M191 43 (.iconst 0) 1 44 := ⟨by decide +kernel, rfl⟩
theorem D191_44 : rDec M191 44 (.istore 4) 2 46 := ⟨by decide +kernel, rfl⟩
theorem D191_46 : rDec M191 46 (.iload 4) 2 48 := ⟨by decide +kernel, rfl⟩
theorem D191_48 : rDec M191 48 (.aload_n 1) 1 49 := ⟨by decide +kernel, rfl⟩
theorem D191_49 : rDec M191 49 (.getfield 25) 3 52 := ⟨by decide +kernel, rfl⟩
theorem D191_52 : rDec M191 52 (.if_icmp .ge 30) 3 55 := ⟨by decide +kernel, rfl⟩
theorem D191_55 : rDec M191 55 (.iload_n 3) 1 56 := ⟨by decide +kernel, rfl⟩
theorem D191_56 : rDec M191 56 (.aload_n 1) 1 57 := ⟨by decide +kernel, rfl⟩
theorem D191_57 : rDec M191 57 (.getfield 35) 3 60 := ⟨by decide +kernel, rfl⟩
theorem D191_60 : rDec M191 60 (.iload 4) 2 62 := ⟨by decide +kernel, rfl⟩
theorem D191_62 : rDec M191 62 (.baload) 1 63 := ⟨by decide +kernel, rfl⟩
theorem D191_63 : rDec M191 63 (.ifCond .eq 10) 3 66 := ⟨by decide +kernel, rfl⟩
theorem D191_66 : rDec M191 66 (.iconst 1) 1 67 := ⟨by decide +kernel, rfl⟩
theorem D191_67 : rDec M191 67 (.iload 4) 2 69 := ⟨by decide +kernel, rfl⟩
theorem D191_69 : rDec M191 69 (.ishl) 1 70 := ⟨by decide +kernel, rfl⟩
theorem D191_70 : rDec M191 70 (.goto 4) 3 73 := ⟨by decide +kernel, rfl⟩
theorem D191_73 : rDec M191 73 (.iconst 0) 1 74 := ⟨by decide +kernel, rfl⟩
theorem D191_74 : rDec M191 74 (.ior) 1 75 := ⟨by decide +kernel, rfl⟩
theorem D191_75 : rDec M191 75 (.istore_n 3) 1 76 := ⟨by decide +kernel, rfl⟩
theorem D191_76 : rDec M191 76 (.iinc 4 1) 3 79 := ⟨by decide +kernel, rfl⟩
theorem D191_79 : rDec M191 79 (.goto (-33)) 3 82 := ⟨by decide +kernel, rfl⟩
theorem D191_82 : rDec M191 82 (.iload_n 3) 1 83 := ⟨by decide +kernel, rfl⟩
theorem D191_83 : rDec M191 83 (.ireturn) 1 84 := ⟨by decide +kernel, rfl⟩
theorem D191_84 : rDec M191 84 (.aload_n 0) 1 85 := ⟨by decide +kernel, rfl⟩
theorem D191_85 : rDec M191 85 (.aload_n 1) 1 86 := ⟨by decide +kernel, rfl⟩
theorem D191_86 : rDec M191 86 (.invokevirtual 222) 3 89 := ⟨by decide +kernel, rfl⟩
theorem D191_89 : rDec M191 89 (.ireturn) 1 90 := ⟨by decide +kernel, rfl⟩
theorem D191_90 : rDec M191 90 (.aload_n 1) 1 91 := ⟨by decide +kernel, rfl⟩
theorem D191_91 : rDec M191 91 (.invokestatic 224) 3 94 := ⟨by decide +kernel, rfl⟩
theorem D191_94 : rDec M191 94 (.ifCond .eq 7) 3 97 := ⟨by decide +kernel, rfl⟩
theorem D191_97 : rDec M191 97 (.iconst 1) 1 98 := ⟨by decide +kernel, rfl⟩
theorem D191_98 : rDec M191 98 (.goto 4) 3 101 := ⟨by decide +kernel, rfl⟩
theorem D191_101 : rDec M191 101 (.iconst 0) 1 102 := ⟨by decide +kernel, rfl⟩
theorem D191_102 : rDec M191 102 (.ireturn) 1 103 := ⟨by decide +kernel, rfl⟩
theorem D191_103 : rDec M191 103 (.aload_n 1) 1 104 := ⟨by decide +kernel, rfl⟩
theorem D191_104 : rDec M191 104 (.invokestatic 218) 3 107 := ⟨by decide +kernel, rfl⟩
theorem D191_107 : rDec M191 107 (.ireturn) 1 108 := ⟨by decide +kernel, rfl⟩
theorem D191_108 : rDec M191 108 (.iconst 4) 1 109 := ⟨by decide +kernel, rfl⟩
theorem D191_109 : rDec M191 109 (.newarray .boolean) 2 111 := ⟨by decide +kernel, rfl⟩
theorem D191_111 : rDec M191 111 (.dup) 1 112 := ⟨by decide +kernel, rfl⟩
theorem D191_112 : rDec M191 112 (.iconst 0) 1 113 := ⟨by decide +kernel, rfl⟩
theorem D191_113 : rDec M191 113 (.iconst 1) 1 114 := ⟨by decide +kernel, rfl⟩
theorem D191_114 : rDec M191 114 (.bastore) 1 115 := ⟨by decide +kernel, rfl⟩
theorem D191_115 : rDec M191 115 (.dup) 1 116 := ⟨by decide +kernel, rfl⟩
theorem D191_116 : rDec M191 116 (.iconst 1) 1 117 := ⟨by decide +kernel, rfl⟩
theorem D191_117 : rDec M191 117 (.iconst 1) 1 118 := ⟨by decide +kernel, rfl⟩
theorem D191_118 : rDec M191 118 (.bastore) 1 119 := ⟨by decide +kernel, rfl⟩
theorem D191_119 : rDec M191 119 (.dup) 1 120 := ⟨by decide +kernel, rfl⟩
theorem D191_120 : rDec M191 120 (.iconst 2) 1 121 := ⟨by decide +kernel, rfl⟩
theorem D191_121 : rDec M191 121 (.iconst 1) 1 122 := ⟨by decide +kernel, rfl⟩
theorem D191_122 : rDec M191 122 (.bastore) 1 123 := ⟨by decide +kernel, rfl⟩
theorem D191_123 : rDec M191 123 (.dup) 1 124 := ⟨by decide +kernel, rfl⟩
theorem D191_124 : rDec M191 124 (.iconst 3) 1 125 := ⟨by decide +kernel, rfl⟩
theorem D191_125 : rDec M191 125 (.iconst 1) 1 126 := ⟨by decide +kernel, rfl⟩
theorem D191_126 : rDec M191 126 (.bastore) 1 127 := ⟨by decide +kernel, rfl⟩
theorem D191_127 : rDec M191 127 (.astore 4) 2 129 := ⟨by decide +kernel, rfl⟩
theorem D191_129 : rDec M191 129 (.aload_n 1) 1 130 := ⟨by decide +kernel, rfl⟩
theorem D191_130 : rDec M191 130 (.aload 4) 2 132 := ⟨by decide +kernel, rfl⟩
theorem D191_132 : rDec M191 132 (.invokestatic 227) 3 135 := ⟨by decide +kernel, rfl⟩
theorem D191_135 : rDec M191 135 (.ireturn) 1 136 := ⟨by decide +kernel, rfl⟩
theorem P191_108 : rSnd lab M191 108 B191_108 := by
  refine s_ic D191_108 kc_i_4 (by decide) ?_
  refine s_Nwa (t := 1) rfl (q_newa (at_ := .boolean) (Or.inr (Or.inr rfl))) (fun ht _ => ht _ wd147) D191_109 ?_
  refine s_Dup D191_111 ?_
  refine s_ic D191_112 kc_i_0 (by decide) ?_
  refine s_ic D191_113 kc_i_1 (by decide) ?_
  refine s_Ast (t := 1) rfl q_zast rfl (by decide) D191_114 ?_
  refine s_Dup D191_115 ?_
  refine s_ic D191_116 kc_i_1 (by decide) ?_
  refine s_ic D191_117 kc_i_1 (by decide) ?_
  refine s_Ast (t := 1) rfl q_zast rfl (by decide) D191_118 ?_
  refine s_Dup D191_119 ?_
  refine s_ic D191_120 kc_i_2 (by decide) ?_
  refine s_ic D191_121 kc_i_1 (by decide) ?_
  refine s_Ast (t := 1) rfl q_zast rfl (by decide) D191_122 ?_
  refine s_Dup D191_123 ?_
  refine s_ic D191_124 kc_i_3 (by decide) ?_
  refine s_ic D191_125 kc_i_1 (by decide) ?_
  refine s_Ast (t := 1) rfl q_zast rfl (by decide) D191_126 ?_
  refine s_As sk4 (show 4 < 5 from by decide) (Or.inl D191_127) ?_
  refine s_Al gk1 (Or.inr ⟨1, D191_129, rfl⟩) ?_
  refine s_Al gk4 (Or.inl D191_130) ?_
  refine s_Cs (id := 264) rfl (l_S rfl ok195 rfl wd2382 wd2383 D191_132.1) (?_ : rSnd _ _ 135 _)
  exact s_Ri (Or.inl rfl) D191_135.1
theorem P191_103 : rSnd lab M191 103 B191_103 := by
  refine s_Al gk1 (Or.inr ⟨1, D191_103, rfl⟩) ?_
  refine s_Cs (id := 270) rfl (l_S rfl ok196 rfl wd2378 wd2379 D191_104.1) (?_ : rSnd _ _ 107 _)
  exact s_Ri (Or.inl rfl) D191_107.1
theorem P191_102 : rSnd lab M191 102 B191_102 := by
  exact s_Ri (Or.inl rfl) D191_102.1
theorem P191_101 : rSnd lab M191 101 B191_101 := by
  refine s_ic D191_101 kc_i_0 (by decide) ?_
  exact P191_102
theorem P191_90 : rSnd lab M191 90 B191_90 := by
  refine s_Al gk1 (Or.inr ⟨1, D191_90, rfl⟩) ?_
  refine s_Cs (id := 253) rfl (l_S rfl ok187 rfl wd2370 wd2371 D191_91.1) (?_ : rSnd _ _ 94 _)
  refine s_If c_eq (fun _ => rfl) (fun _ _ => rfl) (b_eq (tg := 101) (by decide)) D191_94.1 P191_101 (?_ : rSnd _ _ 97 _)
  refine s_ic D191_97 kc_i_1 (by decide) ?_
  exact s_Go (pc' := 102) D191_98.1 (by decide) P191_102
theorem P191_84 : rSnd lab M191 84 B191_84 := by
  refine s_Al gk0 (Or.inr ⟨0, D191_84, rfl⟩) ?_
  refine s_Al gk1 (Or.inr ⟨1, D191_85, rfl⟩) ?_
  refine s_Cv (ln := 3) (kd := 24) (C := "WordWrightModel") (by decide) (by decide +kernel) rfl (l_V rfl ok192 rfl wd2258 wd2260 ws68 D191_86.1) (?_ : rSnd _ _ 89 _)
  exact s_Ri (Or.inl rfl) D191_89.1
theorem P191_82 : rSnd lab M191 82 B191_82 := by
  refine s_Il gk3 (Or.inr ⟨3, D191_82, rfl⟩) ?_
  exact s_Ri (Or.inl rfl) D191_83.1
theorem P191_74 : rSnd lab M191 74 B191_74 := by
  refine s_Bin q_ior n_or rG2_x rE2_x D191_74 ?_
  refine s_Is sk3 (show 3 < 5 from by decide) (Or.inr ⟨3, D191_75, rfl⟩) ?_
  refine s_Inc gk4 sk4 (show 4 < 5 from by decide) kc_i_1 D191_76 ?_
  exact s_Go (pc' := 46) D191_79.1 (by decide) (s_Jb rfl)
theorem P191_73 : rSnd lab M191 73 B191_73 := by
  refine s_ic D191_73 kc_i_0 (by decide) ?_
  exact P191_74
theorem P191_46 : rSnd lab M191 46 B191_46 := by
  refine s_Il gk4 (Or.inl D191_46) ?_
  refine s_Al gk1 (Or.inr ⟨1, D191_48, rfl⟩) ?_
  refine s_Gf (ci := 19) (r := ("WordWrightModel$Dfa", kT19, 3)) rfl (show 0 < 3 from by decide) rfl (Or.inl wd1818) (Or.inl rfl) rfl D191_49 ?_
  refine s_Ic c_ge (i_ge (tg := 82) (by decide)) D191_52.1 P191_82 (?_ : rSnd _ _ 55 _)
  refine s_Il gk3 (Or.inr ⟨3, D191_55, rfl⟩) ?_
  refine s_Al gk1 (Or.inr ⟨1, D191_56, rfl⟩) ?_
  refine s_Gf (ci := 19) (r := ("WordWrightModel$Dfa", kT19, 3)) rfl (show 2 < 3 from by decide) rfl (Or.inl wd1827) (Or.inl rfl) rfl D191_57 ?_
  refine s_Il gk4 (Or.inl D191_60) ?_
  refine s_Ald (t := 1) (ty := .boolean) rfl q_zald rfl D191_62 ?_
  refine s_If c_eq (fun _ => rfl) (fun _ _ => rfl) (b_eq (tg := 73) (by decide)) D191_63.1 P191_73 (?_ : rSnd _ _ 66 _)
  refine s_ic D191_66 kc_i_1 (by decide) ?_
  refine s_Il gk4 (Or.inl D191_67) ?_
  refine s_Bin q_ishl n_shl rG2_x rE2_x D191_69 ?_
  exact s_Go (pc' := 74) D191_70.1 (by decide) P191_74
theorem P191_41 : rSnd lab M191 41 B191_41 := by
  refine s_ic D191_41 kc_i_0 (by decide) ?_
  refine s_Is sk3 (show 3 < 5 from by decide) (Or.inr ⟨3, D191_42, rfl⟩) ?_
  refine s_ic D191_43 kc_i_0 (by decide) ?_
  refine s_Is sk4 (show 4 < 5 from by decide) (Or.inl D191_44) ?_
  exact P191_46
theorem P191_36 : rSnd lab M191 36 B191_36 := by
  refine s_Al gk1 (Or.inr ⟨1, D191_36, rfl⟩) ?_
  refine s_Gf (ci := 19) (r := ("WordWrightModel$Dfa", kT19, 3)) rfl (show 0 < 3 from by decide) rfl (Or.inl wd1818) (Or.inl rfl) rfl D191_37 ?_
  exact s_Ri (Or.inl rfl) D191_40.1
theorem P191_0 : rSnd lab M191 0 B191_0 := by
  refine s_Ent ?_
  refine s_Il gk2 (Or.inr ⟨2, D191_0, rfl⟩) ?_
  exact s_Tsw (tgd := 108) D191_1.1 rfl (by decide) (by decide) ⟨⟨36, by decide, P191_36⟩, ⟨41, by decide, P191_41⟩, ⟨84, by decide, P191_84⟩, ⟨90, by decide, P191_90⟩, ⟨103, by decide, P191_103⟩, trivial⟩ (by decide) P191_108
theorem D192_0 : rDec M192 0 (.aload_n 1) 1 1 := ⟨by decide +kernel, rfl⟩
theorem D192_1 : rDec M192 1 (.aload_n 0) 1 2 := ⟨by decide +kernel, rfl⟩
theorem D192_2 : rDec M192 2 (.invokevirtual 203) 3 5 := ⟨by decide +kernel, rfl⟩
theorem D192_5 : rDec M192 5 (.invokestatic 206) 3 8 := ⟨by decide +kernel, rfl⟩
theorem D192_8 : rDec M192 8 (.ireturn) 1 9 := ⟨by decide +kernel, rfl⟩
theorem P192_0 : rSnd lab M192 0 B192_0 := by
  refine s_Ent ?_
  refine s_Al gk1 (Or.inr ⟨1, D192_0, rfl⟩) ?_
  refine s_Al gk0 (Or.inr ⟨0, D192_1, rfl⟩) ?_
  refine s_Cv (ln := 3) (kd := 24) (C := "WordWrightModel") (by decide) (by decide +kernel) rfl (l_V rfl ok209 rfl wd2262 wd2264 ws69 D192_2.1) (?_ : rSnd _ _ 5 _)
  refine s_Cs (id := 225) rfl (l_S rfl ok173 rfl wd2266 wd2267 D192_5.1) (?_ : rSnd _ _ 8 _)
  exact s_Ri (Or.inl rfl) D192_8.1
theorem D193_0 : rDec M193 0 (.aload_n 0) 1 1 := ⟨by decide +kernel, rfl⟩
theorem D193_1 : rDec M193 1 (.iconst 0) 1 2 := ⟨by decide +kernel, rfl⟩
theorem D193_2 : rDec M193 2 (.putfield 145) 3 5 := ⟨by decide +kernel, rfl⟩
theorem D193_5 : rDec M193 5 (.iload_n 1) 1 6 := ⟨by decide +kernel, rfl⟩
theorem D193_6 : rDec M193 6 (.ifCond .lt 16) 3 9 := ⟨by decide +kernel, rfl⟩
theorem D193_9 : rDec M193 9 (.iload_n 1) 1 10 := ⟨by decide +kernel, rfl⟩
theorem D193_10 : rDec M193 10 (.aload_n 0) 1 11 := ⟨by decide +kernel, rfl⟩
theorem D193_11 : rDec M193 11 (.getfield 120) 3 14 := ⟨by decide +kernel, rfl⟩
theorem D193_14 : rDec M193 14 (.invokeinterface 148 1) 5 19 := ⟨by decide +kernel, rfl⟩
theorem D193_19 : rDec M193 19 (.if_icmp .lt 9) 3 22 := ⟨by decide +kernel, rfl⟩
theorem D193_22 : rDec M193 22 (.aload_n 0) 1 23 := ⟨by decide +kernel, rfl⟩
theorem D193_23 : rDec M193 23 (.iconst 1) 1 24 := ⟨by decide +kernel, rfl⟩
theorem D193_24 : rDec M193 24 (.invokevirtual 191) 3 27 := ⟨by decide +kernel, rfl⟩
theorem D193_27 : rDec M193 27 (.ireturn) 1 28 := ⟨by decide +kernel, rfl⟩
theorem P193_22 : rSnd lab M193 22 B193_22 := by
  refine s_Al gk0 (Or.inr ⟨0, D193_22, rfl⟩) ?_
  refine s_ic D193_23 kc_i_1 (by decide) ?_
  refine s_Cv (ln := 3) (kd := 24) (C := "WordWrightModel") (by decide) (by decide +kernel) rfl (l_V rfl ok207 rfl wd2084 wd2086 ws65 D193_24.1) (?_ : rSnd _ _ 27 _)
  exact s_Ri (Or.inl rfl) D193_27.1
theorem P193_0 : rSnd lab M193 0 B193_0 := by
  refine s_Ent ?_
  refine s_Al gk0 (Or.inr ⟨0, D193_0, rfl⟩) ?_
  refine s_ic D193_1 kc_i_0 (by decide) ?_
  refine s_Pf (ci := 11) (r := ("WordWrightModel", kT11, 10)) rfl (show 0 < 10 from by decide) rfl (Or.inl ⟨rfl, Or.inl wd2025⟩) (Or.inl rfl) rfl (by decide) D193_2 ?_
  refine s_Il gk1 (Or.inr ⟨1, D193_5, rfl⟩) ?_
  refine s_If c_lt (fun _ => rfl) (fun _ _ => rfl) (b_lt (tg := 22) (by decide)) D193_6.1 P193_22 (?_ : rSnd _ _ 9 _)
  refine s_Il gk1 (Or.inr ⟨1, D193_9, rfl⟩) ?_
  refine s_Al gk0 (Or.inr ⟨0, D193_10, rfl⟩) ?_
  refine s_Gf (ci := 11) (r := ("WordWrightModel", kT11, 10)) rfl (show 5 < 10 from by decide) rfl (Or.inl wd2033) (Or.inl rfl) rfl D193_11 ?_
  refine s_Cv (ln := 5) (kd := 50) (C := "java/util/ArrayList") (by decide) (by decide +kernel) rfl (l_F (C := "java/util/ArrayList") (x := ({ cls := "java/util/List", name := "size", desc := "()I" } : Jvm.MethodName)) (ci := 24) (r := ("java/util/ArrayList", kT24, 3)) rfl rfl rfl ok15 rfl rfl (by decide) (List.mem_of_getElem? (i := 4) rfl) wd2073 wd2078 wd2076 D193_14.1) (?_ : rSnd _ _ 19 _)
  refine s_Ic c_lt (i_lt (tg := 28) (by decide)) D193_19.1 rSnd_none (?_ : rSnd _ _ 22 _)
  exact P193_22
theorem D194_0 : rDec M194 0 (.iconst 0) 1 1 := ⟨by decide +kernel, rfl⟩
theorem D194_1 : rDec M194 1 (.istore_n 1) 1 2 := ⟨by decide +kernel, rfl⟩
theorem D194_2 : rDec M194 2 (.iload_n 0) 1 3 := ⟨by decide +kernel, rfl⟩
theorem D194_3 : rDec M194 3 (.istore_n 2) 1 4 := ⟨by decide +kernel, rfl⟩
theorem D194_4 : rDec M194 4 (.iload_n 2) 1 5 := ⟨by decide +kernel, rfl⟩
theorem D194_5 : rDec M194 5 (.iconst 1) 1 6 := ⟨by decide +kernel, rfl⟩
theorem D194_6 : rDec M194 6 (.if_icmp .le 13) 3 9 := ⟨by decide +kernel, rfl⟩
theorem D194_9 : rDec M194 9 (.iinc 1 1) 3 12 := ⟨by decide +kernel, rfl⟩
theorem D194_12 : rDec M194 12 (.iload_n 2) 1 13 := ⟨by decide +kernel, rfl⟩
theorem D194_13 : rDec M194 13 (.iconst 4) 1 14 := ⟨by decide +kernel, rfl⟩
theorem D194_14 : rDec M194 14 (.idiv) 1 15 := ⟨by decide +kernel, rfl⟩
theorem D194_15 : rDec M194 15 (.istore_n 2) 1 16 := ⟨by decide +kernel, rfl⟩
theorem D194_16 : rDec M194 16 (.goto (-12)) 3 19 := ⟨by decide +kernel, rfl⟩
theorem D194_19 : rDec M194 19 (.iload_n 1) 1 20 := ⟨by decide +kernel, rfl⟩
theorem D194_20 : rDec M194 20 (.ireturn) 1 21 := ⟨by decide +kernel, rfl⟩
theorem P194_19 : rSnd lab M194 19 B194_19 := by
  refine s_Il gk1 (Or.inr ⟨1, D194_19, rfl⟩) ?_
  exact s_Ri (Or.inl rfl) D194_20.1
theorem P194_4 : rSnd lab M194 4 B194_4 := by
  refine s_Il gk2 (Or.inr ⟨2, D194_4, rfl⟩) ?_
  refine s_ic D194_5 kc_i_1 (by decide) ?_
  refine s_Ic c_le (i_le (tg := 19) (by decide)) D194_6.1 P194_19 (?_ : rSnd _ _ 9 _)
  refine s_Inc gk1 sk1 (show 1 < 3 from by decide) kc_i_1 D194_9 ?_
  refine s_Il gk2 (Or.inr ⟨2, D194_12, rfl⟩) ?_
  refine s_ic D194_13 kc_i_4 (by decide) ?_
  refine s_Div q_idiv n_div g_div D194_14 ?_
  refine s_Is sk2 (show 2 < 3 from by decide) (Or.inr ⟨2, D194_15, rfl⟩) ?_
  exact s_Go (pc' := 4) D194_16.1 (by decide) (s_Jb rfl)
theorem P194_0 : rSnd lab M194 0 B194_0 := by
  refine s_Ent ?_
  refine s_ic D194_0 kc_i_0 (by decide) ?_
  refine s_Is sk1 (show 1 < 3 from by decide) (Or.inr ⟨1, D194_1, rfl⟩) ?_
  refine s_Il gk0 (Or.inr ⟨0, D194_2, rfl⟩) ?_
  refine s_Is sk2 (show 2 < 3 from by decide) (Or.inr ⟨2, D194_3, rfl⟩) ?_
  exact P194_4
theorem D195_0 : rDec M195 0 (.iconst 0) 1 1 := ⟨by decide +kernel, rfl⟩
theorem D195_1 : rDec M195 1 (.istore_n 2) 1 2 := ⟨by decide +kernel, rfl⟩
theorem D195_2 : rDec M195 2 (.aload_n 0) 1 3 := ⟨by decide +kernel, rfl⟩
theorem D195_3 : rDec M195 3 (.getfield 25) 3 6 := ⟨by decide +kernel, rfl⟩
theorem D195_6 : rDec M195 6 (.iconst 0) 1 7 := ⟨by decide +kernel, rfl⟩
theorem D195_7 : rDec M195 7 (.invokestatic 210) 3 10 := ⟨by decide +kernel, rfl⟩
theorem D195_10 : rDec M195 10 (.astore_n 3) 1 11 := ⟨by decide +kernel, rfl⟩
theorem D195_11 : rDec M195 11 (.aload_n 0) 1 12 := ⟨by decide +kernel, rfl⟩
theorem D195_12 : rDec M195 12 (.getfield 25) 3 15 := ⟨by decide +kernel, rfl⟩
theorem D195_15 : rDec M195 15 (.newarray .boolean) 2 17 := ⟨by decide +kernel, rfl⟩
theorem D195_17 : rDec M195 17 (.astore 4) 2 19 := ⟨by decide +kernel, rfl⟩
theorem D195_19 : rDec M195 19 (.iconst 0) 1 20 := ⟨by decide +kernel, rfl⟩
theorem D195_20 : rDec M195 20 (.istore 5) 2 22 := ⟨by decide +kernel, rfl⟩
theorem D195_22 : rDec M195 22 (.iload 5) 2 24 := ⟨by decide +kernel, rfl⟩
theorem D195_24 : rDec M195 24 (.aload_n 0) 1 25 := ⟨by decide +kernel, rfl⟩
theorem D195_25 : rDec M195 25 (.getfield 25) 3 28 := ⟨by decide +kernel, rfl⟩
theorem D195_28 : rDec M195 28 (.if_icmp .gt 123) 3 31 := ⟨by decide +kernel, rfl⟩
theorem D195_31 : rDec M195 31 (.iconst 0) 1 32 := ⟨by decide +kernel, rfl⟩
theorem D195_32 : rDec M195 32 (.istore 6) 2 34 := ⟨by decide +kernel, rfl⟩
theorem D195_34 : rDec M195 34 (.iload 6) 2 36 := ⟨by decide +kernel, rfl⟩
theorem D195_36 : rDec M195 36 (.aload_n 0) 1 37 := ⟨by decide +kernel, rfl⟩
theorem D195_37 : rDec M195 37 (.getfield 25) 3 40 := ⟨by decide +kernel, rfl⟩
theorem D195_40 : rDec M195 40 (.if_icmp .ge 105) 3 43 := ⟨by decide +kernel, rfl⟩
theorem D195_43 : rDec M195 43 (.aload 4) 2 45 := ⟨by decide +kernel, rfl⟩
theorem D195_45 : rDec M195 45 (.iload 6) 2 47 := ⟨by decide +kernel, rfl⟩
theorem D195_47 : rDec M195 47 (.dup2) 1 48 := ⟨by decide +kernel, rfl⟩
theorem D195_48 : rDec M195 48 (.baload) 1 49 := ⟨by decide +kernel, rfl⟩
theorem D195_49 : rDec M195 49 (.aload_n 0) 1 50 := ⟨by decide +kernel, rfl⟩
theorem D195_50 : rDec M195 50 (.getfield 35) 3 53 := ⟨by decide +kernel, rfl⟩
theorem D195_53 : rDec M195 53 (.iload 6) 2 55 := ⟨by decide +kernel, rfl⟩
theorem D195_55 : rDec M195 55 (.baload) 1 56 := ⟨by decide +kernel, rfl⟩
theorem D195_56 : rDec M195 56 (.ior) 1 57 := ⟨by decide +kernel, rfl⟩
theorem D195_57 : rDec M195 57 (.bastore) 1 58 := ⟨by decide +kernel, rfl⟩
theorem D195_58 : rDec M195 58 (.iconst 0) 1 59 := ⟨by decide +kernel, rfl⟩
theorem D195_59 : rDec M195 59 (.istore 7) 2 61 := ⟨by decide +kernel, rfl⟩
theorem D195_61 : rDec M195 61 (.iload 7) 2 63 := ⟨by decide +kernel, rfl⟩
theorem D195_63 : rDec M195 63 (.iconst 4) 1 64 := ⟨by decide +kernel, rfl⟩
theorem D195_64 : rDec M195 64 (.if_icmp .ge 75) 3 67 := ⟨by decide +kernel, rfl⟩
theorem D195_67 : rDec M195 67 (.aload_n 3) 1 68 := ⟨by decide +kernel, rfl⟩
theorem D195_68 : rDec M195 68 (.aload_n 0) 1 69 := ⟨by decide +kernel, rfl⟩
theorem D195_69 : rDec M195 69 (.iload 6) 2 71 := ⟨by decide +kernel, rfl⟩
theorem D195_71 : rDec M195 71 (.iload 7) 2 73 := ⟨by decide +kernel, rfl⟩
theorem D195_73 : rDec M195 73 (.invokevirtual 31) 3 76 := ⟨by decide +kernel, rfl⟩
theorem D195_76 : rDec M195 76 (.dup2) 1 77 := ⟨by decide +kernel, rfl⟩
theorem D195_77 : rDec M195 77 (.baload) 1 78 := ⟨by decide +kernel, rfl⟩
theorem D195_78 : rDec M195 78 (.aload_n 1) 1 79 := ⟨by decide +kernel, rfl⟩
theorem D195_79 : rDec M195 79 (.iload 7) 2 81 := ⟨by decide +kernel, rfl⟩
theorem D195_81 : rDec M195 81 (.baload) 1 82 := ⟨by decide +kernel, rfl⟩
theorem D195_82 : rDec M195 82 (.ifCond .eq 14) 3 85 := ⟨by decide +kernel, rfl⟩
theorem D195_85 : rDec M195 85 (.aload_n 3) 1 86 := ⟨by decide +kernel, rfl⟩
theorem D195_86 : rDec M195 86 (.iload 6) 2 88 := ⟨by decide +kernel, rfl⟩
theorem D195_88 : rDec M195 88 (.baload) 1 89 := ⟨by decide +kernel, rfl⟩
theorem D195_89 : rDec M195 89 (.ifCond .eq 7) 3 92 := ⟨by decide +kernel, rfl⟩
theorem D195_92 : rDec M195 92 (.iconst 1) 1 93 := ⟨by decide +kernel, rfl⟩
theorem D195_93 : rDec M195 93 (.goto 4) 3 96 := ⟨by decide +kernel, rfl⟩
theorem D195_97 : rDec M195 97 (.ior) 1 98 := ⟨by decide +kernel, rfl⟩
theorem D195_98 : rDec M195 98 (.bastore) 1 99 := ⟨by decide +kernel, rfl⟩
theorem D195_99 : rDec M195 99 (.aload 4) 2 101 := ⟨by decide +kernel, rfl⟩
theorem D195_101 : rDec M195 101 (.iload 6) 2 103 := ⟨by decide +kernel, rfl⟩
theorem D195_103 : rDec M195 103 (.dup2) 1 104 := ⟨by decide +kernel, rfl⟩
theorem D195_104 : rDec M195 104 (.baload) 1 105 := ⟨by decide +kernel, rfl⟩
theorem D195_105 : rDec M195 105 (.aload_n 1) 1 106 := ⟨by decide +kernel, rfl⟩
theorem D195_106 : rDec M195 106 (.iload 7) 2 108 := ⟨by decide +kernel, rfl⟩
theorem D195_108 : rDec M195 108 (.baload) 1 109 := ⟨by decide +kernel, rfl⟩
theorem D195_109 : rDec M195 109 (.ifCond .eq 21) 3 112 := ⟨by decide +kernel, rfl⟩
theorem D195_112 : rDec M195 112 (.aload 4) 2 114 := ⟨by decide +kernel, rfl⟩
theorem D195_114 : rDec M195 114 (.aload_n 0) 1 115 := ⟨by decide +kernel, rfl⟩
theorem D195_115 : rDec M195 115 (.iload 6) 2 117 := ⟨by decide +kernel, rfl⟩
theorem D195_117 : rDec M195 117 (.iload 7) 2 119 := ⟨by decide +kernel, rfl⟩
theorem D195_119 : rDec M195 119 (.invokevirtual 31) 3 122 := ⟨by decide +kernel, rfl⟩
theorem D195_122 : rDec M195 122 (.baload) 1 123 := ⟨by decide +kernel, rfl⟩
theorem D195_123 : rDec M195 123 (.ifCond .eq 7) 3 126 := ⟨by decide +kernel, rfl⟩
theorem D195_126 : rDec M195 126 (.iconst 1) 1 127 := ⟨by decide +kernel, rfl⟩
theorem D195_127 : rDec M195 127 (.goto 4) 3 130 := ⟨by decide +kernel, rfl⟩
theorem D195_130 : rDec M195 130 (.iconst 0) 1 131 := ⟨by decide +kernel, rfl⟩
theorem D195_131 : rDec M195 131 (.ior) 1 132 := ⟨by decide +kernel, rfl⟩
theorem D195_132 : rDec M195 132 (.bastore) 1 133 := ⟨by decide +kernel, rfl⟩
theorem D195_133 : rDec M195 133 (.iinc 7 1) 3 136 := ⟨by decide +kernel, rfl⟩
theorem D195_136 : rDec M195 136 (.goto (-75)) 3 139 := ⟨by decide +kernel, rfl⟩
theorem D195_139 : rDec M195 139 (.iinc 6 1) 3 142 := ⟨by decide +kernel, rfl⟩
theorem D195_142 : rDec M195 142 (.goto (-108)) 3 145 := ⟨by decide +kernel, rfl⟩
theorem D195_145 : rDec M195 145 (.iinc 5 1) 3 148 := ⟨by decide +kernel, rfl⟩
theorem D195_148 : rDec M195 148 (.goto (-126)) 3 151 := ⟨by decide +kernel, rfl⟩
theorem D195_151 : rDec M195 151 (.iconst 0) 1 152 := ⟨by decide +kernel, rfl⟩
theorem D195_152 : rDec M195 152 (.istore 5) 2 154 := ⟨by decide +kernel, rfl⟩
theorem D195_154 : rDec M195 154 (.iload 5) 2 156 := ⟨by decide +kernel, rfl⟩
theorem D195_156 : rDec M195 156 (.aload_n 0) 1 157 := ⟨by decide +kernel, rfl⟩
theorem D195_157 : rDec M195 157 (.getfield 25) 3 160 := ⟨by decide +kernel, rfl⟩
theorem D195_160 : rDec M195 160 (.if_icmp .ge 63) 3 163 := ⟨by decide +kernel, rfl⟩
theorem D195_163 : rDec M195 163 (.iconst 0) 1 164 := ⟨by decide +kernel, rfl⟩
theorem D195_164 : rDec M195 164 (.istore 6) 2 166 := ⟨by decide +kernel, rfl⟩
theorem D195_166 : rDec M195 166 (.iload 6) 2 168 := ⟨by decide +kernel, rfl⟩
theorem D195_168 : rDec M195 168 (.iconst 4) 1 169 := ⟨by decide +kernel, rfl⟩
theorem D195_169 : rDec M195 169 (.if_icmp .ge 48) 3 172 := ⟨by decide +kernel, rfl⟩
theorem D195_172 : rDec M195 172 (.iload_n 2) 1 173 := ⟨by decide +kernel, rfl⟩
theorem D195_173 : rDec M195 173 (.aload_n 1) 1 174 := ⟨by decide +kernel, rfl⟩
theorem D195_174 : rDec M195 174 (.iload 6) 2 176 := ⟨by decide +kernel, rfl⟩
theorem D195_176 : rDec M195 176 (.baload) 1 177 := ⟨by decide +kernel, rfl⟩
theorem D195_177 : rDec M195 177 (.ifCond .eq 31) 3 180 := ⟨by decide +kernel, rfl⟩
theorem D195_180 : rDec M195 180 (.aload_n 3) 1 181 := ⟨by decide +kernel, rfl⟩
theorem D195_181 : rDec M195 181 (.iload 5) 2 183 := ⟨by decide +kernel, rfl⟩
theorem D195_183 : rDec M195 183 (.baload) 1 184 := ⟨by decide +kernel, rfl⟩
theorem D195_184 : rDec M195 184 (.ifCond .eq 24) 3 187 := ⟨by decide +kernel, rfl⟩
theorem D195_187 : rDec M195 187 (.aload 4) 2 189 := ⟨by decide +kernel, rfl⟩
theorem D195_189 : rDec M195 189 (.aload_n 0) 1 190 := ⟨by decide +kernel, rfl⟩
theorem D195_190 : rDec M195 190 (.iload 5) 2 192 := ⟨by decide +kernel, rfl⟩
theorem D195_192 : rDec M195 192 (.iload 6) 2 194 := ⟨by decide +kernel, rfl⟩
theorem D195_194 : rDec M195 194 (.invokevirtual 31) 3 197 := ⟨by decide +kernel, rfl⟩
theorem D195_197 : rDec M195 197 (.baload) 1 198 := ⟨by decide +kernel, rfl⟩
theorem D195_198 : rDec M195 198 (.ifCond .eq 10) 3 201 := ⟨by decide +kernel, rfl⟩
theorem D195_201 : rDec M195 201 (.iconst 1) 1 202 := ⟨by decide +kernel, rfl⟩
theorem D195_202 : rDec M195 202 (.iload 6) 2 204 := ⟨by decide +kernel, rfl⟩
theorem D195_204 : rDec M195 204 (.ishl) 1 205 := ⟨by decide +kernel, rfl⟩
theorem D195_205 : rDec M195 205 (.goto 4) 3 208 := ⟨by decide +kernel, rfl⟩
theorem D195_208 : rDec M195 208 (.iconst 0) 1 209 := ⟨by decide +kernel, rfl⟩
theorem D195_209 : rDec M195 209 (.ior) 1 210 := ⟨by decide +kernel, rfl⟩
theorem D195_210 : rDec M195 210 (.istore_n 2) 1 211 := ⟨by decide +kernel, rfl⟩
theorem D195_211 : rDec M195 211 (.iinc 6 1) 3 214 := ⟨by decide +kernel, rfl⟩
theorem D195_214 : rDec M195 214 (.goto (-48)) 3 217 := ⟨by decide +kernel, rfl⟩
theorem D195_217 : rDec M195 217 (.iinc 5 1) 3 220 := ⟨by decide +kernel, rfl⟩
theorem D195_220 : rDec M195 220 (.goto (-66)) 3 223 := ⟨by decide +kernel, rfl⟩
theorem D195_223 : rDec M195 223 (.iload_n 2) 1 224 := ⟨by decide +kernel, rfl⟩
theorem D195_224 : rDec M195 224 (.ireturn) 1 225 := ⟨by decide +kernel, rfl⟩
theorem P195_223 : rSnd lab M195 223 B195_223 := by
  refine s_Il gk2 (Or.inr ⟨2, D195_223, rfl⟩) ?_
  exact s_Ri (Or.inl rfl) D195_224.1
theorem P195_217 : rSnd lab M195 217 B195_217 := by
  refine s_Inc gk5 sk5 (show 5 < 8 from by decide) kc_i_1 D195_217 ?_
  exact s_Go (pc' := 154) D195_220.1 (by decide) (s_Jb rfl)
theorem P195_209 : rSnd lab M195 209 B195_209 := by
  refine s_Bin q_ior n_or rG2_x rE2_x D195_209 ?_
  refine s_Is sk2 (show 2 < 8 from by decide) (Or.inr ⟨2, D195_210, rfl⟩) ?_
  refine s_Inc gk6 sk6 (show 6 < 8 from by decide) kc_i_1 D195_211 ?_
  exact s_Go (pc' := 166) D195_214.1 (by decide) (s_Jb rfl)
theorem P195_208 : rSnd lab M195 208 B195_208 := by
  refine s_ic D195_208 kc_i_0 (by decide) ?_
  exact P195_209
theorem P195_166 : rSnd lab M195 166 B195_166 := by
  refine s_Il gk6 (Or.inl D195_166) ?_
  refine s_ic D195_168 kc_i_4 (by decide) ?_
  refine s_Ic c_ge (i_ge (tg := 217) (by decide)) D195_169.1 P195_217 (?_ : rSnd _ _ 172 _)
  refine s_Il gk2 (Or.inr ⟨2, D195_172, rfl⟩) ?_
  refine s_Al gk1 (Or.inr ⟨1, D195_173, rfl⟩) ?_
  refine s_Il gk6 (Or.inl D195_174) ?_
  refine s_Ald (t := 1) (ty := .boolean) rfl q_zald rfl D195_176 ?_
  refine s_If c_eq (fun _ => rfl) (fun _ _ => rfl) (b_eq (tg := 208) (by decide)) D195_177.1 P195_208 (?_ : rSnd _ _ 180 _)
  refine s_Al gk3 (Or.inr ⟨3, D195_180, rfl⟩) ?_
  refine s_Il gk5 (Or.inl D195_181) ?_
  refine s_Ald (t := 1) (ty := .boolean) rfl q_zald rfl D195_183 ?_
  refine s_If c_eq (fun _ => rfl) (fun _ _ => rfl) (b_eq (tg := 208) (by decide)) D195_184.1 P195_208 (?_ : rSnd _ _ 187 _)
  refine s_Al gk4 (Or.inl D195_187) ?_
  refine s_Al gk0 (Or.inr ⟨0, D195_189, rfl⟩) ?_
  refine s_Il gk5 (Or.inl D195_190) ?_
  refine s_Il gk6 (Or.inl D195_192) ?_
  refine s_Cv (ln := 3) (kd := 40) (C := "WordWrightModel$Dfa") (by decide) (by decide +kernel) rfl (l_V rfl ok147 rfl wd1768 wd1739 wd1740 D195_194.1) (?_ : rSnd _ _ 197 _)
  refine s_Ald (t := 1) (ty := .boolean) rfl q_zald rfl D195_197 ?_
  refine s_If c_eq (fun _ => rfl) (fun _ _ => rfl) (b_eq (tg := 208) (by decide)) D195_198.1 P195_208 (?_ : rSnd _ _ 201 _)
  refine s_ic D195_201 kc_i_1 (by decide) ?_
  refine s_Il gk6 (Or.inl D195_202) ?_
  refine s_Bin q_ishl n_shl rG2_x rE2_x D195_204 ?_
  exact s_Go (pc' := 209) D195_205.1 (by decide) P195_209
theorem P195_154 : rSnd lab M195 154 B195_154 := by
  refine s_Il gk5 (Or.inl D195_154) ?_
  refine s_Al gk0 (Or.inr ⟨0, D195_156, rfl⟩) ?_
  refine s_Gf (ci := 19) (r := ("WordWrightModel$Dfa", kT19, 3)) rfl (show 0 < 3 from by decide) rfl (Or.inl wd1818) (Or.inl rfl) rfl D195_157 ?_
  refine s_Ic c_ge (i_ge (tg := 223) (by decide)) D195_160.1 P195_223 (?_ : rSnd _ _ 163 _)
  refine s_ic D195_163 kc_i_0 (by decide) ?_
  refine s_Is sk6 (show 6 < 8 from by decide) (Or.inl D195_164) ?_
  exact P195_166
theorem P195_151 : rSnd lab M195 151 B195_151 := by
  refine s_ic D195_151 kc_i_0 (by decide) ?_
  refine s_Is sk5 (show 5 < 8 from by decide) (Or.inl D195_152) ?_
  exact P195_154
theorem P195_145 : rSnd lab M195 145 B195_145 := by
  refine s_Inc gk5 sk5 (show 5 < 8 from by decide) kc_i_1 D195_145 ?_
  exact s_Go (pc' := 22) D195_148.1 (by decide) (s_Jb rfl)
theorem P195_139 : rSnd lab M195 139 B195_139 := by
  refine s_Inc gk6 sk6 (show 6 < 8 from by decide) kc_i_1 D195_139 ?_
  exact s_Go (pc' := 34) D195_142.1 (by decide) (s_Jb rfl)
theorem P195_131 : rSnd lab M195 131 B195_131 := by
  refine s_Bin q_ior n_or rG2_x rE2_x D195_131 ?_
  refine s_Ast (t := 1) rfl q_zast rfl (by decide) D195_132 ?_
  refine s_Inc gk7 sk7 (show 7 < 8 from by decide) kc_i_1 D195_133 ?_
  exact s_Go (pc' := 61) D195_136.1 (by decide) (s_Jb rfl)
theorem P195_130 : rSnd lab M195 130 B195_130 := by
  refine s_ic D195_130 kc_i_0 (by decide) ?_
  exact P195_131
theorem P195_97 : rSnd lab M195 97 B195_97 := by
  refine s_Bin q_ior n_or rG2_x rE2_x D195_97 ?_
  refine s_Ast (t := 1) rfl q_zast rfl (by decide) D195_98 ?_
  refine s_Al gk4 (Or.inl D195_99) ?_
  refine s_Il gk6 (Or.inl D195_101) ?_
  refine s_Dup2 D195_103 ?_
  refine s_Ald (t := 1) (ty := .boolean) rfl q_zald rfl D195_104 ?_
  refine s_Al gk1 (Or.inr ⟨1, D195_105, rfl⟩) ?_
  refine s_Il gk7 (Or.inl D195_106) ?_
  refine s_Ald (t := 1) (ty := .boolean) rfl q_zald rfl D195_108 ?_
  refine s_If c_eq (fun _ => rfl) (fun _ _ => rfl) (b_eq (tg := 130) (by decide)) D195_109.1 P195_130 (?_ : rSnd _ _ 112 _)
  refine s_Al gk4 (Or.inl D195_112) ?_
  refine s_Al gk0 (Or.inr ⟨0, D195_114, rfl⟩) ?_
  refine s_Il gk6 (Or.inl D195_115) ?_
  refine s_Il gk7 (Or.inl D195_117) ?_
  refine s_Cv (ln := 3) (kd := 40) (C := "WordWrightModel$Dfa") (by decide) (by decide +kernel) rfl (l_V rfl ok147 rfl wd1768 wd1739 wd1740 D195_119.1) (?_ : rSnd _ _ 122 _)
  refine s_Ald (t := 1) (ty := .boolean) rfl q_zald rfl D195_122 ?_
  refine s_If c_eq (fun _ => rfl) (fun _ _ => rfl) (b_eq (tg := 130) (by decide)) D195_123.1 P195_130 (?_ : rSnd _ _ 126 _)
  refine s_ic D195_126 kc_i_1 (by decide) ?_
  exact s_Go (pc' := 131) D195_127.1 (by decide) P195_131
theorem P195_61 : rSnd lab M195 61 B195_61 := by
  refine s_Il gk7 (Or.inl D195_61) ?_
  refine s_ic D195_63 kc_i_4 (by decide) ?_
  refine s_Ic c_ge (i_ge (tg := 139) (by decide)) D195_64.1 P195_139 (?_ : rSnd _ _ 67 _)
  refine s_Al gk3 (Or.inr ⟨3, D195_67, rfl⟩) ?_
  refine s_Al gk0 (Or.inr ⟨0, D195_68, rfl⟩) ?_
  refine s_Il gk6 (Or.inl D195_69) ?_
  refine s_Il gk7 (Or.inl D195_71) ?_
  refine s_Cv (ln := 3) (kd := 40) (C := "WordWrightModel$Dfa") (by decide) (by decide +kernel) rfl (l_V rfl ok147 rfl wd1768 wd1739 wd1740 D195_73.1) (?_ : rSnd _ _ 76 _)
  refine s_Dup2 D195_76 ?_
  refine s_Ald (t := 1) (ty := .boolean) rfl q_zald rfl D195_77 ?_
  refine s_Al gk1 (Or.inr ⟨1, D195_78, rfl⟩) ?_
  refine s_Il gk7 (Or.inl D195_79) ?_
  refine s_Ald (t := 1) (ty := .boolean) rfl q_zald rfl D195_81 ?_
  refine s_If c_eq (fun _ => rfl) (fun _ _ => rfl) (b_eq (tg := 96) (by decide)) D195_82.1 rSnd_none (?_ : rSnd _ _ 85 _)
  refine s_Al gk3 (Or.inr ⟨3, D195_85, rfl⟩) ?_
  refine s_Il gk6 (Or.inl D195_86) ?_
  refine s_Ald (t := 1) (ty := .boolean) rfl q_zald rfl D195_88 ?_
  refine s_If c_eq (fun _ => rfl) (fun _ _ => rfl) (b_eq (tg := 96) (by decide)) D195_89.1 rSnd_none (?_ : rSnd _ _ 92 _)
  refine s_ic D195_92 kc_i_1 (by decide) ?_
  exact s_Go (pc' := 97) D195_93.1 (by decide) P195_97
theorem P195_34 : rSnd lab M195 34 B195_34 := by
  refine s_Il gk6 (Or.inl D195_34) ?_
  refine s_Al gk0 (Or.inr ⟨0, D195_36, rfl⟩) ?_
  refine s_Gf (ci := 19) (r := ("WordWrightModel$Dfa", kT19, 3)) rfl (show 0 < 3 from by decide) rfl (Or.inl wd1818) (Or.inl rfl) rfl D195_37 ?_
  refine s_Ic c_ge (i_ge (tg := 145) (by decide)) D195_40.1 P195_145 (?_ : rSnd _ _ 43 _)
  refine s_Al gk4 (Or.inl D195_43) ?_
  refine s_Il gk6 (Or.inl D195_45) ?_
  refine s_Dup2 D195_47 ?_
  refine s_Ald (t := 1) (ty := .boolean) rfl q_zald rfl D195_48 ?_
  refine s_Al gk0 (Or.inr ⟨0, D195_49, rfl⟩) ?_
  refine s_Gf (ci := 19) (r := ("WordWrightModel$Dfa", kT19, 3)) rfl (show 2 < 3 from by decide) rfl (Or.inl wd1827) (Or.inl rfl) rfl D195_50 ?_
  refine s_Il gk6 (Or.inl D195_53) ?_
  refine s_Ald (t := 1) (ty := .boolean) rfl q_zald rfl D195_55 ?_
  refine s_Bin q_ior n_or rG2_x rE2_x D195_56 ?_
  refine s_Ast (t := 1) rfl q_zast rfl (by decide) D195_57 ?_
  refine s_ic D195_58 kc_i_0 (by decide) ?_
  refine s_Is sk7 (show 7 < 8 from by decide) (Or.inl D195_59) ?_
  exact P195_61
theorem P195_22 : rSnd lab M195 22 B195_22 := by
  refine s_Il gk5 (Or.inl D195_22) ?_
  refine s_Al gk0 (Or.inr ⟨0, D195_24, rfl⟩) ?_
  refine s_Gf (ci := 19) (r := ("WordWrightModel$Dfa", kT19, 3)) rfl (show 0 < 3 from by decide) rfl (Or.inl wd1818) (Or.inl rfl) rfl D195_25 ?_
  refine s_Ic c_gt (i_gt (tg := 151) (by decide)) D195_28.1 P195_151 (?_ : rSnd _ _ 31 _)
  refine s_ic D195_31 kc_i_0 (by decide) ?_
  refine s_Is sk6 (show 6 < 8 from by decide) (Or.inl D195_32) ?_
  exact P195_34
theorem P195_0 : rSnd lab M195 0 B195_0 := by
  refine s_Ent ?_
  refine s_ic D195_0 kc_i_0 (by decide) ?_
  refine s_Is sk2 (show 2 < 8 from by decide) (Or.inr ⟨2, D195_1, rfl⟩) ?_
  refine s_Al gk0 (Or.inr ⟨0, D195_2, rfl⟩) ?_
  refine s_Gf (ci := 19) (r := ("WordWrightModel$Dfa", kT19, 3)) rfl (show 0 < 3 from by decide) rfl (Or.inl wd1818) (Or.inl rfl) rfl D195_3 ?_
  refine s_ic D195_6 kc_i_0 (by decide) ?_
  refine s_Cs (id := 291) rfl (l_S rfl ok211 rfl wd2381 wd2311 D195_7.1) (?_ : rSnd _ _ 10 _)
  refine s_As sk3 (show 3 < 8 from by decide) (Or.inr ⟨3, D195_10, rfl⟩) ?_
  refine s_Al gk0 (Or.inr ⟨0, D195_11, rfl⟩) ?_
  refine s_Gf (ci := 19) (r := ("WordWrightModel$Dfa", kT19, 3)) rfl (show 0 < 3 from by decide) rfl (Or.inl wd1818) (Or.inl rfl) rfl D195_12 ?_
  refine s_Nwa (t := 1) rfl (q_newa (at_ := .boolean) (Or.inr (Or.inr rfl))) (fun ht _ => ht _ wd147) D195_15 ?_
  refine s_As sk4 (show 4 < 8 from by decide) (Or.inl D195_17) ?_
  refine s_ic D195_19 kc_i_0 (by decide) ?_
  refine s_Is sk5 (show 5 < 8 from by decide) (Or.inl D195_20) ?_
  exact P195_22
theorem D196_0 : rDec M196 0 (.aload_n 0) 1 1 := ⟨by decide +kernel, rfl⟩
theorem D196_1 : rDec M196 1 (.invokevirtual 49) 3 4 := ⟨by decide +kernel, rfl⟩
theorem D196_4 : rDec M196 4 (.astore_n 1) 1 5 := ⟨by decide +kernel, rfl⟩
theorem D196_5 : rDec M196 5 (.aload_n 0) 1 6 := ⟨by decide +kernel, rfl⟩
theorem D196_6 : rDec M196 6 (.getfield 25) 3 9 := ⟨by decide +kernel, rfl⟩
theorem D196_9 : rDec M196 9 (.iconst 0) 1 10 := ⟨by decide +kernel, rfl⟩
theorem D196_10 : rDec M196 10 (.invokestatic 210) 3 13 := ⟨by decide +kernel, rfl⟩
theorem D196_13 : rDec M196 13 (.astore_n 2) 1 14 := ⟨by decide +kernel, rfl⟩
theorem D196_14 : rDec M196 14 (.iconst (-1)) 1 15 := ⟨by decide +kernel, rfl⟩
theorem D196_15 : rDec M196 15 (.istore_n 3) 1 16 := ⟨by decide +kernel, rfl⟩
theorem D196_16 : rDec M196 16 (.iconst 0) 1 17 := ⟨by decide +kernel, rfl⟩
theorem D196_17 : rDec M196 17 (.istore 4) 2 19 := ⟨by decide +kernel, rfl⟩
theorem D196_19 : rDec M196 19 (.iload 4) 2 21 := ⟨by decide +kernel, rfl⟩
theorem D196_21 : rDec M196 21 (.aload_n 0) 1 22 := ⟨by decide +kernel, rfl⟩
theorem D196_22 : rDec M196 22 (.getfield 25) 3 25 := ⟨by decide +kernel, rfl⟩
theorem D196_25 : rDec M196 25 (.if_icmp .gt 108) 3 28 := ⟨by decide +kernel, rfl⟩
theorem D196_28 : rDec M196 28 (.aload_n 0) 1 29 := ⟨by decide +kernel, rfl⟩
theorem D196_29 : rDec M196 29 (.getfield 25) 3 32 := ⟨by decide +kernel, rfl⟩
theorem D196_32 : rDec M196 32 (.newarray .boolean) 2 34 := ⟨by decide +kernel, rfl⟩
theorem D196_34 : rDec M196 34 (.astore 5) 2 36 := ⟨by decide +kernel, rfl⟩
theorem D196_36 : rDec M196 36 (.iconst 0) 1 37 := ⟨by decide +kernel, rfl⟩
theorem D196_37 : rDec M196 37 (.istore 6) 2 39 := ⟨by decide +kernel, rfl⟩
theorem D196_39 : rDec M196 39 (.iconst 0) 1 40 := ⟨by decide +kernel, rfl⟩
theorem D196_40 : rDec M196 40 (.istore 7) 2 42 := ⟨by decide +kernel, rfl⟩
theorem D196_42 : rDec M196 42 (.iload 7) 2 44 := ⟨by decide +kernel, rfl⟩
theorem D196_44 : rDec M196 44 (.aload_n 0) 1 45 := ⟨by decide +kernel, rfl⟩
theorem D196_45 : rDec M196 45 (.getfield 25) 3 48 := ⟨by decide +kernel, rfl⟩
theorem D196_48 : rDec M196 48 (.if_icmp .ge 69) 3 51 := ⟨by decide +kernel, rfl⟩
theorem D196_51 : rDec M196 51 (.aload_n 2) 1 52 := ⟨by decide +kernel, rfl⟩
theorem D196_52 : rDec M196 52 (.iload 7) 2 54 := ⟨by decide +kernel, rfl⟩
theorem D196_54 : rDec M196 54 (.baload) 1 55 := ⟨by decide +kernel, rfl⟩
theorem D196_55 : rDec M196 55 (.ifCond .eq 56) 3 58 := ⟨by decide +kernel, rfl⟩
theorem D196_58 : rDec M196 58 (.aload_n 1) 1 59 := ⟨by decide +kernel, rfl⟩
theorem D196_59 : rDec M196 59 (.iload 7) 2 61 := ⟨by decide +kernel, rfl⟩
theorem D196_61 : rDec M196 61 (.baload) 1 62 := ⟨by decide +kernel, rfl⟩
theorem D196_62 : rDec M196 62 (.ifCond .ne 6) 3 65 := ⟨by decide +kernel, rfl⟩
theorem D196_65 : rDec M196 65 (.goto 46) 3 68 := ⟨by decide +kernel, rfl⟩
theorem D196_68 : rDec M196 68 (.iconst 1) 1 69 := ⟨by decide +kernel, rfl⟩
theorem D196_69 : rDec M196 69 (.istore 6) 2 71 := ⟨by decide +kernel, rfl⟩
theorem D196_71 : rDec M196 71 (.aload_n 0) 1 72 := ⟨by decide +kernel, rfl⟩
theorem D196_72 : rDec M196 72 (.getfield 35) 3 75 := ⟨by decide +kernel, rfl⟩
theorem D196_75 : rDec M196 75 (.iload 7) 2 77 := ⟨by decide +kernel, rfl⟩
theorem D196_77 : rDec M196 77 (.baload) 1 78 := ⟨by decide +kernel, rfl⟩
theorem D196_78 : rDec M196 78 (.ifCond .eq 6) 3 81 := ⟨by decide +kernel, rfl⟩
theorem D196_81 : rDec M196 81 (.iload 4) 2 83 := ⟨by decide +kernel, rfl⟩
theorem D196_83 : rDec M196 83 (.istore_n 3) 1 84 := ⟨by decide +kernel, rfl⟩
theorem D196_84 : rDec M196 84 (.iconst 0) 1 85 := ⟨by decide +kernel, rfl⟩
theorem D196_85 : rDec M196 85 (.istore 8) 2 87 := ⟨by decide +kernel, rfl⟩
theorem D196_87 : rDec M196 87 (.iload 8) 2 89 := ⟨by decide +kernel, rfl⟩
theorem D196_89 : rDec M196 89 (.iconst 4) 1 90 := ⟨by decide +kernel, rfl⟩
theorem D196_90 : rDec M196 90 (.if_icmp .ge 21) 3 93 := ⟨by decide +kernel, rfl⟩
theorem D196_93 : rDec M196 93 (.aload 5) 2 95 := ⟨by decide +kernel, rfl⟩
theorem D196_95 : rDec M196 95 (.aload_n 0) 1 96 := ⟨by decide +kernel, rfl⟩
theorem D196_96 : rDec M196 96 (.iload 7) 2 98 := ⟨by decide +kernel, rfl⟩
theorem D196_98 : rDec M196 98 (.iload 8) 2 100 := ⟨by decide +kernel, rfl⟩
theorem D196_100 : rDec M196 100 (.invokevirtual 31) 3 103 := ⟨by decide +kernel, rfl⟩
theorem D196_103 : rDec M196 103 (.iconst 1) 1 104 := ⟨by decide +kernel, rfl⟩
theorem D196_104 : rDec M196 104 (.bastore) 1 105 := ⟨by decide +kernel, rfl⟩
theorem D196_105 : rDec M196 105 (.iinc 8 1) 3 108 := ⟨by decide +kernel, rfl⟩
theorem D196_108 : rDec M196 108 (.goto (-21)) 3 111 := ⟨by decide +kernel, rfl⟩
theorem D196_111 : rDec M196 111 (.iinc 7 1) 3 114 := ⟨by decide +kernel, rfl⟩
theorem D196_114 : rDec M196 114 (.goto (-72)) 3 117 := ⟨by decide +kernel, rfl⟩
theorem D196_117 : rDec M196 117 (.iload 6) 2 119 := ⟨by decide +kernel, rfl⟩
theorem D196_119 : rDec M196 119 (.ifCond .ne 5) 3 122 := ⟨by decide +kernel, rfl⟩
theorem D196_122 : rDec M196 122 (.iload_n 3) 1 123 := ⟨by decide +kernel, rfl⟩
theorem D196_123 : rDec M196 123 (.ireturn) 1 124 := ⟨by decide +kernel, rfl⟩
theorem D196_124 : rDec M196 124 (.aload 5) 2 126 := ⟨by decide +kernel, rfl⟩
theorem D196_126 : rDec M196 126 (.astore_n 2) 1 127 := ⟨by decide +kernel, rfl⟩
theorem D196_127 : rDec M196 127 (.iinc 4 1) 3 130 := ⟨by decide +kernel, rfl⟩
theorem D196_130 : rDec M196 130 (.goto (-111)) 3 133 := ⟨by decide +kernel, rfl⟩
theorem D196_133 : rDec M196 133 (.iconst (-1)) 1 134 := ⟨by decide +kernel, rfl⟩
theorem D196_134 : rDec M196 134 (.ireturn) 1 135 := ⟨by decide +kernel, rfl⟩
theorem P196_133 : rSnd lab M196 133 B196_133 := by
  refine s_ic D196_133 kc_i_m1 (by decide) ?_
  exact s_Ri (Or.inl rfl) D196_134.1
theorem P196_124 : rSnd lab M196 124 B196_124 := by
  refine s_Al gk5 (Or.inl D196_124) ?_
  refine s_As sk2 (show 2 < 9 from by decide) (Or.inr ⟨2, D196_126, rfl⟩) ?_
  refine s_Inc gk4 sk4 (show 4 < 9 from by decide) kc_i_1 D196_127 ?_
  exact s_Go (pc' := 19) D196_130.1 (by decide) (s_Jb rfl)
theorem P196_117 : rSnd lab M196 117 B196_117 := by
  refine s_Il gk6 (Or.inl D196_117) ?_
  refine s_If c_ne (fun _ => rfl) (fun _ _ => rfl) (b_ne (tg := 124) (by decide)) D196_119.1 P196_124 (?_ : rSnd _ _ 122 _)
  refine s_Il gk3 (Or.inr ⟨3, D196_122, rfl⟩) ?_
  exact s_Ri (Or.inl rfl) D196_123.1
theorem P196_111 : rSnd lab M196 111 B196_111 := by
  refine s_Inc gk7 sk7 (show 7 < 9 from by decide) kc_i_1 D196_111 ?_
  exact s_Go (pc' := 42) D196_114.1 (by decide) (s_Jb rfl)
theorem P196_87 : rSnd lab M196 87 B196_87 := by
  refine s_Il gk8 (Or.inl D196_87) ?_
  refine s_ic D196_89 kc_i_4 (by decide) ?_
  refine s_Ic c_ge (i_ge (tg := 111) (by decide)) D196_90.1 P196_111 (?_ : rSnd _ _ 93 _)
  refine s_Al gk5 (Or.inl D196_93) ?_
  refine s_Al gk0 (Or.inr ⟨0, D196_95, rfl⟩) ?_
  refine s_Il gk7 (Or.inl D196_96) ?_
  refine s_Il gk8 (Or.inl D196_98) ?_
  refine s_Cv (ln := 3) (kd := 40) (C := "WordWrightModel$Dfa") (by decide) (by decide +kernel) rfl (l_V rfl ok147 rfl wd1768 wd1739 wd1740 D196_100.1) (?_ : rSnd _ _ 103 _)
  refine s_ic D196_103 kc_i_1 (by decide) ?_
  refine s_Ast (t := 1) rfl q_zast rfl (by decide) D196_104 ?_
  refine s_Inc gk8 sk8 (show 8 < 9 from by decide) kc_i_1 D196_105 ?_
  exact s_Go (pc' := 87) D196_108.1 (by decide) (s_Jb rfl)
theorem P196_84 : rSnd lab M196 84 B196_84 := by
  refine s_ic D196_84 kc_i_0 (by decide) ?_
  refine s_Is sk8 (show 8 < 9 from by decide) (Or.inl D196_85) ?_
  exact P196_87
theorem P196_68 : rSnd lab M196 68 B196_68 := by
  refine s_ic D196_68 kc_i_1 (by decide) ?_
  refine s_Is sk6 (show 6 < 9 from by decide) (Or.inl D196_69) ?_
  refine s_Al gk0 (Or.inr ⟨0, D196_71, rfl⟩) ?_
  refine s_Gf (ci := 19) (r := ("WordWrightModel$Dfa", kT19, 3)) rfl (show 2 < 3 from by decide) rfl (Or.inl wd1827) (Or.inl rfl) rfl D196_72 ?_
  refine s_Il gk7 (Or.inl D196_75) ?_
  refine s_Ald (t := 1) (ty := .boolean) rfl q_zald rfl D196_77 ?_
  refine s_If c_eq (fun _ => rfl) (fun _ _ => rfl) (b_eq (tg := 84) (by decide)) D196_78.1 P196_84 (?_ : rSnd _ _ 81 _)
  refine s_Il gk4 (Or.inl D196_81) ?_
  refine s_Is sk3 (show 3 < 9 from by decide) (Or.inr ⟨3, D196_83, rfl⟩) ?_
  exact P196_84
theorem P196_42 : rSnd lab M196 42 B196_42 := by
  refine s_Il gk7 (Or.inl D196_42) ?_
  refine s_Al gk0 (Or.inr ⟨0, D196_44, rfl⟩) ?_
  refine s_Gf (ci := 19) (r := ("WordWrightModel$Dfa", kT19, 3)) rfl (show 0 < 3 from by decide) rfl (Or.inl wd1818) (Or.inl rfl) rfl D196_45 ?_
  refine s_Ic c_ge (i_ge (tg := 117) (by decide)) D196_48.1 P196_117 (?_ : rSnd _ _ 51 _)
  refine s_Al gk2 (Or.inr ⟨2, D196_51, rfl⟩) ?_
  refine s_Il gk7 (Or.inl D196_52) ?_
  refine s_Ald (t := 1) (ty := .boolean) rfl q_zald rfl D196_54 ?_
  refine s_If c_eq (fun _ => rfl) (fun _ _ => rfl) (b_eq (tg := 111) (by decide)) D196_55.1 P196_111 (?_ : rSnd _ _ 58 _)
  refine s_Al gk1 (Or.inr ⟨1, D196_58, rfl⟩) ?_
  refine s_Il gk7 (Or.inl D196_59) ?_
  refine s_Ald (t := 1) (ty := .boolean) rfl q_zald rfl D196_61 ?_
  refine s_If c_ne (fun _ => rfl) (fun _ _ => rfl) (b_ne (tg := 68) (by decide)) D196_62.1 P196_68 (?_ : rSnd _ _ 65 _)
  exact s_Go (pc' := 111) D196_65.1 (by decide) P196_111
theorem P196_19 : rSnd lab M196 19 B196_19 := by
  refine s_Il gk4 (Or.inl D196_19) ?_
  refine s_Al gk0 (Or.inr ⟨0, D196_21, rfl⟩) ?_
  refine s_Gf (ci := 19) (r := ("WordWrightModel$Dfa", kT19, 3)) rfl (show 0 < 3 from by decide) rfl (Or.inl wd1818) (Or.inl rfl) rfl D196_22 ?_
  refine s_Ic c_gt (i_gt (tg := 133) (by decide)) D196_25.1 P196_133 (?_ : rSnd _ _ 28 _)
  refine s_Al gk0 (Or.inr ⟨0, D196_28, rfl⟩) ?_
  refine s_Gf (ci := 19) (r := ("WordWrightModel$Dfa", kT19, 3)) rfl (show 0 < 3 from by decide) rfl (Or.inl wd1818) (Or.inl rfl) rfl D196_29 ?_
  refine s_Nwa (t := 1) rfl (q_newa (at_ := .boolean) (Or.inr (Or.inr rfl))) (fun ht _ => ht _ wd147) D196_32 ?_
  refine s_As sk5 (show 5 < 9 from by decide) (Or.inl D196_34) ?_
  refine s_ic D196_36 kc_i_0 (by decide) ?_
  refine s_Is sk6 (show 6 < 9 from by decide) (Or.inl D196_37) ?_
  refine s_ic D196_39 kc_i_0 (by decide) ?_
  refine s_Is sk7 (show 7 < 9 from by decide) (Or.inl D196_40) ?_
  exact P196_42
theorem P196_0 : rSnd lab M196 0 B196_0 := by
  refine s_Ent ?_
  refine s_Al gk0 (Or.inr ⟨0, D196_0, rfl⟩) ?_
  refine s_Cv (ln := 3) (kd := 40) (C := "WordWrightModel$Dfa") (by decide) (by decide +kernel) rfl (l_V rfl ok151 rfl wd2187 wd2188 wd2189 D196_1.1) (?_ : rSnd _ _ 4 _)
  refine s_As sk1 (show 1 < 9 from by decide) (Or.inr ⟨1, D196_4, rfl⟩) ?_
  refine s_Al gk0 (Or.inr ⟨0, D196_5, rfl⟩) ?_
  refine s_Gf (ci := 19) (r := ("WordWrightModel$Dfa", kT19, 3)) rfl (show 0 < 3 from by decide) rfl (Or.inl wd1818) (Or.inl rfl) rfl D196_6 ?_
  refine s_ic D196_9 kc_i_0 (by decide) ?_
  refine s_Cs (id := 291) rfl (l_S rfl ok211 rfl wd2381 wd2311 D196_10.1) (?_ : rSnd _ _ 13 _)
  refine s_As sk2 (show 2 < 9 from by decide) (Or.inr ⟨2, D196_13, rfl⟩) ?_
  refine s_ic D196_14 kc_i_m1 (by decide) ?_
  refine s_Is sk3 (show 3 < 9 from by decide) (Or.inr ⟨3, D196_15, rfl⟩) ?_
  refine s_ic D196_16 kc_i_0 (by decide) ?_
  refine s_Is sk4 (show 4 < 9 from by decide) (Or.inl D196_17) ?_
  exact P196_19
theorem D197_0 : rDec M197 0 (.aload_n 0) 1 1 := ⟨by decide +kernel, rfl⟩
theorem D197_1 : rDec M197 1 (.iconst 0) 1 2 := ⟨by decide +kernel, rfl⟩
theorem D197_2 : rDec M197 2 (.putfield 145) 3 5 := ⟨by decide +kernel, rfl⟩
theorem D197_5 : rDec M197 5 (.iload_n 1) 1 6 := ⟨by decide +kernel, rfl⟩
theorem D197_6 : rDec M197 6 (.ifCond .lt 16) 3 9 := ⟨by decide +kernel, rfl⟩
theorem D197_9 : rDec M197 9 (.iload_n 1) 1 10 := ⟨by decide +kernel, rfl⟩
theorem D197_10 : rDec M197 10 (.aload_n 0) 1 11 := ⟨by decide +kernel, rfl⟩
theorem D197_11 : rDec M197 11 (.getfield 110) 3 14 := ⟨by decide +kernel, rfl⟩
theorem D197_14 : rDec M197 14 (.invokeinterface 148 1) 5 19 := ⟨by decide +kernel, rfl⟩
theorem D197_19 : rDec M197 19 (.if_icmp .lt 9) 3 22 := ⟨by decide +kernel, rfl⟩
theorem D197_22 : rDec M197 22 (.aload_n 0) 1 23 := ⟨by decide +kernel, rfl⟩
theorem D197_23 : rDec M197 23 (.iconst 1) 1 24 := ⟨by decide +kernel, rfl⟩
theorem D197_24 : rDec M197 24 (.invokevirtual 191) 3 27 := ⟨by decide +kernel, rfl⟩
theorem D197_27 : rDec M197 27 (.ireturn) 1 28 := ⟨by decide +kernel, rfl⟩
theorem P197_22 : rSnd lab M197 22 B197_22 := by
  refine s_Al gk0 (Or.inr ⟨0, D197_22, rfl⟩) ?_
  refine s_ic D197_23 kc_i_1 (by decide) ?_
  refine s_Cv (ln := 3) (kd := 24) (C := "WordWrightModel") (by decide) (by decide +kernel) rfl (l_V rfl ok207 rfl wd2084 wd2086 ws65 D197_24.1) (?_ : rSnd _ _ 27 _)
  exact s_Ri (Or.inl rfl) D197_27.1
theorem P197_0 : rSnd lab M197 0 B197_0 := by
  refine s_Ent ?_
  refine s_Al gk0 (Or.inr ⟨0, D197_0, rfl⟩) ?_
  refine s_ic D197_1 kc_i_0 (by decide) ?_
  refine s_Pf (ci := 11) (r := ("WordWrightModel", kT11, 10)) rfl (show 0 < 10 from by decide) rfl (Or.inl ⟨rfl, Or.inl wd2025⟩) (Or.inl rfl) rfl (by decide) D197_2 ?_
  refine s_Il gk1 (Or.inr ⟨1, D197_5, rfl⟩) ?_
  refine s_If c_lt (fun _ => rfl) (fun _ _ => rfl) (b_lt (tg := 22) (by decide)) D197_6.1 P197_22 (?_ : rSnd _ _ 9 _)
  refine s_Il gk1 (Or.inr ⟨1, D197_9, rfl⟩) ?_
  refine s_Al gk0 (Or.inr ⟨0, D197_10, rfl⟩) ?_
  refine s_Gf (ci := 11) (r := ("WordWrightModel", kT11, 10)) rfl (show 3 < 10 from by decide) rfl (Or.inl wd2031) (Or.inl rfl) rfl D197_11 ?_
  refine s_Cv (ln := 5) (kd := 50) (C := "java/util/ArrayList") (by decide) (by decide +kernel) rfl (l_F (C := "java/util/ArrayList") (x := ({ cls := "java/util/List", name := "size", desc := "()I" } : Jvm.MethodName)) (ci := 24) (r := ("java/util/ArrayList", kT24, 3)) rfl rfl rfl ok15 rfl rfl (by decide) (List.mem_of_getElem? (i := 4) rfl) wd2073 wd2078 wd2076 D197_14.1) (?_ : rSnd _ _ 19 _)
  refine s_Ic c_lt (i_lt (tg := 28) (by decide)) D197_19.1 rSnd_none (?_ : rSnd _ _ 22 _)
  exact P197_22
theorem D198_0 : rDec M198 0 (.aload_n 0) 1 1 := ⟨by decide +kernel, rfl⟩
theorem D198_1 : rDec M198 1 (.iconst 0) 1 2 := ⟨by decide +kernel, rfl⟩
theorem D198_2 : rDec M198 2 (.putfield 145) 3 5 := ⟨by decide +kernel, rfl⟩
theorem D198_5 : rDec M198 5 (.aload_n 0) 1 6 := ⟨by decide +kernel, rfl⟩
theorem D198_6 : rDec M198 6 (.getfield 110) 3 9 := ⟨by decide +kernel, rfl⟩
theorem D198_9 : rDec M198 9 (.invokeinterface 148 1) 5 14 := ⟨by decide +kernel, rfl⟩
theorem D198_14 : rDec M198 14 (.bipush 6) 2 16 := ⟨by decide +kernel, rfl⟩
theorem D198_16 : rDec M198 16 (.if_icmp .lt 9) 3 19 := ⟨by decide +kernel, rfl⟩
theorem D198_25 : rDec M198 25 (.aload_n 0) 1 26 := ⟨by decide +kernel, rfl⟩
theorem D198_26 : rDec M198 26 (.getfield 110) 3 29 := ⟨by decide +kernel, rfl⟩
theorem D198_29 : rDec M198 29 (.new 177) 3 32 := ⟨by decide +kernel, rfl⟩
theorem D198_32 : rDec M198 32 (.dup) 1 33 := ⟨by decide +kernel, rfl⟩
theorem D198_33 : rDec M198 33 (.invokespecial 245) 3 36 := ⟨by decide +kernel, rfl⟩
theorem D198_36 : rDec M198 36 (.invokeinterface 133 2) 5 41 := ⟨by decide +kernel, rfl⟩
theorem D198_41 : rDec M198 41 (.pop) 1 42 := ⟨by decide +kernel, rfl⟩
theorem D198_42 : rDec M198 42 (.aload_n 0) 1 43 := ⟨by decide +kernel, rfl⟩
theorem D198_43 : rDec M198 43 (.getfield 110) 3 46 := ⟨by decide +kernel, rfl⟩
theorem D198_46 : rDec M198 46 (.invokeinterface 148 1) 5 51 := ⟨by decide +kernel, rfl⟩
theorem D198_51 : rDec M198 51 (.iconst 1) 1 52 := ⟨by decide +kernel, rfl⟩
theorem D198_52 : rDec M198 52 (.isub) 1 53 := ⟨by decide +kernel, rfl⟩
theorem D198_53 : rDec M198 53 (.ireturn) 1 54 := ⟨by decide +kernel, rfl⟩
theorem P198_25 : rSnd lab M198 25 B198_25 := by
  refine s_Al gk0 (Or.inr ⟨0, D198_25, rfl⟩) ?_
  refine s_Gf (ci := 11) (r := ("WordWrightModel", kT11, 10)) rfl (show 3 < 10 from by decide) rfl (Or.inl wd2031) (Or.inl rfl) rfl D198_26 ?_
  refine s_New (ci := 21) (r := ("WordWrightModel$Machine", kT21, 6)) rfl rfl wd2208 wd2418 wd46 kr21 D198_29 ?_
  refine s_Dup D198_32 ?_
  refine s_Ci (id := 194) rfl (l_IN (j := 23) rfl ok157 rfl rfl rfl rfl wd2420 D198_33.1) (?_ : rSnd _ _ 36 _)
  refine s_Cv (ln := 5) (kd := 50) (C := "java/util/ArrayList") (by decide) (by decide +kernel) rfl (l_F (C := "java/util/ArrayList") (x := ({ cls := "java/util/List", name := "add", desc := "(Ljava/lang/Object;)Z" } : Jvm.MethodName)) (ci := 24) (r := ("java/util/ArrayList", kT24, 3)) rfl rfl rfl ok7 rfl rfl (by decide) (List.mem_of_getElem? (i := 0) rfl) wd1951 wd1957 wd1955 D198_36.1) (?_ : rSnd _ _ 41 _)
  refine s_Pop D198_41 ?_
  refine s_Al gk0 (Or.inr ⟨0, D198_42, rfl⟩) ?_
  refine s_Gf (ci := 11) (r := ("WordWrightModel", kT11, 10)) rfl (show 3 < 10 from by decide) rfl (Or.inl wd2031) (Or.inl rfl) rfl D198_43 ?_
  refine s_Cv (ln := 5) (kd := 50) (C := "java/util/ArrayList") (by decide) (by decide +kernel) rfl (l_F (C := "java/util/ArrayList") (x := ({ cls := "java/util/List", name := "size", desc := "()I" } : Jvm.MethodName)) (ci := 24) (r := ("java/util/ArrayList", kT24, 3)) rfl rfl rfl ok15 rfl rfl (by decide) (List.mem_of_getElem? (i := 4) rfl) wd2073 wd2078 wd2076 D198_46.1) (?_ : rSnd _ _ 51 _)
  refine s_ic D198_51 kc_i_1 (by decide) ?_
  refine s_Bin q_isub n_sub rG2_x rE2_x D198_52 ?_
  exact s_Ri (Or.inl rfl) D198_53.1
theorem P198_0 : rSnd lab M198 0 B198_0 := by
  refine s_Ent ?_
  refine s_Al gk0 (Or.inr ⟨0, D198_0, rfl⟩) ?_
  refine s_ic D198_1 kc_i_0 (by decide) ?_
  refine s_Pf (ci := 11) (r := ("WordWrightModel", kT11, 10)) rfl (show 0 < 10 from by decide) rfl (Or.inl ⟨rfl, Or.inl wd2025⟩) (Or.inl rfl) rfl (by decide) D198_2 ?_
  refine s_Al gk0 (Or.inr ⟨0, D198_5, rfl⟩) ?_
  refine s_Gf (ci := 11) (r := ("WordWrightModel", kT11, 10)) rfl (show 3 < 10 from by decide) rfl (Or.inl wd2031) (Or.inl rfl) rfl D198_6 ?_
  refine s_Cv (ln := 5) (kd := 50) (C := "java/util/ArrayList") (by decide) (by decide +kernel) rfl (l_F (C := "java/util/ArrayList") (x := ({ cls := "java/util/List", name := "size", desc := "()I" } : Jvm.MethodName)) (ci := 24) (r := ("java/util/ArrayList", kT24, 3)) rfl rfl rfl ok15 rfl rfl (by decide) (List.mem_of_getElem? (i := 4) rfl) wd2073 wd2078 wd2076 D198_9.1) (?_ : rSnd _ _ 14 _)
  refine s_bi D198_14 kc_b_6 (by decide) ?_
  refine s_Ic c_lt (i_lt (tg := 25) (by decide)) D198_16.1 P198_25 (?_ : rSnd _ _ 19 _)
  exact rSnd_none
