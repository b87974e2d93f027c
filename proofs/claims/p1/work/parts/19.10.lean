-- ===== rows and blocks, 10 =====
theorem D223_0 : rDec M223 0 (.aload_n 0) 1 1 := ⟨by decide +kernel, rfl⟩
theorem D223_1 : rDec M223 1 (.iconst 0) 1 2 := ⟨by decide +kernel, rfl⟩
theorem D223_2 : rDec M223 2 (.putfield 145) 3 5 := ⟨by decide +kernel, rfl⟩
theorem D223_5 : rDec M223 5 (.iload_n 1) 1 6 := ⟨by decide +kernel, rfl⟩
theorem D223_6 : rDec M223 6 (.bipush 7) 2 8 := ⟨by decide +kernel, rfl⟩
theorem D223_8 : rDec M223 8 (.invokestatic 151) 3 11 := ⟨by decide +kernel, rfl⟩
theorem D223_11 : rDec M223 11 (.ifCond .eq 13) 3 14 := ⟨by decide +kernel, rfl⟩
theorem D223_14 : rDec M223 14 (.iload 4) 2 16 := ⟨by decide +kernel, rfl⟩
theorem D223_16 : rDec M223 16 (.bipush 11) 2 18 := ⟨by decide +kernel, rfl⟩
theorem D223_18 : rDec M223 18 (.invokestatic 151) 3 21 := ⟨by decide +kernel, rfl⟩
theorem D223_21 : rDec M223 21 (.ifCond .ne 9) 3 24 := ⟨by decide +kernel, rfl⟩
theorem D223_24 : rDec M223 24 (.aload_n 0) 1 25 := ⟨by decide +kernel, rfl⟩
theorem D223_25 : rDec M223 25 (.iconst 1) 1 26 := ⟨by decide +kernel, rfl⟩
theorem D223_26 : rDec M223 26 (.invokevirtual 191) 3 29 := ⟨by decide +kernel, rfl⟩
theorem D223_29 : rDec M223 29 (.ireturn) 1 30 := ⟨by decide +kernel, rfl⟩
theorem D223_30 : rDec M223 30 (.iload_n 2) 1 31 := ⟨by decide +kernel, rfl⟩
theorem D223_31 : rDec M223 31 (.iconst 3) 1 32 := ⟨by decide +kernel, rfl⟩
theorem D223_32 : rDec M223 32 (.invokestatic 151) 3 35 := ⟨by decide +kernel, rfl⟩
theorem D223_35 : rDec M223 35 (.istore 5) 2 37 := ⟨by decide +kernel, rfl⟩
theorem D223_37 : rDec M223 37 (.iload_n 3) 1 38 := ⟨by decide +kernel, rfl⟩
theorem D223_38 : rDec M223 38 (.aload_n 0) 1 39 := ⟨by decide +kernel, rfl⟩
theorem D223_39 : rDec M223 39 (.getfield 106) 3 42 := ⟨by decide +kernel, rfl⟩
theorem D223_42 : rDec M223 42 (.invokeinterface 148 1) 5 47 := ⟨by decide +kernel, rfl⟩
theorem D223_47 : rDec M223 47 (.invokestatic 151) 3 50 := ⟨by decide +kernel, rfl⟩
theorem D223_50 : rDec M223 50 (.istore 6) 2 52 := ⟨by decide +kernel, rfl⟩
theorem D223_52 : rDec M223 52 (.iload_n 1) 1 53 := ⟨by decide +kernel, rfl⟩
theorem D223_53 : rDec M223 53 (.iconst 5) 1 54 := ⟨by decide +kernel, rfl⟩
theorem D223_54 : rDec M223 54 (.if_icmp .ne 19) 3 57 := ⟨by decide +kernel, rfl⟩
theorem D223_57 : rDec M223 57 (.iload_n 2) 1 58 := ⟨by decide +kernel, rfl⟩
theorem D223_58 : rDec M223 58 (.ifCond .ne 11) 3 61 := ⟨by decide +kernel, rfl⟩
theorem D223_61 : rDec M223 61 (.iload_n 3) 1 62 := ⟨by decide +kernel, rfl⟩
theorem D223_62 : rDec M223 62 (.ifCond .ne 7) 3 65 := ⟨by decide +kernel, rfl⟩
theorem D223_65 : rDec M223 65 (.iconst 1) 1 66 := ⟨by decide +kernel, rfl⟩
theorem D223_66 : rDec M223 66 (.goto 77) 3 69 := ⟨by decide +kernel, rfl⟩
theorem D223_69 : rDec M223 69 (.iconst 0) 1 70 := ⟨by decide +kernel, rfl⟩
theorem D223_70 : rDec M223 70 (.goto 73) 3 73 := ⟨by decide +kernel, rfl⟩
theorem D223_73 : rDec M223 73 (.iload 5) 2 75 := ⟨by decide +kernel, rfl⟩
theorem D223_75 : rDec M223 75 (.ifCond .eq 67) 3 78 := ⟨by decide +kernel, rfl⟩
theorem D223_78 : rDec M223 78 (.iload_n 1) 1 79 := ⟨by decide +kernel, rfl⟩
theorem D223_79 : rDec M223 79 (.iconst 1) 1 80 := ⟨by decide +kernel, rfl⟩
theorem D223_80 : rDec M223 80 (.if_icmp .eq 8) 3 83 := ⟨by decide +kernel, rfl⟩
theorem D223_83 : rDec M223 83 (.iload_n 1) 1 84 := ⟨by decide +kernel, rfl⟩
theorem D223_84 : rDec M223 84 (.iconst 2) 1 85 := ⟨by decide +kernel, rfl⟩
theorem D223_85 : rDec M223 85 (.if_icmp .ne 14) 3 88 := ⟨by decide +kernel, rfl⟩
theorem D223_88 : rDec M223 88 (.iload_n 3) 1 89 := ⟨by decide +kernel, rfl⟩
theorem D223_89 : rDec M223 89 (.iconst 3) 1 90 := ⟨by decide +kernel, rfl⟩
theorem D223_90 : rDec M223 90 (.invokestatic 151) 3 93 := ⟨by decide +kernel, rfl⟩
theorem D223_93 : rDec M223 93 (.ifCond .eq 49) 3 96 := ⟨by decide +kernel, rfl⟩
theorem D223_96 : rDec M223 96 (.goto 32) 3 99 := ⟨by decide +kernel, rfl⟩
theorem D223_99 : rDec M223 99 (.iload_n 1) 1 100 := ⟨by decide +kernel, rfl⟩
theorem D223_100 : rDec M223 100 (.iconst 3) 1 101 := ⟨by decide +kernel, rfl⟩
theorem D223_101 : rDec M223 101 (.if_icmp .ne 22) 3 104 := ⟨by decide +kernel, rfl⟩
theorem D223_104 : rDec M223 104 (.iload_n 3) 1 105 := ⟨by decide +kernel, rfl⟩
theorem D223_105 : rDec M223 105 (.aload_n 0) 1 106 := ⟨by decide +kernel, rfl⟩
theorem D223_106 : rDec M223 106 (.getfield 110) 3 109 := ⟨by decide +kernel, rfl⟩
theorem D223_109 : rDec M223 109 (.invokeinterface 148 1) 5 114 := ⟨by decide +kernel, rfl⟩
theorem D223_114 : rDec M223 114 (.invokestatic 151) 3 117 := ⟨by decide +kernel, rfl⟩
theorem D223_117 : rDec M223 117 (.ifCond .eq 25) 3 120 := ⟨by decide +kernel, rfl⟩
theorem D223_123 : rDec M223 123 (.iload 6) 2 125 := ⟨by decide +kernel, rfl⟩
theorem D223_125 : rDec M223 125 (.ifCond .eq 17) 3 128 := ⟨by decide +kernel, rfl⟩
theorem D223_128 : rDec M223 128 (.iload_n 1) 1 129 := ⟨by decide +kernel, rfl⟩
theorem D223_129 : rDec M223 129 (.iconst 4) 1 130 := ⟨by decide +kernel, rfl⟩
theorem D223_130 : rDec M223 130 (.if_icmp .eq 8) 3 133 := ⟨by decide +kernel, rfl⟩
theorem D223_133 : rDec M223 133 (.iload 4) 2 135 := ⟨by decide +kernel, rfl⟩
theorem D223_135 : rDec M223 135 (.ifCond .ne 7) 3 138 := ⟨by decide +kernel, rfl⟩
theorem D223_138 : rDec M223 138 (.iconst 1) 1 139 := ⟨by decide +kernel, rfl⟩
theorem D223_139 : rDec M223 139 (.goto 4) 3 142 := ⟨by decide +kernel, rfl⟩
theorem D223_142 : rDec M223 142 (.iconst 0) 1 143 := ⟨by decide +kernel, rfl⟩
theorem D223_143 : rDec M223 143 (.istore 7) 2 145 := ⟨by decide +kernel, rfl⟩
theorem D223_145 : rDec M223 145 (.iload 7) 2 147 := ⟨by decide +kernel, rfl⟩
theorem D223_147 : rDec M223 147 (.ifCond .ne 9) 3 150 := ⟨by decide +kernel, rfl⟩
theorem D223_150 : rDec M223 150 (.aload_n 0) 1 151 := ⟨by decide +kernel, rfl⟩
theorem D223_151 : rDec M223 151 (.iconst 1) 1 152 := ⟨by decide +kernel, rfl⟩
theorem D223_152 : rDec M223 152 (.invokevirtual 191) 3 155 := ⟨by decide +kernel, rfl⟩
theorem D223_155 : rDec M223 155 (.ireturn) 1 156 := ⟨by decide +kernel, rfl⟩
theorem D223_156 : rDec M223 156 (.aload_n 0) 1 157 := ⟨by decide +kernel, rfl⟩
theorem D223_157 : rDec M223 157 (.getfield 130) 3 160 := ⟨by decide +kernel, rfl⟩
theorem D223_160 : rDec M223 160 (.invokeinterface 148 1) 5 165 := ⟨by decide +kernel, rfl⟩
theorem D223_165 : rDec M223 165 (.bipush 10) 2 167 := ⟨by decide +kernel, rfl⟩
theorem D223_167 : rDec M223 167 (.if_icmp .lt 9) 3 170 := ⟨by decide +kernel, rfl⟩
theorem D223_176 : rDec M223 176 (.aload_n 0) 1 177 := ⟨by decide +kernel, rfl⟩
theorem D223_177 : rDec M223 177 (.getfield 130) 3 180 := ⟨by decide +kernel, rfl⟩
theorem D223_180 : rDec M223 180 (.new 356) 3 183 := ⟨by decide +kernel, rfl⟩
theorem D223_183 : rDec M223 183 (.dup) 1 184 := ⟨by decide +kernel, rfl⟩
theorem D223_184 : rDec M223 184 (.iload_n 1) 1 185 := ⟨by decide +kernel, rfl⟩
theorem D223_185 : rDec M223 185 (.iload_n 2) 1 186 := ⟨by decide +kernel, rfl⟩
theorem D223_186 : rDec M223 186 (.iload_n 3) 1 187 := ⟨by decide +kernel, rfl⟩
theorem D223_187 : rDec M223 187 (.iload 4) 2 189 := ⟨by decide +kernel, rfl⟩
theorem D223_189 : rDec M223 189 (.invokespecial 358) 3 192 := ⟨by decide +kernel, rfl⟩
theorem D223_192 : rDec M223 192 (.invokeinterface 133 2) 5 197 := ⟨by decide +kernel, rfl⟩
theorem D223_197 : rDec M223 197 (.pop) 1 198 := ⟨by decide +kernel, rfl⟩
theorem D223_198 : rDec M223 198 (.aload_n 0) 1 199 := ⟨by decide +kernel, rfl⟩
theorem D223_199 : rDec M223 199 (.getfield 130) 3 202 := ⟨by decide +kernel, rfl⟩
theorem D223_202 : rDec M223 202 (.invokeinterface 148 1) 5 207 := ⟨by decide +kernel, rfl⟩
theorem D223_207 : rDec M223 207 (.iconst 1) 1 208 := ⟨by decide +kernel, rfl⟩
theorem D223_208 : rDec M223 208 (.isub) 1 209 := ⟨by decide +kernel, rfl⟩
theorem D223_209 : rDec M223 209 (.ireturn) 1 210 := ⟨by decide +kernel, rfl⟩
theorem P223_176 : rSnd lab M223 176 B223_176 := by
  refine s_Al gk0 (Or.inr ⟨0, D223_176, rfl⟩) ?_
  refine s_Gf (ci := 11) (r := ("WordWrightModel", kT11, 10)) rfl (show 9 < 10 from by decide) rfl (Or.inl wd2038) (Or.inl rfl) rfl D223_177 ?_
  refine s_New (ci := 23) (r := ("WordWrightModel$Step", kT23, 4)) rfl rfl wd2716 wd2717 wd54 kr23 D223_180 ?_
  refine s_Dup D223_183 ?_
  refine s_Il gk1 (Or.inr ⟨1, D223_184, rfl⟩) ?_
  refine s_Il gk2 (Or.inr ⟨2, D223_185, rfl⟩) ?_
  refine s_Il gk3 (Or.inr ⟨3, D223_186, rfl⟩) ?_
  refine s_Il gk4 (Or.inl D223_187) ?_
  refine s_Ci (id := 203) rfl (l_I rfl ok162 rfl rfl rfl wd2718 wd2719 D223_189.1) (?_ : rSnd _ _ 192 _)
  refine s_Cv (ln := 5) (kd := 50) (C := "java/util/ArrayList") (by decide) (by decide +kernel) rfl (l_F (C := "java/util/ArrayList") (x := ({ cls := "java/util/List", name := "add", desc := "(Ljava/lang/Object;)Z" } : Jvm.MethodName)) (ci := 24) (r := ("java/util/ArrayList", kT24, 3)) rfl rfl rfl ok7 rfl rfl (by decide) (List.mem_of_getElem? (i := 0) rfl) wd1951 wd1957 wd1955 D223_192.1) (?_ : rSnd _ _ 197 _)
  refine s_Pop D223_197 ?_
  refine s_Al gk0 (Or.inr ⟨0, D223_198, rfl⟩) ?_
  refine s_Gf (ci := 11) (r := ("WordWrightModel", kT11, 10)) rfl (show 9 < 10 from by decide) rfl (Or.inl wd2038) (Or.inl rfl) rfl D223_199 ?_
  refine s_Cv (ln := 5) (kd := 50) (C := "java/util/ArrayList") (by decide) (by decide +kernel) rfl (l_F (C := "java/util/ArrayList") (x := ({ cls := "java/util/List", name := "size", desc := "()I" } : Jvm.MethodName)) (ci := 24) (r := ("java/util/ArrayList", kT24, 3)) rfl rfl rfl ok15 rfl rfl (by decide) (List.mem_of_getElem? (i := 4) rfl) wd2073 wd2078 wd2076 D223_202.1) (?_ : rSnd _ _ 207 _)
  refine s_ic D223_207 kc_i_1 (by decide) ?_
  refine s_Bin q_isub n_sub rG2_x rE2_x D223_208 ?_
  exact s_Ri (Or.inl rfl) D223_209.1
theorem P223_156 : rSnd lab M223 156 B223_156 := by
  refine s_Al gk0 (Or.inr ⟨0, D223_156, rfl⟩) ?_
  refine s_Gf (ci := 11) (r := ("WordWrightModel", kT11, 10)) rfl (show 9 < 10 from by decide) rfl (Or.inl wd2038) (Or.inl rfl) rfl D223_157 ?_
  refine s_Cv (ln := 5) (kd := 50) (C := "java/util/ArrayList") (by decide) (by decide +kernel) rfl (l_F (C := "java/util/ArrayList") (x := ({ cls := "java/util/List", name := "size", desc := "()I" } : Jvm.MethodName)) (ci := 24) (r := ("java/util/ArrayList", kT24, 3)) rfl rfl rfl ok15 rfl rfl (by decide) (List.mem_of_getElem? (i := 4) rfl) wd2073 wd2078 wd2076 D223_160.1) (?_ : rSnd _ _ 165 _)
  refine s_bi D223_165 kc_b_10 (by decide) ?_
  refine s_Ic c_lt (i_lt (tg := 176) (by decide)) D223_167.1 P223_176 (?_ : rSnd _ _ 170 _)
  exact rSnd_none
theorem P223_143 : rSnd lab M223 143 B223_143 := by
  refine s_Is sk7 (show 7 < 8 from by decide) (Or.inl D223_143) ?_
  refine s_Il gk7 (Or.inl D223_145) ?_
  refine s_If c_ne (fun _ => rfl) (fun _ _ => rfl) (b_ne (tg := 156) (by decide)) D223_147.1 P223_156 (?_ : rSnd _ _ 150 _)
  refine s_Al gk0 (Or.inr ⟨0, D223_150, rfl⟩) ?_
  refine s_ic D223_151 kc_i_1 (by decide) ?_
  refine s_Cv (ln := 3) (kd := 24) (C := "WordWrightModel") (by decide) (by decide +kernel) rfl (l_V rfl ok207 rfl wd2084 wd2086 ws65 D223_152.1) (?_ : rSnd _ _ 155 _)
  exact s_Ri (Or.inl rfl) D223_155.1
theorem P223_142 : rSnd lab M223 142 B223_142 := by
  refine s_ic D223_142 kc_i_0 (by decide) ?_
  exact P223_143
theorem P223_138 : rSnd lab M223 138 B223_138 := by
  refine s_ic D223_138 kc_i_1 (by decide) ?_
  exact s_Go (pc' := 143) D223_139.1 (by decide) P223_143
theorem P223_128 : rSnd lab M223 128 B223_128 := by
  refine s_Il gk1 (Or.inr ⟨1, D223_128, rfl⟩) ?_
  refine s_ic D223_129 kc_i_4 (by decide) ?_
  refine s_Ic c_eq (i_eq (tg := 138) (by decide)) D223_130.1 P223_138 (?_ : rSnd _ _ 133 _)
  refine s_Il gk4 (Or.inl D223_133) ?_
  refine s_If c_ne (fun _ => rfl) (fun _ _ => rfl) (b_ne (tg := 142) (by decide)) D223_135.1 P223_142 (?_ : rSnd _ _ 138 _)
  exact P223_138
theorem P223_123 : rSnd lab M223 123 B223_123 := by
  refine s_Il gk6 (Or.inl D223_123) ?_
  refine s_If c_eq (fun _ => rfl) (fun _ _ => rfl) (b_eq (tg := 142) (by decide)) D223_125.1 P223_142 (?_ : rSnd _ _ 128 _)
  exact P223_128
theorem P223_99 : rSnd lab M223 99 B223_99 := by
  refine s_Il gk1 (Or.inr ⟨1, D223_99, rfl⟩) ?_
  refine s_ic D223_100 kc_i_3 (by decide) ?_
  refine s_Ic c_ne (i_ne (tg := 123) (by decide)) D223_101.1 P223_123 (?_ : rSnd _ _ 104 _)
  refine s_Il gk3 (Or.inr ⟨3, D223_104, rfl⟩) ?_
  refine s_Al gk0 (Or.inr ⟨0, D223_105, rfl⟩) ?_
  refine s_Gf (ci := 11) (r := ("WordWrightModel", kT11, 10)) rfl (show 3 < 10 from by decide) rfl (Or.inl wd2031) (Or.inl rfl) rfl D223_106 ?_
  refine s_Cv (ln := 5) (kd := 50) (C := "java/util/ArrayList") (by decide) (by decide +kernel) rfl (l_F (C := "java/util/ArrayList") (x := ({ cls := "java/util/List", name := "size", desc := "()I" } : Jvm.MethodName)) (ci := 24) (r := ("java/util/ArrayList", kT24, 3)) rfl rfl rfl ok15 rfl rfl (by decide) (List.mem_of_getElem? (i := 4) rfl) wd2073 wd2078 wd2076 D223_109.1) (?_ : rSnd _ _ 114 _)
  refine s_Cs (id := 250) rfl (l_S rfl ok185 rfl wd2081 wd2082 D223_114.1) (?_ : rSnd _ _ 117 _)
  refine s_If c_eq (fun _ => rfl) (fun _ _ => rfl) (b_eq (tg := 142) (by decide)) D223_117.1 P223_142 (?_ : rSnd _ _ 120 _)
  exact rSnd_none
theorem P223_88 : rSnd lab M223 88 B223_88 := by
  refine s_Il gk3 (Or.inr ⟨3, D223_88, rfl⟩) ?_
  refine s_ic D223_89 kc_i_3 (by decide) ?_
  refine s_Cs (id := 250) rfl (l_S rfl ok185 rfl wd2081 wd2082 D223_90.1) (?_ : rSnd _ _ 93 _)
  refine s_If c_eq (fun _ => rfl) (fun _ _ => rfl) (b_eq (tg := 142) (by decide)) D223_93.1 P223_142 (?_ : rSnd _ _ 96 _)
  exact s_Go (pc' := 128) D223_96.1 (by decide) P223_128
theorem P223_73 : rSnd lab M223 73 B223_73 := by
  refine s_Il gk5 (Or.inl D223_73) ?_
  refine s_If c_eq (fun _ => rfl) (fun _ _ => rfl) (b_eq (tg := 142) (by decide)) D223_75.1 P223_142 (?_ : rSnd _ _ 78 _)
  refine s_Il gk1 (Or.inr ⟨1, D223_78, rfl⟩) ?_
  refine s_ic D223_79 kc_i_1 (by decide) ?_
  refine s_Ic c_eq (i_eq (tg := 88) (by decide)) D223_80.1 P223_88 (?_ : rSnd _ _ 83 _)
  refine s_Il gk1 (Or.inr ⟨1, D223_83, rfl⟩) ?_
  refine s_ic D223_84 kc_i_2 (by decide) ?_
  refine s_Ic c_ne (i_ne (tg := 99) (by decide)) D223_85.1 P223_99 (?_ : rSnd _ _ 88 _)
  exact P223_88
theorem P223_69 : rSnd lab M223 69 B223_69 := by
  refine s_ic D223_69 kc_i_0 (by decide) ?_
  exact s_Go (pc' := 143) D223_70.1 (by decide) P223_143
theorem P223_30 : rSnd lab M223 30 B223_30 := by
  refine s_Il gk2 (Or.inr ⟨2, D223_30, rfl⟩) ?_
  refine s_ic D223_31 kc_i_3 (by decide) ?_
  refine s_Cs (id := 250) rfl (l_S rfl ok185 rfl wd2081 wd2082 D223_32.1) (?_ : rSnd _ _ 35 _)
  refine s_Is sk5 (show 5 < 8 from by decide) (Or.inl D223_35) ?_
  refine s_Il gk3 (Or.inr ⟨3, D223_37, rfl⟩) ?_
  refine s_Al gk0 (Or.inr ⟨0, D223_38, rfl⟩) ?_
  refine s_Gf (ci := 11) (r := ("WordWrightModel", kT11, 10)) rfl (show 2 < 10 from by decide) rfl (Or.inl wd2029) (Or.inl rfl) rfl D223_39 ?_
  refine s_Cv (ln := 5) (kd := 50) (C := "java/util/ArrayList") (by decide) (by decide +kernel) rfl (l_F (C := "java/util/ArrayList") (x := ({ cls := "java/util/List", name := "size", desc := "()I" } : Jvm.MethodName)) (ci := 24) (r := ("java/util/ArrayList", kT24, 3)) rfl rfl rfl ok15 rfl rfl (by decide) (List.mem_of_getElem? (i := 4) rfl) wd2073 wd2078 wd2076 D223_42.1) (?_ : rSnd _ _ 47 _)
  refine s_Cs (id := 250) rfl (l_S rfl ok185 rfl wd2081 wd2082 D223_47.1) (?_ : rSnd _ _ 50 _)
  refine s_Is sk6 (show 6 < 8 from by decide) (Or.inl D223_50) ?_
  refine s_Il gk1 (Or.inr ⟨1, D223_52, rfl⟩) ?_
  refine s_ic D223_53 kc_i_5 (by decide) ?_
  refine s_Ic c_ne (i_ne (tg := 73) (by decide)) D223_54.1 P223_73 (?_ : rSnd _ _ 57 _)
  refine s_Il gk2 (Or.inr ⟨2, D223_57, rfl⟩) ?_
  refine s_If c_ne (fun _ => rfl) (fun _ _ => rfl) (b_ne (tg := 69) (by decide)) D223_58.1 P223_69 (?_ : rSnd _ _ 61 _)
  refine s_Il gk3 (Or.inr ⟨3, D223_61, rfl⟩) ?_
  refine s_If c_ne (fun _ => rfl) (fun _ _ => rfl) (b_ne (tg := 69) (by decide)) D223_62.1 P223_69 (?_ : rSnd _ _ 65 _)
  refine s_ic D223_65 kc_i_1 (by decide) ?_
  exact s_Go (pc' := 143) D223_66.1 (by decide) P223_143
theorem P223_24 : rSnd lab M223 24 B223_24 := by
  refine s_Al gk0 (Or.inr ⟨0, D223_24, rfl⟩) ?_
  refine s_ic D223_25 kc_i_1 (by decide) ?_
  refine s_Cv (ln := 3) (kd := 24) (C := "WordWrightModel") (by decide) (by decide +kernel) rfl (l_V rfl ok207 rfl wd2084 wd2086 ws65 D223_26.1) (?_ : rSnd _ _ 29 _)
  exact s_Ri (Or.inl rfl) D223_29.1
theorem P223_0 : rSnd lab M223 0 B223_0 := by
  refine s_Ent ?_
  refine s_Al gk0 (Or.inr ⟨0, D223_0, rfl⟩) ?_
  refine s_ic D223_1 kc_i_0 (by decide) ?_
  refine s_Pf (ci := 11) (r := ("WordWrightModel", kT11, 10)) rfl (show 0 < 10 from by decide) rfl (Or.inl ⟨rfl, Or.inl wd2025⟩) (Or.inl rfl) rfl (by decide) D223_2 ?_
  refine s_Il gk1 (Or.inr ⟨1, D223_5, rfl⟩) ?_
  refine s_bi D223_6 kc_b_7 (by decide) ?_
  refine s_Cs (id := 250) rfl (l_S rfl ok185 rfl wd2081 wd2082 D223_8.1) (?_ : rSnd _ _ 11 _)
  refine s_If c_eq (fun _ => rfl) (fun _ _ => rfl) (b_eq (tg := 24) (by decide)) D223_11.1 P223_24 (?_ : rSnd _ _ 14 _)
  refine s_Il gk4 (Or.inl D223_14) ?_
  refine s_bi D223_16 kc_b_11 (by decide) ?_
  refine s_Cs (id := 250) rfl (l_S rfl ok185 rfl wd2081 wd2082 D223_18.1) (?_ : rSnd _ _ 21 _)
  refine s_If c_ne (fun _ => rfl) (fun _ _ => rfl) (b_ne (tg := 30) (by decide)) D223_21.1 P223_30 (?_ : rSnd _ _ 24 _)
  exact P223_24
theorem D224_0 : rDec M224 0 (.aload_n 0) 1 1 := ⟨by decide +kernel, rfl⟩
theorem D224_1 : rDec M224 1 (.iconst 0) 1 2 := ⟨by decide +kernel, rfl⟩
theorem D224_2 : rDec M224 2 (.putfield 145) 3 5 := ⟨by decide +kernel, rfl⟩
theorem D224_5 : rDec M224 5 (.iload_n 1) 1 6 := ⟨by decide +kernel, rfl⟩
theorem D224_6 : rDec M224 6 (.ifCond .lt 19) 3 9 := ⟨by decide +kernel, rfl⟩
theorem D224_9 : rDec M224 9 (.iload_n 1) 1 10 := ⟨by decide +kernel, rfl⟩
theorem D224_10 : rDec M224 10 (.aload_n 0) 1 11 := ⟨by decide +kernel, rfl⟩
theorem D224_11 : rDec M224 11 (.getfield 116) 3 14 := ⟨by decide +kernel, rfl⟩
theorem D224_14 : rDec M224 14 (.getfield 304) 3 17 := ⟨by decide +kernel, rfl⟩
theorem D224_17 : rDec M224 17 (.invokeinterface 148 1) 5 22 := ⟨by decide +kernel, rfl⟩
theorem D224_22 : rDec M224 22 (.if_icmp .lt 9) 3 25 := ⟨by decide +kernel, rfl⟩
theorem D224_25 : rDec M224 25 (.aload_n 0) 1 26 := ⟨by decide +kernel, rfl⟩
theorem D224_26 : rDec M224 26 (.iconst 1) 1 27 := ⟨by decide +kernel, rfl⟩
theorem D224_27 : rDec M224 27 (.invokevirtual 191) 3 30 := ⟨by decide +kernel, rfl⟩
theorem D224_30 : rDec M224 30 (.ireturn) 1 31 := ⟨by decide +kernel, rfl⟩
theorem P224_25 : rSnd lab M224 25 B224_25 := by
  refine s_Al gk0 (Or.inr ⟨0, D224_25, rfl⟩) ?_
  refine s_ic D224_26 kc_i_1 (by decide) ?_
  refine s_Cv (ln := 3) (kd := 24) (C := "WordWrightModel") (by decide) (by decide +kernel) rfl (l_V rfl ok207 rfl wd2084 wd2086 ws65 D224_27.1) (?_ : rSnd _ _ 30 _)
  exact s_Ri (Or.inl rfl) D224_30.1
theorem P224_0 : rSnd lab M224 0 B224_0 := by
  refine s_Ent ?_
  refine s_Al gk0 (Or.inr ⟨0, D224_0, rfl⟩) ?_
  refine s_ic D224_1 kc_i_0 (by decide) ?_
  refine s_Pf (ci := 11) (r := ("WordWrightModel", kT11, 10)) rfl (show 0 < 10 from by decide) rfl (Or.inl ⟨rfl, Or.inl wd2025⟩) (Or.inl rfl) rfl (by decide) D224_2 ?_
  refine s_Il gk1 (Or.inr ⟨1, D224_5, rfl⟩) ?_
  refine s_If c_lt (fun _ => rfl) (fun _ _ => rfl) (b_lt (tg := 25) (by decide)) D224_6.1 P224_25 (?_ : rSnd _ _ 9 _)
  refine s_Il gk1 (Or.inr ⟨1, D224_9, rfl⟩) ?_
  refine s_Al gk0 (Or.inr ⟨0, D224_10, rfl⟩) ?_
  refine s_Gf (ci := 11) (r := ("WordWrightModel", kT11, 10)) rfl (show 4 < 10 from by decide) rfl (Or.inl wd2032) (Or.inl rfl) rfl D224_11 ?_
  refine s_Gf (ci := 20) (r := ("WordWrightModel$Equations", kT20, 6)) rfl (show 0 < 6 from by decide) rfl (Or.inl wd1927) (Or.inl rfl) rfl D224_14 ?_
  refine s_Cv (ln := 5) (kd := 50) (C := "java/util/ArrayList") (by decide) (by decide +kernel) rfl (l_F (C := "java/util/ArrayList") (x := ({ cls := "java/util/List", name := "size", desc := "()I" } : Jvm.MethodName)) (ci := 24) (r := ("java/util/ArrayList", kT24, 3)) rfl rfl rfl ok15 rfl rfl (by decide) (List.mem_of_getElem? (i := 4) rfl) wd2073 wd2078 wd2076 D224_17.1) (?_ : rSnd _ _ 22 _)
  refine s_Ic c_lt (i_lt (tg := 31) (by decide)) D224_22.1 rSnd_none (?_ : rSnd _ _ 25 _)
  exact P224_25
theorem D225_0 : rDec M225 0 (.aload_n 0) 1 1 := ⟨by decide +kernel, rfl⟩
theorem D225_1 : rDec M225 1 (.getfield 145) 3 4 := ⟨by decide +kernel, rfl⟩
theorem D225_4 : rDec M225 4 (.ireturn) 1 5 := ⟨by decide +kernel, rfl⟩
theorem P225_0 : rSnd lab M225 0 B225_0 := by
  refine s_Ent ?_
  refine s_Al gk0 (Or.inr ⟨0, D225_0, rfl⟩) ?_
  refine s_Gf (ci := 11) (r := ("WordWrightModel", kT11, 10)) rfl (show 0 < 10 from by decide) rfl (Or.inl wd2025) (Or.inl rfl) rfl D225_1 ?_
  exact s_Ri (Or.inl rfl) D225_4.1
theorem D226_0 : rDec M226 0 (.new 45) 3 3 := ⟨by decide +kernel, rfl⟩
theorem D226_3 : rDec M226 3 (.dup) 1 4 := ⟨by decide +kernel, rfl⟩
theorem D226_4 : rDec M226 4 (.aload_n 0) 1 5 := ⟨by decide +kernel, rfl⟩
theorem D226_5 : rDec M226 5 (.invokespecial 47) 3 8 := ⟨by decide +kernel, rfl⟩
theorem D226_8 : rDec M226 8 (.invokevirtual 48) 3 11 := ⟨by decide +kernel, rfl⟩
theorem D226_11 : rDec M226 11 (.areturn) 1 12 := ⟨by decide +kernel, rfl⟩
theorem P226_0 : rSnd lab M226 0 B226_0 := by
  refine s_Ent ?_
  refine s_New (ci := 16) (r := ("WordWrightModel$5", kT16, 1)) rfl rfl wd2171 wd2172 wd34 kr16 D226_0 ?_
  refine s_Dup D226_3 ?_
  refine s_Al gk0 (Or.inr ⟨0, D226_4, rfl⟩) ?_
  refine s_Ci (id := 155) rfl (l_I rfl ok132 rfl rfl rfl wd2173 wd2174 D226_5.1) (?_ : rSnd _ _ 8 _)
  refine s_Cv (ln := 3) (kd := 34) (C := "WordWrightModel$5") (by decide) (by decide +kernel) rfl (l_U (C := "WordWrightModel$5") (owner := "WordWrightModel$Walk") (x := ({ cls := "WordWrightModel$5", name := "smallest", desc := "()LWordWrightModel$Dfa;" } : Jvm.MethodName)) rfl ok169 rfl rfl wd2181 wd2182 wd1695 wd2183 D226_8.1) (?_ : rSnd _ _ 11 _)
  exact s_Ra (Or.inl ⟨_, rfl⟩) D226_11.1
theorem D227_0 : rDec M227 0 (.aload_n 0) 1 1 := ⟨by decide +kernel, rfl⟩
theorem D227_1 : rDec M227 1 (.iconst 0) 1 2 := ⟨by decide +kernel, rfl⟩
theorem D227_2 : rDec M227 2 (.putfield 145) 3 5 := ⟨by decide +kernel, rfl⟩
theorem D227_5 : rDec M227 5 (.aload_n 0) 1 6 := ⟨by decide +kernel, rfl⟩
theorem D227_6 : rDec M227 6 (.getfield 116) 3 9 := ⟨by decide +kernel, rfl⟩
theorem D227_9 : rDec M227 9 (.getfield 304) 3 12 := ⟨by decide +kernel, rfl⟩
theorem D227_12 : rDec M227 12 (.invokeinterface 312 1) 5 17 := ⟨by decide +kernel, rfl⟩
theorem D227_17 : rDec M227 17 (.ifCond .eq 9) 3 20 := ⟨by decide +kernel, rfl⟩
theorem D227_20 : rDec M227 20 (.aload_n 0) 1 21 := ⟨by decide +kernel, rfl⟩
theorem D227_21 : rDec M227 21 (.iconst 1) 1 22 := ⟨by decide +kernel, rfl⟩
theorem D227_22 : rDec M227 22 (.invokevirtual 191) 3 25 := ⟨by decide +kernel, rfl⟩
theorem D227_25 : rDec M227 25 (.ireturn) 1 26 := ⟨by decide +kernel, rfl⟩
theorem P227_0 : rSnd lab M227 0 B227_0 := by
  refine s_Ent ?_
  refine s_Al gk0 (Or.inr ⟨0, D227_0, rfl⟩) ?_
  refine s_ic D227_1 kc_i_0 (by decide) ?_
  refine s_Pf (ci := 11) (r := ("WordWrightModel", kT11, 10)) rfl (show 0 < 10 from by decide) rfl (Or.inl ⟨rfl, Or.inl wd2025⟩) (Or.inl rfl) rfl (by decide) D227_2 ?_
  refine s_Al gk0 (Or.inr ⟨0, D227_5, rfl⟩) ?_
  refine s_Gf (ci := 11) (r := ("WordWrightModel", kT11, 10)) rfl (show 4 < 10 from by decide) rfl (Or.inl wd2032) (Or.inl rfl) rfl D227_6 ?_
  refine s_Gf (ci := 20) (r := ("WordWrightModel$Equations", kT20, 6)) rfl (show 0 < 6 from by decide) rfl (Or.inl wd1927) (Or.inl rfl) rfl D227_9 ?_
  refine s_Cv (ln := 5) (kd := 50) (C := "java/util/ArrayList") (by decide) (by decide +kernel) rfl (l_F (C := "java/util/ArrayList") (x := ({ cls := "java/util/List", name := "isEmpty", desc := "()Z" } : Jvm.MethodName)) (ci := 24) (r := ("java/util/ArrayList", kT24, 3)) rfl rfl rfl ok14 rfl rfl (by decide) (List.mem_of_getElem? (i := 3) rfl) wd2592 wd2597 wd2595 D227_12.1) (?_ : rSnd _ _ 17 _)
  refine s_If c_eq (fun _ => rfl) (fun _ _ => rfl) (b_eq (tg := 26) (by decide)) D227_17.1 rSnd_none (?_ : rSnd _ _ 20 _)
  refine s_Al gk0 (Or.inr ⟨0, D227_20, rfl⟩) ?_
  refine s_ic D227_21 kc_i_1 (by decide) ?_
  refine s_Cv (ln := 3) (kd := 24) (C := "WordWrightModel") (by decide) (by decide +kernel) rfl (l_V rfl ok207 rfl wd2084 wd2086 ws65 D227_22.1) (?_ : rSnd _ _ 25 _)
  exact s_Ri (Or.inl rfl) D227_25.1
theorem D228_0 : rDec M228 0 (.aload_n 0) 1 1 := ⟨by decide +kernel, rfl⟩
theorem D228_1 : rDec M228 1 (.iconst 0) 1 2 := ⟨by decide +kernel, rfl⟩
theorem D228_2 : rDec M228 2 (.putfield 145) 3 5 := ⟨by decide +kernel, rfl⟩
theorem D228_5 : rDec M228 5 (.iload_n 1) 1 6 := ⟨by decide +kernel, rfl⟩
theorem D228_6 : rDec M228 6 (.ifCond .lt 16) 3 9 := ⟨by decide +kernel, rfl⟩
theorem D228_9 : rDec M228 9 (.iload_n 1) 1 10 := ⟨by decide +kernel, rfl⟩
theorem D228_10 : rDec M228 10 (.aload_n 0) 1 11 := ⟨by decide +kernel, rfl⟩
theorem D228_11 : rDec M228 11 (.getfield 120) 3 14 := ⟨by decide +kernel, rfl⟩
theorem D228_14 : rDec M228 14 (.invokeinterface 148 1) 5 19 := ⟨by decide +kernel, rfl⟩
theorem D228_19 : rDec M228 19 (.if_icmp .lt 9) 3 22 := ⟨by decide +kernel, rfl⟩
theorem D228_22 : rDec M228 22 (.aload_n 0) 1 23 := ⟨by decide +kernel, rfl⟩
theorem D228_23 : rDec M228 23 (.iconst 1) 1 24 := ⟨by decide +kernel, rfl⟩
theorem D228_24 : rDec M228 24 (.invokevirtual 191) 3 27 := ⟨by decide +kernel, rfl⟩
theorem D228_27 : rDec M228 27 (.ireturn) 1 28 := ⟨by decide +kernel, rfl⟩
theorem P228_22 : rSnd lab M228 22 B228_22 := by
  refine s_Al gk0 (Or.inr ⟨0, D228_22, rfl⟩) ?_
  refine s_ic D228_23 kc_i_1 (by decide) ?_
  refine s_Cv (ln := 3) (kd := 24) (C := "WordWrightModel") (by decide) (by decide +kernel) rfl (l_V rfl ok207 rfl wd2084 wd2086 ws65 D228_24.1) (?_ : rSnd _ _ 27 _)
  exact s_Ri (Or.inl rfl) D228_27.1
theorem P228_0 : rSnd lab M228 0 B228_0 := by
  refine s_Ent ?_
  refine s_Al gk0 (Or.inr ⟨0, D228_0, rfl⟩) ?_
  refine s_ic D228_1 kc_i_0 (by decide) ?_
  refine s_Pf (ci := 11) (r := ("WordWrightModel", kT11, 10)) rfl (show 0 < 10 from by decide) rfl (Or.inl ⟨rfl, Or.inl wd2025⟩) (Or.inl rfl) rfl (by decide) D228_2 ?_
  refine s_Il gk1 (Or.inr ⟨1, D228_5, rfl⟩) ?_
  refine s_If c_lt (fun _ => rfl) (fun _ _ => rfl) (b_lt (tg := 22) (by decide)) D228_6.1 P228_22 (?_ : rSnd _ _ 9 _)
  refine s_Il gk1 (Or.inr ⟨1, D228_9, rfl⟩) ?_
  refine s_Al gk0 (Or.inr ⟨0, D228_10, rfl⟩) ?_
  refine s_Gf (ci := 11) (r := ("WordWrightModel", kT11, 10)) rfl (show 5 < 10 from by decide) rfl (Or.inl wd2033) (Or.inl rfl) rfl D228_11 ?_
  refine s_Cv (ln := 5) (kd := 50) (C := "java/util/ArrayList") (by decide) (by decide +kernel) rfl (l_F (C := "java/util/ArrayList") (x := ({ cls := "java/util/List", name := "size", desc := "()I" } : Jvm.MethodName)) (ci := 24) (r := ("java/util/ArrayList", kT24, 3)) rfl rfl rfl ok15 rfl rfl (by decide) (List.mem_of_getElem? (i := 4) rfl) wd2073 wd2078 wd2076 D228_14.1) (?_ : rSnd _ _ 19 _)
  refine s_Ic c_lt (i_lt (tg := 28) (by decide)) D228_19.1 rSnd_none (?_ : rSnd _ _ 22 _)
  exact P228_22
theorem D229_0 : rDec M229 0 (.aload_n 0) 1 1 := ⟨by decide +kernel, rfl⟩
theorem D229_1 : rDec M229 1 (.iconst 0) 1 2 := ⟨by decide +kernel, rfl⟩
theorem D229_2 : rDec M229 2 (.putfield 145) 3 5 := ⟨by decide +kernel, rfl⟩
theorem D229_5 : rDec M229 5 (.aload_n 0) 1 6 := ⟨by decide +kernel, rfl⟩
theorem D229_6 : rDec M229 6 (.iload_n 1) 1 7 := ⟨by decide +kernel, rfl⟩
theorem D229_7 : rDec M229 7 (.iload_n 2) 1 8 := ⟨by decide +kernel, rfl⟩
theorem D229_8 : rDec M229 8 (.iload_n 3) 1 9 := ⟨by decide +kernel, rfl⟩
theorem D229_9 : rDec M229 9 (.invokevirtual 187) 3 12 := ⟨by decide +kernel, rfl⟩
theorem D229_12 : rDec M229 12 (.ifCond .ne 9) 3 15 := ⟨by decide +kernel, rfl⟩
theorem D229_15 : rDec M229 15 (.aload_n 0) 1 16 := ⟨by decide +kernel, rfl⟩
theorem D229_16 : rDec M229 16 (.iconst 1) 1 17 := ⟨by decide +kernel, rfl⟩
theorem D229_17 : rDec M229 17 (.invokevirtual 191) 3 20 := ⟨by decide +kernel, rfl⟩
theorem D229_20 : rDec M229 20 (.ireturn) 1 21 := ⟨by decide +kernel, rfl⟩
theorem D229_21 : rDec M229 21 (.aload_n 0) 1 22 := ⟨by decide +kernel, rfl⟩
theorem D229_22 : rDec M229 22 (.iload_n 1) 1 23 := ⟨by decide +kernel, rfl⟩
theorem D229_23 : rDec M229 23 (.iload_n 2) 1 24 := ⟨by decide +kernel, rfl⟩
theorem D229_24 : rDec M229 24 (.iload_n 3) 1 25 := ⟨by decide +kernel, rfl⟩
theorem D229_25 : rDec M229 25 (.invokevirtual 195) 3 28 := ⟨by decide +kernel, rfl⟩
theorem D229_28 : rDec M229 28 (.getfield 25) 3 31 := ⟨by decide +kernel, rfl⟩
theorem D229_31 : rDec M229 31 (.ireturn) 1 32 := ⟨by decide +kernel, rfl⟩
theorem P229_21 : rSnd lab M229 21 B229_21 := by
  refine s_Al gk0 (Or.inr ⟨0, D229_21, rfl⟩) ?_
  refine s_Il gk1 (Or.inr ⟨1, D229_22, rfl⟩) ?_
  refine s_Il gk2 (Or.inr ⟨2, D229_23, rfl⟩) ?_
  refine s_Il gk3 (Or.inr ⟨3, D229_24, rfl⟩) ?_
  refine s_Cv (ln := 3) (kd := 24) (C := "WordWrightModel") (by decide) (by decide +kernel) rfl (l_V rfl ok199 rfl wd2088 wd2090 ws66 D229_25.1) (?_ : rSnd _ _ 28 _)
  refine s_Gf (ci := 19) (r := ("WordWrightModel$Dfa", kT19, 3)) rfl (show 0 < 3 from by decide) rfl (Or.inl wd1818) (Or.inl rfl) rfl D229_28 ?_
  exact s_Ri (Or.inl rfl) D229_31.1
theorem P229_0 : rSnd lab M229 0 B229_0 := by
  refine s_Ent ?_
  refine s_Al gk0 (Or.inr ⟨0, D229_0, rfl⟩) ?_
  refine s_ic D229_1 kc_i_0 (by decide) ?_
  refine s_Pf (ci := 11) (r := ("WordWrightModel", kT11, 10)) rfl (show 0 < 10 from by decide) rfl (Or.inl ⟨rfl, Or.inl wd2025⟩) (Or.inl rfl) rfl (by decide) D229_2 ?_
  refine s_Al gk0 (Or.inr ⟨0, D229_5, rfl⟩) ?_
  refine s_Il gk1 (Or.inr ⟨1, D229_6, rfl⟩) ?_
  refine s_Il gk2 (Or.inr ⟨2, D229_7, rfl⟩) ?_
  refine s_Il gk3 (Or.inr ⟨3, D229_8, rfl⟩) ?_
  refine s_Cv (ln := 3) (kd := 24) (C := "WordWrightModel") (by decide) (by decide +kernel) rfl (l_V rfl ok188 rfl wd2068 wd2070 ws64 D229_9.1) (?_ : rSnd _ _ 12 _)
  refine s_If c_ne (fun _ => rfl) (fun _ _ => rfl) (b_ne (tg := 21) (by decide)) D229_12.1 P229_21 (?_ : rSnd _ _ 15 _)
  refine s_Al gk0 (Or.inr ⟨0, D229_15, rfl⟩) ?_
  refine s_ic D229_16 kc_i_1 (by decide) ?_
  refine s_Cv (ln := 3) (kd := 24) (C := "WordWrightModel") (by decide) (by decide +kernel) rfl (l_V rfl ok207 rfl wd2084 wd2086 ws65 D229_17.1) (?_ : rSnd _ _ 20 _)
  exact s_Ri (Or.inl rfl) D229_20.1
theorem D230_0 : rDec M230 0 (.aload_n 0) 1 1 := ⟨by decide +kernel, rfl⟩
theorem D230_1 : rDec M230 1 (.iconst 0) 1 2 := ⟨by decide +kernel, rfl⟩
theorem D230_2 : rDec M230 2 (.putfield 145) 3 5 := ⟨by decide +kernel, rfl⟩
theorem D230_5 : rDec M230 5 (.iload_n 1) 1 6 := ⟨by decide +kernel, rfl⟩
theorem D230_6 : rDec M230 6 (.ifCond .lt 16) 3 9 := ⟨by decide +kernel, rfl⟩
theorem D230_9 : rDec M230 9 (.iload_n 1) 1 10 := ⟨by decide +kernel, rfl⟩
theorem D230_10 : rDec M230 10 (.aload_n 0) 1 11 := ⟨by decide +kernel, rfl⟩
theorem D230_11 : rDec M230 11 (.getfield 110) 3 14 := ⟨by decide +kernel, rfl⟩
theorem D230_14 : rDec M230 14 (.invokeinterface 148 1) 5 19 := ⟨by decide +kernel, rfl⟩
theorem D230_19 : rDec M230 19 (.if_icmp .lt 9) 3 22 := ⟨by decide +kernel, rfl⟩
theorem D230_22 : rDec M230 22 (.aload_n 0) 1 23 := ⟨by decide +kernel, rfl⟩
theorem D230_23 : rDec M230 23 (.iconst 1) 1 24 := ⟨by decide +kernel, rfl⟩
theorem D230_24 : rDec M230 24 (.invokevirtual 191) 3 27 := ⟨by decide +kernel, rfl⟩
theorem D230_27 : rDec M230 27 (.ireturn) 1 28 := ⟨by decide +kernel, rfl⟩
theorem P230_22 : rSnd lab M230 22 B230_22 := by
  refine s_Al gk0 (Or.inr ⟨0, D230_22, rfl⟩) ?_
  refine s_ic D230_23 kc_i_1 (by decide) ?_
  refine s_Cv (ln := 3) (kd := 24) (C := "WordWrightModel") (by decide) (by decide +kernel) rfl (l_V rfl ok207 rfl wd2084 wd2086 ws65 D230_24.1) (?_ : rSnd _ _ 27 _)
  exact s_Ri (Or.inl rfl) D230_27.1
theorem P230_0 : rSnd lab M230 0 B230_0 := by
  refine s_Ent ?_
  refine s_Al gk0 (Or.inr ⟨0, D230_0, rfl⟩) ?_
  refine s_ic D230_1 kc_i_0 (by decide) ?_
  refine s_Pf (ci := 11) (r := ("WordWrightModel", kT11, 10)) rfl (show 0 < 10 from by decide) rfl (Or.inl ⟨rfl, Or.inl wd2025⟩) (Or.inl rfl) rfl (by decide) D230_2 ?_
  refine s_Il gk1 (Or.inr ⟨1, D230_5, rfl⟩) ?_
  refine s_If c_lt (fun _ => rfl) (fun _ _ => rfl) (b_lt (tg := 22) (by decide)) D230_6.1 P230_22 (?_ : rSnd _ _ 9 _)
  refine s_Il gk1 (Or.inr ⟨1, D230_9, rfl⟩) ?_
  refine s_Al gk0 (Or.inr ⟨0, D230_10, rfl⟩) ?_
  refine s_Gf (ci := 11) (r := ("WordWrightModel", kT11, 10)) rfl (show 3 < 10 from by decide) rfl (Or.inl wd2031) (Or.inl rfl) rfl D230_11 ?_
  refine s_Cv (ln := 5) (kd := 50) (C := "java/util/ArrayList") (by decide) (by decide +kernel) rfl (l_F (C := "java/util/ArrayList") (x := ({ cls := "java/util/List", name := "size", desc := "()I" } : Jvm.MethodName)) (ci := 24) (r := ("java/util/ArrayList", kT24, 3)) rfl rfl rfl ok15 rfl rfl (by decide) (List.mem_of_getElem? (i := 4) rfl) wd2073 wd2078 wd2076 D230_14.1) (?_ : rSnd _ _ 19 _)
  refine s_Ic c_lt (i_lt (tg := 28) (by decide)) D230_19.1 rSnd_none (?_ : rSnd _ _ 22 _)
  exact P230_22
theorem D231_0 : rDec M231 0 (.aload_n 0) 1 1 := ⟨by decide +kernel, rfl⟩
theorem D231_1 : rDec M231 1 (.getfield 15) 3 4 := ⟨by decide +kernel, rfl⟩
theorem D231_4 : rDec M231 4 (.iload_n 1) 1 5 := ⟨by decide +kernel, rfl⟩
theorem D231_5 : rDec M231 5 (.iconst 4) 1 6 := ⟨by decide +kernel, rfl⟩
theorem D231_6 : rDec M231 6 (.imul) 1 7 := ⟨by decide +kernel, rfl⟩
theorem D231_7 : rDec M231 7 (.iload_n 2) 1 8 := ⟨by decide +kernel, rfl⟩
theorem D231_8 : rDec M231 8 (.iadd) 1 9 := ⟨by decide +kernel, rfl⟩
theorem D231_9 : rDec M231 9 (.iaload) 1 10 := ⟨by decide +kernel, rfl⟩
theorem D231_10 : rDec M231 10 (.ireturn) 1 11 := ⟨by decide +kernel, rfl⟩
theorem P231_0 : rSnd lab M231 0 B231_0 := by
  refine s_Ent ?_
  refine s_Al gk0 (Or.inr ⟨0, D231_0, rfl⟩) ?_
  refine s_Gf (ci := 3) (r := ("WordWright$Language", kT3, 3)) rfl (show 2 < 3 from by decide) rfl (Or.inl wd81) (Or.inl rfl) rfl D231_1 ?_
  refine s_Il gk1 (Or.inr ⟨1, D231_4, rfl⟩) ?_
  refine s_ic D231_5 kc_i_4 (by decide) ?_
  refine s_Bin q_imul n_mul rG2_x rE2_x D231_6 ?_
  refine s_Il gk2 (Or.inr ⟨2, D231_7, rfl⟩) ?_
  refine s_Bin q_iadd n_add rG2_x e_add D231_8 ?_
  refine s_Ial D231_9 ?_
  exact s_Ri (Or.inl rfl) D231_10.1
theorem D232_0 : rDec M232 0 (.iconst 0) 1 1 := ⟨by decide +kernel, rfl⟩
theorem D232_1 : rDec M232 1 (.istore_n 3) 1 2 := ⟨by decide +kernel, rfl⟩
theorem D232_2 : rDec M232 2 (.iconst 0) 1 3 := ⟨by decide +kernel, rfl⟩
theorem D232_3 : rDec M232 3 (.istore 4) 2 5 := ⟨by decide +kernel, rfl⟩
theorem D232_5 : rDec M232 5 (.iload 4) 2 7 := ⟨by decide +kernel, rfl⟩
theorem D232_7 : rDec M232 7 (.aload_n 0) 1 8 := ⟨by decide +kernel, rfl⟩
theorem D232_8 : rDec M232 8 (.getfield 9) 3 11 := ⟨by decide +kernel, rfl⟩
theorem D232_11 : rDec M232 11 (.if_icmp .ge 34) 3 14 := ⟨by decide +kernel, rfl⟩
theorem D232_14 : rDec M232 14 (.iload_n 1) 1 15 := ⟨by decide +kernel, rfl⟩
theorem D232_15 : rDec M232 15 (.iload 4) 2 17 := ⟨by decide +kernel, rfl⟩
theorem D232_17 : rDec M232 17 (.ishr) 1 18 := ⟨by decide +kernel, rfl⟩
theorem D232_18 : rDec M232 18 (.iconst 1) 1 19 := ⟨by decide +kernel, rfl⟩
theorem D232_19 : rDec M232 19 (.iand) 1 20 := ⟨by decide +kernel, rfl⟩
theorem D232_20 : rDec M232 20 (.ifCond .eq 19) 3 23 := ⟨by decide +kernel, rfl⟩
theorem D232_23 : rDec M232 23 (.iload_n 3) 1 24 := ⟨by decide +kernel, rfl⟩
theorem D232_24 : rDec M232 24 (.iconst 1) 1 25 := ⟨by decide +kernel, rfl⟩
theorem D232_25 : rDec M232 25 (.aload_n 0) 1 26 := ⟨by decide +kernel, rfl⟩
theorem D232_26 : rDec M232 26 (.getfield 15) 3 29 := ⟨by decide +kernel, rfl⟩
theorem D232_29 : rDec M232 29 (.iload 4) 2 31 := ⟨by decide +kernel, rfl⟩
theorem D232_31 : rDec M232 31 (.iconst 4) 1 32 := ⟨by decide +kernel, rfl⟩
theorem D232_32 : rDec M232 32 (.imul) 1 33 := ⟨by decide +kernel, rfl⟩
theorem D232_33 : rDec M232 33 (.iload_n 2) 1 34 := ⟨by decide +kernel, rfl⟩
theorem D232_34 : rDec M232 34 (.iadd) 1 35 := ⟨by decide +kernel, rfl⟩
theorem D232_35 : rDec M232 35 (.iaload) 1 36 := ⟨by decide +kernel, rfl⟩
theorem D232_36 : rDec M232 36 (.ishl) 1 37 := ⟨by decide +kernel, rfl⟩
theorem D232_37 : rDec M232 37 (.ior) 1 38 := ⟨by decide +kernel, rfl⟩
theorem D232_38 : rDec M232 38 (.istore_n 3) 1 39 := ⟨by decide +kernel, rfl⟩
theorem D232_39 : rDec M232 39 (.iinc 4 1) 3 42 := ⟨by decide +kernel, rfl⟩
theorem D232_42 : rDec M232 42 (.goto (-37)) 3 45 := ⟨by decide +kernel, rfl⟩
theorem D232_45 : rDec M232 45 (.iload_n 3) 1 46 := ⟨by decide +kernel, rfl⟩
theorem D232_46 : rDec M232 46 (.ireturn) 1 47 := ⟨by decide +kernel, rfl⟩
theorem P232_45 : rSnd lab M232 45 B232_45 := by
  refine s_Il gk3 (Or.inr ⟨3, D232_45, rfl⟩) ?_
  exact s_Ri (Or.inl rfl) D232_46.1
theorem P232_39 : rSnd lab M232 39 B232_39 := by
  refine s_Inc gk4 sk4 (show 4 < 5 from by decide) kc_i_1 D232_39 ?_
  exact s_Go (pc' := 5) D232_42.1 (by decide) (s_Jb rfl)
theorem P232_5 : rSnd lab M232 5 B232_5 := by
  refine s_Il gk4 (Or.inl D232_5) ?_
  refine s_Al gk0 (Or.inr ⟨0, D232_7, rfl⟩) ?_
  refine s_Gf (ci := 3) (r := ("WordWright$Language", kT3, 3)) rfl (show 0 < 3 from by decide) rfl (Or.inl wd73) (Or.inl rfl) rfl D232_8 ?_
  refine s_Ic c_ge (i_ge (tg := 45) (by decide)) D232_11.1 P232_45 (?_ : rSnd _ _ 14 _)
  refine s_Il gk1 (Or.inr ⟨1, D232_14, rfl⟩) ?_
  refine s_Il gk4 (Or.inl D232_15) ?_
  refine s_Bin q_ishr n_shr g_shr rE2_x D232_17 ?_
  refine s_ic D232_18 kc_i_1 (by decide) ?_
  refine s_Bin q_iand n_and g_and rE2_x D232_19 ?_
  refine s_If c_eq (fun _ => rfl) (fun _ _ => rfl) (b_eq (tg := 39) (by decide)) D232_20.1 P232_39 (?_ : rSnd _ _ 23 _)
  refine s_Il gk3 (Or.inr ⟨3, D232_23, rfl⟩) ?_
  refine s_ic D232_24 kc_i_1 (by decide) ?_
  refine s_Al gk0 (Or.inr ⟨0, D232_25, rfl⟩) ?_
  refine s_Gf (ci := 3) (r := ("WordWright$Language", kT3, 3)) rfl (show 2 < 3 from by decide) rfl (Or.inl wd81) (Or.inl rfl) rfl D232_26 ?_
  refine s_Il gk4 (Or.inl D232_29) ?_
  refine s_ic D232_31 kc_i_4 (by decide) ?_
  refine s_Bin q_imul n_mul rG2_x rE2_x D232_32 ?_
  refine s_Il gk2 (Or.inr ⟨2, D232_33, rfl⟩) ?_
  refine s_Bin q_iadd n_add rG2_x e_add D232_34 ?_
  refine s_Ial D232_35 ?_
  refine s_Bin q_ishl n_shl rG2_x rE2_x D232_36 ?_
  refine s_Bin q_ior n_or rG2_x rE2_x D232_37 ?_
  refine s_Is sk3 (show 3 < 5 from by decide) (Or.inr ⟨3, D232_38, rfl⟩) ?_
  exact P232_39
theorem P232_0 : rSnd lab M232 0 B232_0 := by
  refine s_Ent ?_
  refine s_ic D232_0 kc_i_0 (by decide) ?_
  refine s_Is sk3 (show 3 < 5 from by decide) (Or.inr ⟨3, D232_1, rfl⟩) ?_
  refine s_ic D232_2 kc_i_0 (by decide) ?_
  refine s_Is sk4 (show 4 < 5 from by decide) (Or.inl D232_3) ?_
  exact P232_5
theorem D233_0 : rDec M233 0 (.iconst 0) 1 1 := ⟨by decide +kernel, rfl⟩
theorem D233_1 : rDec M233 1 (.istore_n 3) 1 2 := ⟨by decide +kernel, rfl⟩
theorem D233_2 : rDec M233 2 (.iconst 0) 1 3 := ⟨by decide +kernel, rfl⟩
theorem D233_3 : rDec M233 3 (.istore 4) 2 5 := ⟨by decide +kernel, rfl⟩
theorem D233_5 : rDec M233 5 (.iload 4) 2 7 := ⟨by decide +kernel, rfl⟩
theorem D233_7 : rDec M233 7 (.aload_n 0) 1 8 := ⟨by decide +kernel, rfl⟩
theorem D233_8 : rDec M233 8 (.getfield 9) 3 11 := ⟨by decide +kernel, rfl⟩
theorem D233_11 : rDec M233 11 (.if_icmp .ge 34) 3 14 := ⟨by decide +kernel, rfl⟩
theorem D233_14 : rDec M233 14 (.iload_n 1) 1 15 := ⟨by decide +kernel, rfl⟩
theorem D233_15 : rDec M233 15 (.aload_n 0) 1 16 := ⟨by decide +kernel, rfl⟩
theorem D233_16 : rDec M233 16 (.getfield 15) 3 19 := ⟨by decide +kernel, rfl⟩
theorem D233_19 : rDec M233 19 (.iload 4) 2 21 := ⟨by decide +kernel, rfl⟩
theorem D233_21 : rDec M233 21 (.iconst 4) 1 22 := ⟨by decide +kernel, rfl⟩
theorem D233_22 : rDec M233 22 (.imul) 1 23 := ⟨by decide +kernel, rfl⟩
theorem D233_23 : rDec M233 23 (.iload_n 2) 1 24 := ⟨by decide +kernel, rfl⟩
theorem D233_24 : rDec M233 24 (.iadd) 1 25 := ⟨by decide +kernel, rfl⟩
theorem D233_25 : rDec M233 25 (.iaload) 1 26 := ⟨by decide +kernel, rfl⟩
theorem D233_26 : rDec M233 26 (.ishr) 1 27 := ⟨by decide +kernel, rfl⟩
theorem D233_27 : rDec M233 27 (.iconst 1) 1 28 := ⟨by decide +kernel, rfl⟩
theorem D233_28 : rDec M233 28 (.iand) 1 29 := ⟨by decide +kernel, rfl⟩
theorem D233_29 : rDec M233 29 (.ifCond .eq 10) 3 32 := ⟨by decide +kernel, rfl⟩
theorem D233_32 : rDec M233 32 (.iload_n 3) 1 33 := ⟨by decide +kernel, rfl⟩
theorem D233_33 : rDec M233 33 (.iconst 1) 1 34 := ⟨by decide +kernel, rfl⟩
theorem D233_34 : rDec M233 34 (.iload 4) 2 36 := ⟨by decide +kernel, rfl⟩
theorem D233_36 : rDec M233 36 (.ishl) 1 37 := ⟨by decide +kernel, rfl⟩
theorem D233_37 : rDec M233 37 (.ior) 1 38 := ⟨by decide +kernel, rfl⟩
theorem D233_38 : rDec M233 38 (.istore_n 3) 1 39 := ⟨by decide +kernel, rfl⟩
theorem D233_39 : rDec M233 39 (.iinc 4 1) 3 42 := ⟨by decide +kernel, rfl⟩
theorem D233_42 : rDec M233 42 (.goto (-37)) 3 45 := ⟨by decide +kernel, rfl⟩
theorem D233_45 : rDec M233 45 (.iload_n 3) 1 46 := ⟨by decide +kernel, rfl⟩
theorem D233_46 : rDec M233 46 (.ireturn) 1 47 := ⟨by decide +kernel, rfl⟩
theorem P233_45 : rSnd lab M233 45 B233_45 := by
  refine s_Il gk3 (Or.inr ⟨3, D233_45, rfl⟩) ?_
  exact s_Ri (Or.inl rfl) D233_46.1
theorem P233_39 : rSnd lab M233 39 B233_39 := by
  refine s_Inc gk4 sk4 (show 4 < 5 from by decide) kc_i_1 D233_39 ?_
  exact s_Go (pc' := 5) D233_42.1 (by decide) (s_Jb rfl)
theorem P233_5 : rSnd lab M233 5 B233_5 := by
  refine s_Il gk4 (Or.inl D233_5) ?_
  refine s_Al gk0 (Or.inr ⟨0, D233_7, rfl⟩) ?_
  refine s_Gf (ci := 3) (r := ("WordWright$Language", kT3, 3)) rfl (show 0 < 3 from by decide) rfl (Or.inl wd73) (Or.inl rfl) rfl D233_8 ?_
  refine s_Ic c_ge (i_ge (tg := 45) (by decide)) D233_11.1 P233_45 (?_ : rSnd _ _ 14 _)
  refine s_Il gk1 (Or.inr ⟨1, D233_14, rfl⟩) ?_
  refine s_Al gk0 (Or.inr ⟨0, D233_15, rfl⟩) ?_
  refine s_Gf (ci := 3) (r := ("WordWright$Language", kT3, 3)) rfl (show 2 < 3 from by decide) rfl (Or.inl wd81) (Or.inl rfl) rfl D233_16 ?_
  refine s_Il gk4 (Or.inl D233_19) ?_
  refine s_ic D233_21 kc_i_4 (by decide) ?_
  refine s_Bin q_imul n_mul rG2_x rE2_x D233_22 ?_
  refine s_Il gk2 (Or.inr ⟨2, D233_23, rfl⟩) ?_
  refine s_Bin q_iadd n_add rG2_x e_add D233_24 ?_
  refine s_Ial D233_25 ?_
  refine s_Bin q_ishr n_shr g_shr rE2_x D233_26 ?_
  refine s_ic D233_27 kc_i_1 (by decide) ?_
  refine s_Bin q_iand n_and g_and rE2_x D233_28 ?_
  refine s_If c_eq (fun _ => rfl) (fun _ _ => rfl) (b_eq (tg := 39) (by decide)) D233_29.1 P233_39 (?_ : rSnd _ _ 32 _)
  refine s_Il gk3 (Or.inr ⟨3, D233_32, rfl⟩) ?_
  refine s_ic D233_33 kc_i_1 (by decide) ?_
  refine s_Il gk4 (Or.inl D233_34) ?_
  refine s_Bin q_ishl n_shl rG2_x rE2_x D233_36 ?_
  refine s_Bin q_ior n_or rG2_x rE2_x D233_37 ?_
  refine s_Is sk3 (show 3 < 5 from by decide) (Or.inr ⟨3, D233_38, rfl⟩) ?_
  exact P233_39
theorem P233_0 : rSnd lab M233 0 B233_0 := by
  refine s_Ent ?_
  refine s_ic D233_0 kc_i_0 (by decide) ?_
  refine s_Is sk3 (show 3 < 5 from by decide) (Or.inr ⟨3, D233_1, rfl⟩) ?_
  refine s_ic D233_2 kc_i_0 (by decide) ?_
  refine s_Is sk4 (show 4 < 5 from by decide) (Or.inl D233_3) ?_
  exact P233_5
theorem D234_0 : rDec M234 0 (.aload_n 0) 1 1 := ⟨by decide +kernel, rfl⟩
theorem D234_1 : rDec M234 1 (.invokevirtual 34) 3 4 := ⟨by decide +kernel, rfl⟩
theorem D234_4 : rDec M234 4 (.aload_n 0) 1 5 := ⟨by decide +kernel, rfl⟩
theorem D234_5 : rDec M234 5 (.iconst 1) 1 6 := ⟨by decide +kernel, rfl⟩
theorem D234_6 : rDec M234 6 (.putfield 19) 3 9 := ⟨by decide +kernel, rfl⟩
theorem D234_9 : rDec M234 9 (.return_) 1 10 := ⟨by decide +kernel, rfl⟩
theorem P234_0 : rSnd lab M234 0 B234_0 := by
  refine s_Ent ?_
  refine s_Al gk0 (Or.inr ⟨0, D234_0, rfl⟩) ?_
  refine s_Cv (ln := 3) (kd := 8) (C := "WordWright$Language") (by decide) (by decide +kernel) rfl (l_V rfl ok237 rfl wd431 wd432 wd433 D234_1.1) (?_ : rSnd _ _ 4 _)
  refine s_Al gk0 (Or.inr ⟨0, D234_4, rfl⟩) ?_
  refine s_ic D234_5 kc_i_1 (by decide) ?_
  refine s_Pf (ci := 3) (r := ("WordWright$Language", kT3, 3)) rfl (show 1 < 3 from by decide) rfl (Or.inl ⟨rfl, Or.inl wd77⟩) (Or.inl rfl) rfl (by decide) D234_6 ?_
  exact s_Rv rfl D234_9.1
theorem D235_0 : rDec M235 0 (.aload_n 0) 1 1 := ⟨by decide +kernel, rfl⟩
theorem D235_1 : rDec M235 1 (.iconst 2) 1 2 := ⟨by decide +kernel, rfl⟩
theorem D235_2 : rDec M235 2 (.putfield 9) 3 5 := ⟨by decide +kernel, rfl⟩
theorem D235_5 : rDec M235 5 (.aload_n 0) 1 6 := ⟨by decide +kernel, rfl⟩
theorem D235_6 : rDec M235 6 (.iconst 1) 1 7 := ⟨by decide +kernel, rfl⟩
theorem D235_7 : rDec M235 7 (.putfield 19) 3 10 := ⟨by decide +kernel, rfl⟩
theorem D235_10 : rDec M235 10 (.aload_n 0) 1 11 := ⟨by decide +kernel, rfl⟩
theorem D235_11 : rDec M235 11 (.getfield 15) 3 14 := ⟨by decide +kernel, rfl⟩
theorem D235_14 : rDec M235 14 (.iconst 1) 1 15 := ⟨by decide +kernel, rfl⟩
theorem D235_15 : rDec M235 15 (.invokestatic 28) 3 18 := ⟨by decide +kernel, rfl⟩
theorem D235_18 : rDec M235 18 (.return_) 1 19 := ⟨by decide +kernel, rfl⟩
theorem P235_0 : rSnd lab M235 0 B235_0 := by
  refine s_Ent ?_
  refine s_Al gk0 (Or.inr ⟨0, D235_0, rfl⟩) ?_
  refine s_ic D235_1 kc_i_2 (by decide) ?_
  refine s_Pf (ci := 3) (r := ("WordWright$Language", kT3, 3)) rfl (show 0 < 3 from by decide) rfl (Or.inl ⟨rfl, Or.inl wd73⟩) (Or.inl rfl) rfl (by decide) D235_2 ?_
  refine s_Al gk0 (Or.inr ⟨0, D235_5, rfl⟩) ?_
  refine s_ic D235_6 kc_i_1 (by decide) ?_
  refine s_Pf (ci := 3) (r := ("WordWright$Language", kT3, 3)) rfl (show 1 < 3 from by decide) rfl (Or.inl ⟨rfl, Or.inl wd77⟩) (Or.inl rfl) rfl (by decide) D235_7 ?_
  refine s_Al gk0 (Or.inr ⟨0, D235_10, rfl⟩) ?_
  refine s_Gf (ci := 3) (r := ("WordWright$Language", kT3, 3)) rfl (show 2 < 3 from by decide) rfl (Or.inl wd81) (Or.inl rfl) rfl D235_11 ?_
  refine s_ic D235_14 kc_i_1 (by decide) ?_
  refine s_Cs (id := 3) rfl (l_S rfl ok3 rfl wd435 wd257 D235_15.1) (?_ : rSnd _ _ 18 _)
  exact s_Rv rfl D235_18.1
theorem D236_0 : rDec M236 0 (.iload_n 1) 1 1 := ⟨by decide +kernel, rfl⟩
theorem D236_1 : rDec M236 1 (.ifCond .ne 7) 3 4 := ⟨by decide +kernel, rfl⟩
theorem D236_4 : rDec M236 4 (.iconst 1) 1 5 := ⟨by decide +kernel, rfl⟩
theorem D236_5 : rDec M236 5 (.goto 4) 3 8 := ⟨by decide +kernel, rfl⟩
theorem D236_8 : rDec M236 8 (.iconst 2) 1 9 := ⟨by decide +kernel, rfl⟩
theorem D236_9 : rDec M236 9 (.istore_n 2) 1 10 := ⟨by decide +kernel, rfl⟩
theorem D236_10 : rDec M236 10 (.iconst 3) 1 11 := ⟨by decide +kernel, rfl⟩
theorem D236_11 : rDec M236 11 (.iload_n 2) 1 12 := ⟨by decide +kernel, rfl⟩
theorem D236_12 : rDec M236 12 (.isub) 1 13 := ⟨by decide +kernel, rfl⟩
theorem D236_13 : rDec M236 13 (.istore_n 3) 1 14 := ⟨by decide +kernel, rfl⟩
theorem D236_14 : rDec M236 14 (.aload_n 0) 1 15 := ⟨by decide +kernel, rfl⟩
theorem D236_15 : rDec M236 15 (.iconst 3) 1 16 := ⟨by decide +kernel, rfl⟩
theorem D236_16 : rDec M236 16 (.putfield 9) 3 19 := ⟨by decide +kernel, rfl⟩
theorem D236_19 : rDec M236 19 (.aload_n 0) 1 20 := ⟨by decide +kernel, rfl⟩
theorem D236_20 : rDec M236 20 (.iconst 1) 1 21 := ⟨by decide +kernel, rfl⟩
theorem D236_21 : rDec M236 21 (.iload_n 2) 1 22 := ⟨by decide +kernel, rfl⟩
theorem D236_22 : rDec M236 22 (.ishl) 1 23 := ⟨by decide +kernel, rfl⟩
theorem D236_23 : rDec M236 23 (.putfield 19) 3 26 := ⟨by decide +kernel, rfl⟩
theorem D236_26 : rDec M236 26 (.aload_n 0) 1 27 := ⟨by decide +kernel, rfl⟩
theorem D236_27 : rDec M236 27 (.getfield 15) 3 30 := ⟨by decide +kernel, rfl⟩
theorem D236_30 : rDec M236 30 (.iload_n 3) 1 31 := ⟨by decide +kernel, rfl⟩
theorem D236_31 : rDec M236 31 (.invokestatic 28) 3 34 := ⟨by decide +kernel, rfl⟩
theorem D236_34 : rDec M236 34 (.aload_n 0) 1 35 := ⟨by decide +kernel, rfl⟩
theorem D236_35 : rDec M236 35 (.getfield 15) 3 38 := ⟨by decide +kernel, rfl⟩
theorem D236_38 : rDec M236 38 (.iload_n 1) 1 39 := ⟨by decide +kernel, rfl⟩
theorem D236_39 : rDec M236 39 (.iload_n 2) 1 40 := ⟨by decide +kernel, rfl⟩
theorem D236_40 : rDec M236 40 (.iastore) 1 41 := ⟨by decide +kernel, rfl⟩
theorem D236_41 : rDec M236 41 (.return_) 1 42 := ⟨by decide +kernel, rfl⟩
theorem P236_9 : rSnd lab M236 9 B236_9 := by
  refine s_Is sk2 (show 2 < 4 from by decide) (Or.inr ⟨2, D236_9, rfl⟩) ?_
  refine s_ic D236_10 kc_i_3 (by decide) ?_
  refine s_Il gk2 (Or.inr ⟨2, D236_11, rfl⟩) ?_
  refine s_Bin q_isub n_sub rG2_x rE2_x D236_12 ?_
  refine s_Is sk3 (show 3 < 4 from by decide) (Or.inr ⟨3, D236_13, rfl⟩) ?_
  refine s_Al gk0 (Or.inr ⟨0, D236_14, rfl⟩) ?_
  refine s_ic D236_15 kc_i_3 (by decide) ?_
  refine s_Pf (ci := 3) (r := ("WordWright$Language", kT3, 3)) rfl (show 0 < 3 from by decide) rfl (Or.inl ⟨rfl, Or.inl wd73⟩) (Or.inl rfl) rfl (by decide) D236_16 ?_
  refine s_Al gk0 (Or.inr ⟨0, D236_19, rfl⟩) ?_
  refine s_ic D236_20 kc_i_1 (by decide) ?_
  refine s_Il gk2 (Or.inr ⟨2, D236_21, rfl⟩) ?_
  refine s_Bin q_ishl n_shl rG2_x rE2_x D236_22 ?_
  refine s_Pf (ci := 3) (r := ("WordWright$Language", kT3, 3)) rfl (show 1 < 3 from by decide) rfl (Or.inl ⟨rfl, Or.inl wd77⟩) (Or.inl rfl) rfl (by decide) D236_23 ?_
  refine s_Al gk0 (Or.inr ⟨0, D236_26, rfl⟩) ?_
  refine s_Gf (ci := 3) (r := ("WordWright$Language", kT3, 3)) rfl (show 2 < 3 from by decide) rfl (Or.inl wd81) (Or.inl rfl) rfl D236_27 ?_
  refine s_Il gk3 (Or.inr ⟨3, D236_30, rfl⟩) ?_
  refine s_Cs (id := 3) rfl (l_S rfl ok3 rfl wd435 wd257 D236_31.1) (?_ : rSnd _ _ 34 _)
  refine s_Al gk0 (Or.inr ⟨0, D236_34, rfl⟩) ?_
  refine s_Gf (ci := 3) (r := ("WordWright$Language", kT3, 3)) rfl (show 2 < 3 from by decide) rfl (Or.inl wd81) (Or.inl rfl) rfl D236_35 ?_
  refine s_Il gk1 (Or.inr ⟨1, D236_38, rfl⟩) ?_
  refine s_Il gk2 (Or.inr ⟨2, D236_39, rfl⟩) ?_
  refine s_Ast (t := 0) rfl q_iast rfl (by decide) D236_40 ?_
  exact s_Rv rfl D236_41.1
theorem P236_8 : rSnd lab M236 8 B236_8 := by
  refine s_ic D236_8 kc_i_2 (by decide) ?_
  exact P236_9
theorem P236_0 : rSnd lab M236 0 B236_0 := by
  refine s_Ent ?_
  refine s_Il gk1 (Or.inr ⟨1, D236_0, rfl⟩) ?_
  refine s_If c_ne (fun _ => rfl) (fun _ _ => rfl) (b_ne (tg := 8) (by decide)) D236_1.1 P236_8 (?_ : rSnd _ _ 4 _)
  refine s_ic D236_4 kc_i_1 (by decide) ?_
  exact s_Go (pc' := 9) D236_5.1 (by decide) P236_9
theorem D237_0 : rDec M237 0 (.aload_n 0) 1 1 := ⟨by decide +kernel, rfl⟩
theorem D237_1 : rDec M237 1 (.iconst 1) 1 2 := ⟨by decide +kernel, rfl⟩
theorem D237_2 : rDec M237 2 (.putfield 9) 3 5 := ⟨by decide +kernel, rfl⟩
theorem D237_5 : rDec M237 5 (.aload_n 0) 1 6 := ⟨by decide +kernel, rfl⟩
theorem D237_6 : rDec M237 6 (.iconst 0) 1 7 := ⟨by decide +kernel, rfl⟩
theorem D237_7 : rDec M237 7 (.putfield 19) 3 10 := ⟨by decide +kernel, rfl⟩
theorem D237_10 : rDec M237 10 (.aload_n 0) 1 11 := ⟨by decide +kernel, rfl⟩
theorem D237_11 : rDec M237 11 (.getfield 15) 3 14 := ⟨by decide +kernel, rfl⟩
theorem D237_14 : rDec M237 14 (.iconst 0) 1 15 := ⟨by decide +kernel, rfl⟩
theorem D237_15 : rDec M237 15 (.invokestatic 28) 3 18 := ⟨by decide +kernel, rfl⟩
theorem D237_18 : rDec M237 18 (.return_) 1 19 := ⟨by decide +kernel, rfl⟩
theorem P237_0 : rSnd lab M237 0 B237_0 := by
  refine s_Ent ?_
  refine s_Al gk0 (Or.inr ⟨0, D237_0, rfl⟩) ?_
  refine s_ic D237_1 kc_i_1 (by decide) ?_
  refine s_Pf (ci := 3) (r := ("WordWright$Language", kT3, 3)) rfl (show 0 < 3 from by decide) rfl (Or.inl ⟨rfl, Or.inl wd73⟩) (Or.inl rfl) rfl (by decide) D237_2 ?_
  refine s_Al gk0 (Or.inr ⟨0, D237_5, rfl⟩) ?_
  refine s_ic D237_6 kc_i_0 (by decide) ?_
  refine s_Pf (ci := 3) (r := ("WordWright$Language", kT3, 3)) rfl (show 1 < 3 from by decide) rfl (Or.inl ⟨rfl, Or.inl wd77⟩) (Or.inl rfl) rfl (by decide) D237_7 ?_
  refine s_Al gk0 (Or.inr ⟨0, D237_10, rfl⟩) ?_
  refine s_Gf (ci := 3) (r := ("WordWright$Language", kT3, 3)) rfl (show 2 < 3 from by decide) rfl (Or.inl wd81) (Or.inl rfl) rfl D237_11 ?_
  refine s_ic D237_14 kc_i_0 (by decide) ?_
  refine s_Cs (id := 3) rfl (l_S rfl ok3 rfl wd435 wd257 D237_15.1) (?_ : rSnd _ _ 18 _)
  exact s_Rv rfl D237_18.1
theorem D238_0 : rDec M238 0 (.iconst 0) 1 1 := ⟨by decide +kernel, rfl⟩
theorem D238_1 : rDec M238 1 (.istore_n 2) 1 2 := ⟨by decide +kernel, rfl⟩
theorem D238_2 : rDec M238 2 (.iload_n 1) 1 3 := ⟨by decide +kernel, rfl⟩
theorem D238_3 : rDec M238 3 (.invokestatic 37) 3 6 := ⟨by decide +kernel, rfl⟩
theorem D238_6 : rDec M238 6 (.iconst 1) 1 7 := ⟨by decide +kernel, rfl⟩
theorem D238_7 : rDec M238 7 (.isub) 1 8 := ⟨by decide +kernel, rfl⟩
theorem D238_8 : rDec M238 8 (.istore_n 3) 1 9 := ⟨by decide +kernel, rfl⟩
theorem D238_9 : rDec M238 9 (.iload_n 3) 1 10 := ⟨by decide +kernel, rfl⟩
theorem D238_10 : rDec M238 10 (.ifCond .lt 22) 3 13 := ⟨by decide +kernel, rfl⟩
theorem D238_13 : rDec M238 13 (.aload_n 0) 1 14 := ⟨by decide +kernel, rfl⟩
theorem D238_14 : rDec M238 14 (.iload_n 2) 1 15 := ⟨by decide +kernel, rfl⟩
theorem D238_15 : rDec M238 15 (.iload_n 1) 1 16 := ⟨by decide +kernel, rfl⟩
theorem D238_16 : rDec M238 16 (.iconst 2) 1 17 := ⟨by decide +kernel, rfl⟩
theorem D238_17 : rDec M238 17 (.iload_n 3) 1 18 := ⟨by decide +kernel, rfl⟩
theorem D238_18 : rDec M238 18 (.imul) 1 19 := ⟨by decide +kernel, rfl⟩
theorem D238_19 : rDec M238 19 (.ishr) 1 20 := ⟨by decide +kernel, rfl⟩
theorem D238_20 : rDec M238 20 (.iconst 3) 1 21 := ⟨by decide +kernel, rfl⟩
theorem D238_21 : rDec M238 21 (.iand) 1 22 := ⟨by decide +kernel, rfl⟩
theorem D238_22 : rDec M238 22 (.invokevirtual 41) 3 25 := ⟨by decide +kernel, rfl⟩
theorem D238_25 : rDec M238 25 (.istore_n 2) 1 26 := ⟨by decide +kernel, rfl⟩
theorem D238_26 : rDec M238 26 (.iinc 3 (-1)) 3 29 := ⟨by decide +kernel, rfl⟩
theorem D238_29 : rDec M238 29 (.goto (-20)) 3 32 := ⟨by decide +kernel, rfl⟩
theorem D238_32 : rDec M238 32 (.aload_n 0) 1 33 := ⟨by decide +kernel, rfl⟩
theorem D238_33 : rDec M238 33 (.iload_n 2) 1 34 := ⟨by decide +kernel, rfl⟩
theorem D238_34 : rDec M238 34 (.invokevirtual 45) 3 37 := ⟨by decide +kernel, rfl⟩
theorem D238_37 : rDec M238 37 (.ireturn) 1 38 := ⟨by decide +kernel, rfl⟩
theorem P238_32 : rSnd lab M238 32 B238_32 := by
  refine s_Al gk0 (Or.inr ⟨0, D238_32, rfl⟩) ?_
  refine s_Il gk2 (Or.inr ⟨2, D238_33, rfl⟩) ?_
  refine s_Cv (ln := 3) (kd := 8) (C := "WordWright$Language") (by decide) (by decide +kernel) rfl (l_V rfl ok240 rfl wd508 wd509 wd510 D238_34.1) (?_ : rSnd _ _ 37 _)
  exact s_Ri (Or.inr ⟨rfl, by decide⟩) D238_37.1
theorem P238_9 : rSnd lab M238 9 B238_9 := by
  refine s_Il gk3 (Or.inr ⟨3, D238_9, rfl⟩) ?_
  refine s_If c_lt (fun _ => rfl) (fun _ _ => rfl) (b_lt (tg := 32) (by decide)) D238_10.1 P238_32 (?_ : rSnd _ _ 13 _)
  refine s_Al gk0 (Or.inr ⟨0, D238_13, rfl⟩) ?_
  refine s_Il gk2 (Or.inr ⟨2, D238_14, rfl⟩) ?_
  refine s_Il gk1 (Or.inr ⟨1, D238_15, rfl⟩) ?_
  refine s_ic D238_16 kc_i_2 (by decide) ?_
  refine s_Il gk3 (Or.inr ⟨3, D238_17, rfl⟩) ?_
  refine s_Bin q_imul n_mul rG2_x rE2_x D238_18 ?_
  refine s_Bin q_ishr n_shr g_shr rE2_x D238_19 ?_
  refine s_ic D238_20 kc_i_3 (by decide) ?_
  refine s_Bin q_iand n_and g_and rE2_x D238_21 ?_
  refine s_Cv (ln := 3) (kd := 8) (C := "WordWright$Language") (by decide) (by decide +kernel) rfl (l_V rfl ok231 rfl wd504 wd505 wd506 D238_22.1) (?_ : rSnd _ _ 25 _)
  refine s_Is sk2 (show 2 < 4 from by decide) (Or.inr ⟨2, D238_25, rfl⟩) ?_
  refine s_Inc gk3 sk3 (show 3 < 4 from by decide) kc_i_m1 D238_26 ?_
  exact s_Go (pc' := 9) D238_29.1 (by decide) (s_Jb rfl)
theorem P238_0 : rSnd lab M238 0 B238_0 := by
  refine s_Ent ?_
  refine s_ic D238_0 kc_i_0 (by decide) ?_
  refine s_Is sk2 (show 2 < 4 from by decide) (Or.inr ⟨2, D238_1, rfl⟩) ?_
  refine s_Il gk1 (Or.inr ⟨1, D238_2, rfl⟩) ?_
  refine s_Cs (id := 97) rfl (l_SN (j := 24) rfl ok84 rfl rfl wd498 D238_3.1) (?_ : rSnd _ _ 6 _)
  refine s_ic D238_6 kc_i_1 (by decide) ?_
  refine s_Bin q_isub n_sub rG2_x rE2_x D238_7 ?_
  refine s_Is sk3 (show 3 < 4 from by decide) (Or.inr ⟨3, D238_8, rfl⟩) ?_
  exact P238_9
theorem D239_0 : rDec M239 0 (.aload_n 0) 1 1 := ⟨by decide +kernel, rfl⟩
theorem D239_1 : rDec M239 1 (.invokespecial 3) 3 4 := ⟨by decide +kernel, rfl⟩
theorem D239_4 : rDec M239 4 (.aload_n 0) 1 5 := ⟨by decide +kernel, rfl⟩
theorem D239_5 : rDec M239 5 (.iconst 1) 1 6 := ⟨by decide +kernel, rfl⟩
theorem D239_6 : rDec M239 6 (.putfield 9) 3 9 := ⟨by decide +kernel, rfl⟩
theorem D239_9 : rDec M239 9 (.aload_n 0) 1 10 := ⟨by decide +kernel, rfl⟩
theorem D239_10 : rDec M239 10 (.bipush 40) 2 12 := ⟨by decide +kernel, rfl⟩
theorem D239_12 : rDec M239 12 (.newarray .int) 2 14 := ⟨by decide +kernel, rfl⟩
theorem D239_14 : rDec M239 14 (.putfield 15) 3 17 := ⟨by decide +kernel, rfl⟩
theorem D239_17 : rDec M239 17 (.return_) 1 18 := ⟨by decide +kernel, rfl⟩
theorem P239_0 : rSnd lab M239 0 B239_0 := by
  refine s_Ent ?_
  refine s_Al gk0 (Or.inr ⟨0, D239_0, rfl⟩) ?_
  refine s_Oi rfl wd72 wd62 wd63 D239_1 ?_
  refine s_Al gk0 (Or.inr ⟨0, D239_4, rfl⟩) ?_
  refine s_ic D239_5 kc_i_1 (by decide) ?_
  refine s_Pf (ci := 3) (r := ("WordWright$Language", kT3, 3)) rfl (show 0 < 3 from by decide) rfl (Or.inl ⟨rfl, Or.inl wd73⟩) (Or.inl rfl) rfl (by decide) D239_6 ?_
  refine s_Al gk0 (Or.inr ⟨0, D239_9, rfl⟩) ?_
  refine s_bi D239_10 kc_b_40 (by decide) ?_
  refine s_Nwa (t := 0) rfl (q_newa (at_ := .int) (Or.inl rfl)) (fun ht _ => ht _ wd91) D239_12 ?_
  refine s_Pf (ci := 3) (r := ("WordWright$Language", kT3, 3)) rfl (show 2 < 3 from by decide) rfl (Or.inr ⟨rfl, wd81, rfl, rfl⟩) (Or.inl rfl) rfl (by decide) D239_14 ?_
  exact s_Rv rfl D239_17.1
theorem D240_0 : rDec M240 0 (.aload_n 0) 1 1 := ⟨by decide +kernel, rfl⟩
theorem D240_1 : rDec M240 1 (.getfield 19) 3 4 := ⟨by decide +kernel, rfl⟩
theorem D240_4 : rDec M240 4 (.iload_n 1) 1 5 := ⟨by decide +kernel, rfl⟩
theorem D240_5 : rDec M240 5 (.ishr) 1 6 := ⟨by decide +kernel, rfl⟩
theorem D240_6 : rDec M240 6 (.iconst 1) 1 7 := ⟨by decide +kernel, rfl⟩
theorem D240_7 : rDec M240 7 (.iand) 1 8 := ⟨by decide +kernel, rfl⟩
theorem D240_8 : rDec M240 8 (.ifCond .eq 7) 3 11 := ⟨by decide +kernel, rfl⟩
theorem D240_11 : rDec M240 11 (.iconst 1) 1 12 := ⟨by decide +kernel, rfl⟩
theorem D240_12 : rDec M240 12 (.goto 4) 3 15 := ⟨by decide +kernel, rfl⟩
theorem D240_15 : rDec M240 15 (.iconst 0) 1 16 := ⟨by decide +kernel, rfl⟩
theorem D240_16 : rDec M240 16 (.ireturn) 1 17 := ⟨by decide +kernel, rfl⟩
theorem P240_16 : rSnd lab M240 16 B240_16 := by
  exact s_Ri (Or.inr ⟨rfl, by decide⟩) D240_16.1
theorem P240_15 : rSnd lab M240 15 B240_15 := by
  refine s_ic D240_15 kc_i_0 (by decide) ?_
  exact P240_16
theorem P240_0 : rSnd lab M240 0 B240_0 := by
  refine s_Ent ?_
  refine s_Al gk0 (Or.inr ⟨0, D240_0, rfl⟩) ?_
  refine s_Gf (ci := 3) (r := ("WordWright$Language", kT3, 3)) rfl (show 1 < 3 from by decide) rfl (Or.inl wd77) (Or.inl rfl) rfl D240_1 ?_
  refine s_Il gk1 (Or.inr ⟨1, D240_4, rfl⟩) ?_
  refine s_Bin q_ishr n_shr g_shr rE2_x D240_5 ?_
  refine s_ic D240_6 kc_i_1 (by decide) ?_
  refine s_Bin q_iand n_and g_and rE2_x D240_7 ?_
  refine s_If c_eq (fun _ => rfl) (fun _ _ => rfl) (b_eq (tg := 15) (by decide)) D240_8.1 P240_15 (?_ : rSnd _ _ 11 _)
  refine s_ic D240_11 kc_i_1 (by decide) ?_
  exact s_Go (pc' := 16) D240_12.1 (by decide) P240_16
theorem D241_0 : rDec M241 0 (.aload_n 0) 1 1 := ⟨by decide +kernel, rfl⟩
theorem D241_1 : rDec M241 1 (.invokevirtual 52) 3 4 := ⟨by decide +kernel, rfl⟩
theorem D241_4 : rDec M241 4 (.aload_n 0) 1 5 := ⟨by decide +kernel, rfl⟩
theorem D241_5 : rDec M241 5 (.getfield 9) 3 8 := ⟨by decide +kernel, rfl⟩
theorem D241_8 : rDec M241 8 (.if_icmp .lt 7) 3 11 := ⟨by decide +kernel, rfl⟩
theorem D241_11 : rDec M241 11 (.iconst 1) 1 12 := ⟨by decide +kernel, rfl⟩
theorem D241_12 : rDec M241 12 (.goto 4) 3 15 := ⟨by decide +kernel, rfl⟩
theorem D241_15 : rDec M241 15 (.iconst 0) 1 16 := ⟨by decide +kernel, rfl⟩
theorem D241_16 : rDec M241 16 (.ireturn) 1 17 := ⟨by decide +kernel, rfl⟩
theorem P241_16 : rSnd lab M241 16 B241_16 := by
  exact s_Ri (Or.inr ⟨rfl, by decide⟩) D241_16.1
theorem P241_15 : rSnd lab M241 15 B241_15 := by
  refine s_ic D241_15 kc_i_0 (by decide) ?_
  exact P241_16
theorem P241_0 : rSnd lab M241 0 B241_0 := by
  refine s_Ent ?_
  refine s_Al gk0 (Or.inr ⟨0, D241_0, rfl⟩) ?_
  refine s_Cv (ln := 3) (kd := 8) (C := "WordWright$Language") (by decide) (by decide +kernel) rfl (l_V rfl ok244 rfl wd784 wd785 wd786 D241_1.1) (?_ : rSnd _ _ 4 _)
  refine s_Al gk0 (Or.inr ⟨0, D241_4, rfl⟩) ?_
  refine s_Gf (ci := 3) (r := ("WordWright$Language", kT3, 3)) rfl (show 0 < 3 from by decide) rfl (Or.inl wd73) (Or.inl rfl) rfl D241_5 ?_
  refine s_Ic c_lt (i_lt (tg := 15) (by decide)) D241_8.1 P241_15 (?_ : rSnd _ _ 11 _)
  refine s_ic D241_11 kc_i_1 (by decide) ?_
  exact s_Go (pc' := 16) D241_12.1 (by decide) P241_16
theorem D242_0 : rDec M242 0 (.aload_n 0) 1 1 := ⟨by decide +kernel, rfl⟩
theorem D242_1 : rDec M242 1 (.iload_n 1) 1 2 := ⟨by decide +kernel, rfl⟩
theorem D242_2 : rDec M242 2 (.invokevirtual 59) 3 5 := ⟨by decide +kernel, rfl⟩
theorem D242_5 : rDec M242 5 (.istore_n 2) 1 6 := ⟨by decide +kernel, rfl⟩
theorem D242_6 : rDec M242 6 (.aload_n 0) 1 7 := ⟨by decide +kernel, rfl⟩
theorem D242_7 : rDec M242 7 (.iload_n 1) 1 8 := ⟨by decide +kernel, rfl⟩
theorem D242_8 : rDec M242 8 (.invokevirtual 62) 3 11 := ⟨by decide +kernel, rfl⟩
theorem D242_11 : rDec M242 11 (.istore_n 3) 1 12 := ⟨by decide +kernel, rfl⟩
theorem D242_12 : rDec M242 12 (.iconst 0) 1 13 := ⟨by decide +kernel, rfl⟩
theorem D242_13 : rDec M242 13 (.istore 4) 2 15 := ⟨by decide +kernel, rfl⟩
theorem D242_15 : rDec M242 15 (.iconst 0) 1 16 := ⟨by decide +kernel, rfl⟩
theorem D242_16 : rDec M242 16 (.istore 5) 2 18 := ⟨by decide +kernel, rfl⟩
theorem D242_18 : rDec M242 18 (.iload 5) 2 20 := ⟨by decide +kernel, rfl⟩
theorem D242_20 : rDec M242 20 (.iconst 4) 1 21 := ⟨by decide +kernel, rfl⟩
theorem D242_21 : rDec M242 21 (.if_icmp .ge 39) 3 24 := ⟨by decide +kernel, rfl⟩
theorem D242_24 : rDec M242 24 (.iload_n 1) 1 25 := ⟨by decide +kernel, rfl⟩
theorem D242_25 : rDec M242 25 (.iload 5) 2 27 := ⟨by decide +kernel, rfl⟩
theorem D242_27 : rDec M242 27 (.ishr) 1 28 := ⟨by decide +kernel, rfl⟩
theorem D242_28 : rDec M242 28 (.iconst 1) 1 29 := ⟨by decide +kernel, rfl⟩
theorem D242_29 : rDec M242 29 (.iand) 1 30 := ⟨by decide +kernel, rfl⟩
theorem D242_30 : rDec M242 30 (.ifCond .eq 24) 3 33 := ⟨by decide +kernel, rfl⟩
theorem D242_33 : rDec M242 33 (.aload_n 0) 1 34 := ⟨by decide +kernel, rfl⟩
theorem D242_34 : rDec M242 34 (.iload_n 2) 1 35 := ⟨by decide +kernel, rfl⟩
theorem D242_35 : rDec M242 35 (.iload 5) 2 37 := ⟨by decide +kernel, rfl⟩
theorem D242_37 : rDec M242 37 (.invokevirtual 49) 3 40 := ⟨by decide +kernel, rfl⟩
theorem D242_40 : rDec M242 40 (.iload_n 3) 1 41 := ⟨by decide +kernel, rfl⟩
theorem D242_41 : rDec M242 41 (.iand) 1 42 := ⟨by decide +kernel, rfl⟩
theorem D242_42 : rDec M242 42 (.ifCond .eq 12) 3 45 := ⟨by decide +kernel, rfl⟩
theorem D242_45 : rDec M242 45 (.iload 4) 2 47 := ⟨by decide +kernel, rfl⟩
theorem D242_47 : rDec M242 47 (.iconst 1) 1 48 := ⟨by decide +kernel, rfl⟩
theorem D242_48 : rDec M242 48 (.iload 5) 2 50 := ⟨by decide +kernel, rfl⟩
theorem D242_50 : rDec M242 50 (.ishl) 1 51 := ⟨by decide +kernel, rfl⟩
theorem D242_51 : rDec M242 51 (.ior) 1 52 := ⟨by decide +kernel, rfl⟩
theorem D242_52 : rDec M242 52 (.istore 4) 2 54 := ⟨by decide +kernel, rfl⟩
theorem D242_54 : rDec M242 54 (.iinc 5 1) 3 57 := ⟨by decide +kernel, rfl⟩
theorem D242_57 : rDec M242 57 (.goto (-39)) 3 60 := ⟨by decide +kernel, rfl⟩
theorem D242_60 : rDec M242 60 (.iload 4) 2 62 := ⟨by decide +kernel, rfl⟩
theorem D242_62 : rDec M242 62 (.ireturn) 1 63 := ⟨by decide +kernel, rfl⟩
theorem P242_60 : rSnd lab M242 60 B242_60 := by
  refine s_Il gk4 (Or.inl D242_60) ?_
  exact s_Ri (Or.inl rfl) D242_62.1
theorem P242_54 : rSnd lab M242 54 B242_54 := by
  refine s_Inc gk5 sk5 (show 5 < 6 from by decide) kc_i_1 D242_54 ?_
  exact s_Go (pc' := 18) D242_57.1 (by decide) (s_Jb rfl)
theorem P242_18 : rSnd lab M242 18 B242_18 := by
  refine s_Il gk5 (Or.inl D242_18) ?_
  refine s_ic D242_20 kc_i_4 (by decide) ?_
  refine s_Ic c_ge (i_ge (tg := 60) (by decide)) D242_21.1 P242_60 (?_ : rSnd _ _ 24 _)
  refine s_Il gk1 (Or.inr ⟨1, D242_24, rfl⟩) ?_
  refine s_Il gk5 (Or.inl D242_25) ?_
  refine s_Bin q_ishr n_shr g_shr rE2_x D242_27 ?_
  refine s_ic D242_28 kc_i_1 (by decide) ?_
  refine s_Bin q_iand n_and g_and rE2_x D242_29 ?_
  refine s_If c_eq (fun _ => rfl) (fun _ _ => rfl) (b_eq (tg := 54) (by decide)) D242_30.1 P242_54 (?_ : rSnd _ _ 33 _)
  refine s_Al gk0 (Or.inr ⟨0, D242_33, rfl⟩) ?_
  refine s_Il gk2 (Or.inr ⟨2, D242_34, rfl⟩) ?_
  refine s_Il gk5 (Or.inl D242_35) ?_
  refine s_Cv (ln := 3) (kd := 8) (C := "WordWright$Language") (by decide) (by decide +kernel) rfl (l_V rfl ok232 rfl wd788 wd697 wd698 D242_37.1) (?_ : rSnd _ _ 40 _)
  refine s_Il gk3 (Or.inr ⟨3, D242_40, rfl⟩) ?_
  refine s_Bin q_iand n_and g_and rE2_x D242_41 ?_
  refine s_If c_eq (fun _ => rfl) (fun _ _ => rfl) (b_eq (tg := 54) (by decide)) D242_42.1 P242_54 (?_ : rSnd _ _ 45 _)
  refine s_Il gk4 (Or.inl D242_45) ?_
  refine s_ic D242_47 kc_i_1 (by decide) ?_
  refine s_Il gk5 (Or.inl D242_48) ?_
  refine s_Bin q_ishl n_shl rG2_x rE2_x D242_50 ?_
  refine s_Bin q_ior n_or rG2_x rE2_x D242_51 ?_
  refine s_Is sk4 (show 4 < 6 from by decide) (Or.inl D242_52) ?_
  exact P242_54
theorem P242_0 : rSnd lab M242 0 B242_0 := by
  refine s_Ent ?_
  refine s_Al gk0 (Or.inr ⟨0, D242_0, rfl⟩) ?_
  refine s_Il gk1 (Or.inr ⟨1, D242_1, rfl⟩) ?_
  refine s_Cv (ln := 3) (kd := 8) (C := "WordWright$Language") (by decide) (by decide +kernel) rfl (l_V rfl ok245 rfl wd794 wd795 wd796 D242_2.1) (?_ : rSnd _ _ 5 _)
  refine s_Is sk2 (show 2 < 6 from by decide) (Or.inr ⟨2, D242_5, rfl⟩) ?_
  refine s_Al gk0 (Or.inr ⟨0, D242_6, rfl⟩) ?_
  refine s_Il gk1 (Or.inr ⟨1, D242_7, rfl⟩) ?_
  refine s_Cv (ln := 3) (kd := 8) (C := "WordWright$Language") (by decide) (by decide +kernel) rfl (l_V rfl ok243 rfl wd798 wd799 wd800 D242_8.1) (?_ : rSnd _ _ 11 _)
  refine s_Is sk3 (show 3 < 6 from by decide) (Or.inr ⟨3, D242_11, rfl⟩) ?_
  refine s_ic D242_12 kc_i_0 (by decide) ?_
  refine s_Is sk4 (show 4 < 6 from by decide) (Or.inl D242_13) ?_
  refine s_ic D242_15 kc_i_0 (by decide) ?_
  refine s_Is sk5 (show 5 < 6 from by decide) (Or.inl D242_16) ?_
  exact P242_18
theorem D243_0 : rDec M243 0 (.aload_n 0) 1 1 := ⟨by decide +kernel, rfl⟩
theorem D243_1 : rDec M243 1 (.getfield 19) 3 4 := ⟨by decide +kernel, rfl⟩
theorem D243_4 : rDec M243 4 (.istore_n 2) 1 5 := ⟨by decide +kernel, rfl⟩
theorem D243_5 : rDec M243 5 (.iconst 1) 1 6 := ⟨by decide +kernel, rfl⟩
theorem D243_6 : rDec M243 6 (.istore_n 3) 1 7 := ⟨by decide +kernel, rfl⟩
theorem D243_7 : rDec M243 7 (.iload_n 3) 1 8 := ⟨by decide +kernel, rfl⟩
theorem D243_8 : rDec M243 8 (.aload_n 0) 1 9 := ⟨by decide +kernel, rfl⟩
theorem D243_9 : rDec M243 9 (.getfield 9) 3 12 := ⟨by decide +kernel, rfl⟩
theorem D243_12 : rDec M243 12 (.if_icmp .ge 43) 3 15 := ⟨by decide +kernel, rfl⟩
theorem D243_55 : rDec M243 55 (.iload_n 2) 1 56 := ⟨by decide +kernel, rfl⟩
theorem D243_56 : rDec M243 56 (.ireturn) 1 57 := ⟨by decide +kernel, rfl⟩
theorem P243_55 : rSnd lab M243 55 B243_55 := by
  refine s_Il gk2 (Or.inr ⟨2, D243_55, rfl⟩) ?_
  exact s_Ri (Or.inl rfl) D243_56.1
theorem P243_0 : rSnd lab M243 0 B243_0 := by
  refine s_Ent ?_
  refine s_Al gk0 (Or.inr ⟨0, D243_0, rfl⟩) ?_
  refine s_Gf (ci := 3) (r := ("WordWright$Language", kT3, 3)) rfl (show 1 < 3 from by decide) rfl (Or.inl wd77) (Or.inl rfl) rfl D243_1 ?_
  refine s_Is sk2 (show 2 < 5 from by decide) (Or.inr ⟨2, D243_4, rfl⟩) ?_
  refine s_ic D243_5 kc_i_1 (by decide) ?_
  refine s_Is sk3 (show 3 < 5 from by decide) (Or.inr ⟨3, D243_6, rfl⟩) ?_
  refine s_Il gk3 (Or.inr ⟨3, D243_7, rfl⟩) ?_
  refine s_Al gk0 (Or.inr ⟨0, D243_8, rfl⟩) ?_
  refine s_Gf (ci := 3) (r := ("WordWright$Language", kT3, 3)) rfl (show 0 < 3 from by decide) rfl (Or.inl wd73) (Or.inl rfl) rfl D243_9 ?_
  refine s_Ic c_ge (i_ge (tg := 55) (by decide)) D243_12.1 P243_55 (?_ : rSnd _ _ 15 _)
  exact rSnd_none
theorem D244_0 : rDec M244 0 (.iconst (-1)) 1 1 := ⟨by decide +kernel, rfl⟩
theorem D244_1 : rDec M244 1 (.istore_n 1) 1 2 := ⟨by decide +kernel, rfl⟩
theorem D244_2 : rDec M244 2 (.iconst 1) 1 3 := ⟨by decide +kernel, rfl⟩
theorem D244_3 : rDec M244 3 (.istore_n 2) 1 4 := ⟨by decide +kernel, rfl⟩
theorem D244_4 : rDec M244 4 (.iconst 0) 1 5 := ⟨by decide +kernel, rfl⟩
theorem D244_5 : rDec M244 5 (.istore_n 3) 1 6 := ⟨by decide +kernel, rfl⟩
theorem D244_6 : rDec M244 6 (.iload_n 3) 1 7 := ⟨by decide +kernel, rfl⟩
theorem D244_7 : rDec M244 7 (.iconst 2) 1 8 := ⟨by decide +kernel, rfl⟩
theorem D244_8 : rDec M244 8 (.aload_n 0) 1 9 := ⟨by decide +kernel, rfl⟩
theorem D244_9 : rDec M244 9 (.getfield 9) 3 12 := ⟨by decide +kernel, rfl⟩
theorem D244_12 : rDec M244 12 (.imul) 1 13 := ⟨by decide +kernel, rfl⟩
theorem D244_13 : rDec M244 13 (.if_icmp .ge 48) 3 16 := ⟨by decide +kernel, rfl⟩
theorem D244_16 : rDec M244 16 (.iload_n 2) 1 17 := ⟨by decide +kernel, rfl⟩
theorem D244_17 : rDec M244 17 (.aload_n 0) 1 18 := ⟨by decide +kernel, rfl⟩
theorem D244_18 : rDec M244 18 (.getfield 19) 3 21 := ⟨by decide +kernel, rfl⟩
theorem D244_21 : rDec M244 21 (.iand) 1 22 := ⟨by decide +kernel, rfl⟩
theorem D244_22 : rDec M244 22 (.ifCond .eq 5) 3 25 := ⟨by decide +kernel, rfl⟩
theorem D244_25 : rDec M244 25 (.iload_n 3) 1 26 := ⟨by decide +kernel, rfl⟩
theorem D244_26 : rDec M244 26 (.istore_n 1) 1 27 := ⟨by decide +kernel, rfl⟩
theorem D244_27 : rDec M244 27 (.aload_n 0) 1 28 := ⟨by decide +kernel, rfl⟩
theorem D244_28 : rDec M244 28 (.iload_n 2) 1 29 := ⟨by decide +kernel, rfl⟩
theorem D244_29 : rDec M244 29 (.iconst 0) 1 30 := ⟨by decide +kernel, rfl⟩
theorem D244_30 : rDec M244 30 (.invokevirtual 49) 3 33 := ⟨by decide +kernel, rfl⟩
theorem D244_33 : rDec M244 33 (.aload_n 0) 1 34 := ⟨by decide +kernel, rfl⟩
theorem D244_34 : rDec M244 34 (.iload_n 2) 1 35 := ⟨by decide +kernel, rfl⟩
theorem D244_35 : rDec M244 35 (.iconst 1) 1 36 := ⟨by decide +kernel, rfl⟩
theorem D244_36 : rDec M244 36 (.invokevirtual 49) 3 39 := ⟨by decide +kernel, rfl⟩
theorem D244_39 : rDec M244 39 (.ior) 1 40 := ⟨by decide +kernel, rfl⟩
theorem D244_40 : rDec M244 40 (.aload_n 0) 1 41 := ⟨by decide +kernel, rfl⟩
theorem D244_41 : rDec M244 41 (.iload_n 2) 1 42 := ⟨by decide +kernel, rfl⟩
theorem D244_42 : rDec M244 42 (.iconst 2) 1 43 := ⟨by decide +kernel, rfl⟩
theorem D244_43 : rDec M244 43 (.invokevirtual 49) 3 46 := ⟨by decide +kernel, rfl⟩
theorem D244_46 : rDec M244 46 (.ior) 1 47 := ⟨by decide +kernel, rfl⟩
theorem D244_47 : rDec M244 47 (.aload_n 0) 1 48 := ⟨by decide +kernel, rfl⟩
theorem D244_48 : rDec M244 48 (.iload_n 2) 1 49 := ⟨by decide +kernel, rfl⟩
theorem D244_49 : rDec M244 49 (.iconst 3) 1 50 := ⟨by decide +kernel, rfl⟩
theorem D244_50 : rDec M244 50 (.invokevirtual 49) 3 53 := ⟨by decide +kernel, rfl⟩
theorem D244_53 : rDec M244 53 (.ior) 1 54 := ⟨by decide +kernel, rfl⟩
theorem D244_54 : rDec M244 54 (.istore_n 2) 1 55 := ⟨by decide +kernel, rfl⟩
theorem D244_55 : rDec M244 55 (.iinc 3 1) 3 58 := ⟨by decide +kernel, rfl⟩
theorem D244_58 : rDec M244 58 (.goto (-52)) 3 61 := ⟨by decide +kernel, rfl⟩
theorem D244_61 : rDec M244 61 (.iload_n 1) 1 62 := ⟨by decide +kernel, rfl⟩
theorem D244_62 : rDec M244 62 (.ireturn) 1 63 := ⟨by decide +kernel, rfl⟩
theorem P244_61 : rSnd lab M244 61 B244_61 := by
  refine s_Il gk1 (Or.inr ⟨1, D244_61, rfl⟩) ?_
  exact s_Ri (Or.inl rfl) D244_62.1
theorem P244_27 : rSnd lab M244 27 B244_27 := by
  refine s_Al gk0 (Or.inr ⟨0, D244_27, rfl⟩) ?_
  refine s_Il gk2 (Or.inr ⟨2, D244_28, rfl⟩) ?_
  refine s_ic D244_29 kc_i_0 (by decide) ?_
  refine s_Cv (ln := 3) (kd := 8) (C := "WordWright$Language") (by decide) (by decide +kernel) rfl (l_V rfl ok232 rfl wd788 wd697 wd698 D244_30.1) (?_ : rSnd _ _ 33 _)
  refine s_Al gk0 (Or.inr ⟨0, D244_33, rfl⟩) ?_
  refine s_Il gk2 (Or.inr ⟨2, D244_34, rfl⟩) ?_
  refine s_ic D244_35 kc_i_1 (by decide) ?_
  refine s_Cv (ln := 3) (kd := 8) (C := "WordWright$Language") (by decide) (by decide +kernel) rfl (l_V rfl ok232 rfl wd788 wd697 wd698 D244_36.1) (?_ : rSnd _ _ 39 _)
  refine s_Bin q_ior n_or rG2_x rE2_x D244_39 ?_
  refine s_Al gk0 (Or.inr ⟨0, D244_40, rfl⟩) ?_
  refine s_Il gk2 (Or.inr ⟨2, D244_41, rfl⟩) ?_
  refine s_ic D244_42 kc_i_2 (by decide) ?_
  refine s_Cv (ln := 3) (kd := 8) (C := "WordWright$Language") (by decide) (by decide +kernel) rfl (l_V rfl ok232 rfl wd788 wd697 wd698 D244_43.1) (?_ : rSnd _ _ 46 _)
  refine s_Bin q_ior n_or rG2_x rE2_x D244_46 ?_
  refine s_Al gk0 (Or.inr ⟨0, D244_47, rfl⟩) ?_
  refine s_Il gk2 (Or.inr ⟨2, D244_48, rfl⟩) ?_
  refine s_ic D244_49 kc_i_3 (by decide) ?_
  refine s_Cv (ln := 3) (kd := 8) (C := "WordWright$Language") (by decide) (by decide +kernel) rfl (l_V rfl ok232 rfl wd788 wd697 wd698 D244_50.1) (?_ : rSnd _ _ 53 _)
  refine s_Bin q_ior n_or rG2_x rE2_x D244_53 ?_
  refine s_Is sk2 (show 2 < 4 from by decide) (Or.inr ⟨2, D244_54, rfl⟩) ?_
  refine s_Inc gk3 sk3 (show 3 < 4 from by decide) kc_i_1 D244_55 ?_
  exact s_Go (pc' := 6) D244_58.1 (by decide) (s_Jb rfl)
theorem P244_6 : rSnd lab M244 6 B244_6 := by
  refine s_Il gk3 (Or.inr ⟨3, D244_6, rfl⟩) ?_
  refine s_ic D244_7 kc_i_2 (by decide) ?_
  refine s_Al gk0 (Or.inr ⟨0, D244_8, rfl⟩) ?_
  refine s_Gf (ci := 3) (r := ("WordWright$Language", kT3, 3)) rfl (show 0 < 3 from by decide) rfl (Or.inl wd73) (Or.inl rfl) rfl D244_9 ?_
  refine s_Bin q_imul n_mul rG2_x rE2_x D244_12 ?_
  refine s_Ic c_ge (i_ge (tg := 61) (by decide)) D244_13.1 P244_61 (?_ : rSnd _ _ 16 _)
  refine s_Il gk2 (Or.inr ⟨2, D244_16, rfl⟩) ?_
  refine s_Al gk0 (Or.inr ⟨0, D244_17, rfl⟩) ?_
  refine s_Gf (ci := 3) (r := ("WordWright$Language", kT3, 3)) rfl (show 1 < 3 from by decide) rfl (Or.inl wd77) (Or.inl rfl) rfl D244_18 ?_
  refine s_Bin q_iand n_and g_and rE2_x D244_21 ?_
  refine s_If c_eq (fun _ => rfl) (fun _ _ => rfl) (b_eq (tg := 27) (by decide)) D244_22.1 P244_27 (?_ : rSnd _ _ 25 _)
  refine s_Il gk3 (Or.inr ⟨3, D244_25, rfl⟩) ?_
  refine s_Is sk1 (show 1 < 4 from by decide) (Or.inr ⟨1, D244_26, rfl⟩) ?_
  exact P244_27
theorem P244_0 : rSnd lab M244 0 B244_0 := by
  refine s_Ent ?_
  refine s_ic D244_0 kc_i_m1 (by decide) ?_
  refine s_Is sk1 (show 1 < 4 from by decide) (Or.inr ⟨1, D244_1, rfl⟩) ?_
  refine s_ic D244_2 kc_i_1 (by decide) ?_
  refine s_Is sk2 (show 2 < 4 from by decide) (Or.inr ⟨2, D244_3, rfl⟩) ?_
  refine s_ic D244_4 kc_i_0 (by decide) ?_
  refine s_Is sk3 (show 3 < 4 from by decide) (Or.inr ⟨3, D244_5, rfl⟩) ?_
  exact P244_6
theorem D245_0 : rDec M245 0 (.iconst 1) 1 1 := ⟨by decide +kernel, rfl⟩
theorem D245_1 : rDec M245 1 (.istore_n 2) 1 2 := ⟨by decide +kernel, rfl⟩
theorem D245_2 : rDec M245 2 (.iconst 1) 1 3 := ⟨by decide +kernel, rfl⟩
theorem D245_3 : rDec M245 3 (.istore_n 3) 1 4 := ⟨by decide +kernel, rfl⟩
theorem D245_4 : rDec M245 4 (.iload_n 3) 1 5 := ⟨by decide +kernel, rfl⟩
theorem D245_5 : rDec M245 5 (.aload_n 0) 1 6 := ⟨by decide +kernel, rfl⟩
theorem D245_6 : rDec M245 6 (.getfield 9) 3 9 := ⟨by decide +kernel, rfl⟩
theorem D245_9 : rDec M245 9 (.if_icmp .ge 43) 3 12 := ⟨by decide +kernel, rfl⟩
theorem D245_52 : rDec M245 52 (.iload_n 2) 1 53 := ⟨by decide +kernel, rfl⟩
theorem D245_53 : rDec M245 53 (.ireturn) 1 54 := ⟨by decide +kernel, rfl⟩
theorem P245_52 : rSnd lab M245 52 B245_52 := by
  refine s_Il gk2 (Or.inr ⟨2, D245_52, rfl⟩) ?_
  exact s_Ri (Or.inl rfl) D245_53.1
theorem P245_0 : rSnd lab M245 0 B245_0 := by
  refine s_Ent ?_
  refine s_ic D245_0 kc_i_1 (by decide) ?_
  refine s_Is sk2 (show 2 < 5 from by decide) (Or.inr ⟨2, D245_1, rfl⟩) ?_
  refine s_ic D245_2 kc_i_1 (by decide) ?_
  refine s_Is sk3 (show 3 < 5 from by decide) (Or.inr ⟨3, D245_3, rfl⟩) ?_
  refine s_Il gk3 (Or.inr ⟨3, D245_4, rfl⟩) ?_
  refine s_Al gk0 (Or.inr ⟨0, D245_5, rfl⟩) ?_
  refine s_Gf (ci := 3) (r := ("WordWright$Language", kT3, 3)) rfl (show 0 < 3 from by decide) rfl (Or.inl wd73) (Or.inl rfl) rfl D245_6 ?_
  refine s_Ic c_ge (i_ge (tg := 52) (by decide)) D245_9.1 P245_52 (?_ : rSnd _ _ 12 _)
  exact rSnd_none
theorem D246_0 : rDec M246 0 (.aload_n 0) 1 1 := ⟨by decide +kernel, rfl⟩
theorem D246_1 : rDec M246 1 (.getfield 9) 3 4 := ⟨by decide +kernel, rfl⟩
theorem D246_4 : rDec M246 4 (.aload_n 1) 1 5 := ⟨by decide +kernel, rfl⟩
theorem D246_5 : rDec M246 5 (.getfield 9) 3 8 := ⟨by decide +kernel, rfl⟩
theorem D246_8 : rDec M246 8 (.if_icmp .ne 14) 3 11 := ⟨by decide +kernel, rfl⟩
theorem D246_11 : rDec M246 11 (.aload_n 0) 1 12 := ⟨by decide +kernel, rfl⟩
theorem D246_12 : rDec M246 12 (.getfield 19) 3 15 := ⟨by decide +kernel, rfl⟩
theorem D246_15 : rDec M246 15 (.aload_n 1) 1 16 := ⟨by decide +kernel, rfl⟩
theorem D246_16 : rDec M246 16 (.getfield 19) 3 19 := ⟨by decide +kernel, rfl⟩
theorem D246_19 : rDec M246 19 (.if_icmp .eq 5) 3 22 := ⟨by decide +kernel, rfl⟩
theorem D246_22 : rDec M246 22 (.iconst 0) 1 23 := ⟨by decide +kernel, rfl⟩
theorem D246_23 : rDec M246 23 (.ireturn) 1 24 := ⟨by decide +kernel, rfl⟩
theorem D246_24 : rDec M246 24 (.iconst 0) 1 25 := ⟨by decide +kernel, rfl⟩
theorem D246_25 : rDec M246 25 (.istore_n 2) 1 26 := ⟨by decide +kernel, rfl⟩
theorem D246_26 : rDec M246 26 (.iload_n 2) 1 27 := ⟨by decide +kernel, rfl⟩
theorem D246_27 : rDec M246 27 (.aload_n 0) 1 28 := ⟨by decide +kernel, rfl⟩
theorem D246_28 : rDec M246 28 (.getfield 9) 3 31 := ⟨by decide +kernel, rfl⟩
theorem D246_31 : rDec M246 31 (.iconst 4) 1 32 := ⟨by decide +kernel, rfl⟩
theorem D246_32 : rDec M246 32 (.imul) 1 33 := ⟨by decide +kernel, rfl⟩
theorem D246_33 : rDec M246 33 (.if_icmp .ge 26) 3 36 := ⟨by decide +kernel, rfl⟩
theorem D246_36 : rDec M246 36 (.aload_n 0) 1 37 := ⟨by decide +kernel, rfl⟩
theorem D246_37 : rDec M246 37 (.getfield 15) 3 40 := ⟨by decide +kernel, rfl⟩
theorem D246_40 : rDec M246 40 (.iload_n 2) 1 41 := ⟨by decide +kernel, rfl⟩
theorem D246_41 : rDec M246 41 (.iaload) 1 42 := ⟨by decide +kernel, rfl⟩
theorem D246_42 : rDec M246 42 (.aload_n 1) 1 43 := ⟨by decide +kernel, rfl⟩
theorem D246_43 : rDec M246 43 (.getfield 15) 3 46 := ⟨by decide +kernel, rfl⟩
theorem D246_46 : rDec M246 46 (.iload_n 2) 1 47 := ⟨by decide +kernel, rfl⟩
theorem D246_47 : rDec M246 47 (.iaload) 1 48 := ⟨by decide +kernel, rfl⟩
theorem D246_48 : rDec M246 48 (.if_icmp .eq 5) 3 51 := ⟨by decide +kernel, rfl⟩
theorem D246_53 : rDec M246 53 (.iinc 2 1) 3 56 := ⟨by decide +kernel, rfl⟩
theorem D246_56 : rDec M246 56 (.goto (-30)) 3 59 := ⟨by decide +kernel, rfl⟩
theorem D246_59 : rDec M246 59 (.iconst 1) 1 60 := ⟨by decide +kernel, rfl⟩
theorem D246_60 : rDec M246 60 (.ireturn) 1 61 := ⟨by decide +kernel, rfl⟩
theorem P246_59 : rSnd lab M246 59 B246_59 := by
  refine s_ic D246_59 kc_i_1 (by decide) ?_
  exact s_Ri (Or.inr ⟨rfl, by decide⟩) D246_60.1
theorem P246_53 : rSnd lab M246 53 B246_53 := by
  refine s_Inc gk2 sk2 (show 2 < 3 from by decide) kc_i_1 D246_53 ?_
  exact s_Go (pc' := 26) D246_56.1 (by decide) (s_Jb rfl)
theorem P246_26 : rSnd lab M246 26 B246_26 := by
  refine s_Il gk2 (Or.inr ⟨2, D246_26, rfl⟩) ?_
  refine s_Al gk0 (Or.inr ⟨0, D246_27, rfl⟩) ?_
  refine s_Gf (ci := 3) (r := ("WordWright$Language", kT3, 3)) rfl (show 0 < 3 from by decide) rfl (Or.inl wd73) (Or.inl rfl) rfl D246_28 ?_
  refine s_ic D246_31 kc_i_4 (by decide) ?_
  refine s_Bin q_imul n_mul rG2_x rE2_x D246_32 ?_
  refine s_Ic c_ge (i_ge (tg := 59) (by decide)) D246_33.1 P246_59 (?_ : rSnd _ _ 36 _)
  refine s_Al gk0 (Or.inr ⟨0, D246_36, rfl⟩) ?_
  refine s_Gf (ci := 3) (r := ("WordWright$Language", kT3, 3)) rfl (show 2 < 3 from by decide) rfl (Or.inl wd81) (Or.inl rfl) rfl D246_37 ?_
  refine s_Il gk2 (Or.inr ⟨2, D246_40, rfl⟩) ?_
  refine s_Ial D246_41 ?_
  refine s_Al gk1 (Or.inr ⟨1, D246_42, rfl⟩) ?_
  refine s_Gf (ci := 3) (r := ("WordWright$Language", kT3, 3)) rfl (show 2 < 3 from by decide) rfl (Or.inl wd81) (Or.inl rfl) rfl D246_43 ?_
  refine s_Il gk2 (Or.inr ⟨2, D246_46, rfl⟩) ?_
  refine s_Ial D246_47 ?_
  refine s_Ic c_eq (i_eq (tg := 53) (by decide)) D246_48.1 P246_53 (?_ : rSnd _ _ 51 _)
  exact rSnd_none
theorem P246_24 : rSnd lab M246 24 B246_24 := by
  refine s_ic D246_24 kc_i_0 (by decide) ?_
  refine s_Is sk2 (show 2 < 3 from by decide) (Or.inr ⟨2, D246_25, rfl⟩) ?_
  exact P246_26
theorem P246_22 : rSnd lab M246 22 B246_22 := by
  refine s_ic D246_22 kc_i_0 (by decide) ?_
  exact s_Ri (Or.inr ⟨rfl, by decide⟩) D246_23.1
theorem P246_0 : rSnd lab M246 0 B246_0 := by
  refine s_Ent ?_
  refine s_Al gk0 (Or.inr ⟨0, D246_0, rfl⟩) ?_
  refine s_Gf (ci := 3) (r := ("WordWright$Language", kT3, 3)) rfl (show 0 < 3 from by decide) rfl (Or.inl wd73) (Or.inl rfl) rfl D246_1 ?_
  refine s_Al gk1 (Or.inr ⟨1, D246_4, rfl⟩) ?_
  refine s_Gf (ci := 3) (r := ("WordWright$Language", kT3, 3)) rfl (show 0 < 3 from by decide) rfl (Or.inl wd73) (Or.inl rfl) rfl D246_5 ?_
  refine s_Ic c_ne (i_ne (tg := 22) (by decide)) D246_8.1 P246_22 (?_ : rSnd _ _ 11 _)
  refine s_Al gk0 (Or.inr ⟨0, D246_11, rfl⟩) ?_
  refine s_Gf (ci := 3) (r := ("WordWright$Language", kT3, 3)) rfl (show 1 < 3 from by decide) rfl (Or.inl wd77) (Or.inl rfl) rfl D246_12 ?_
  refine s_Al gk1 (Or.inr ⟨1, D246_15, rfl⟩) ?_
  refine s_Gf (ci := 3) (r := ("WordWright$Language", kT3, 3)) rfl (show 1 < 3 from by decide) rfl (Or.inl wd77) (Or.inl rfl) rfl D246_16 ?_
  refine s_Ic c_eq (i_eq (tg := 24) (by decide)) D246_19.1 P246_24 (?_ : rSnd _ _ 22 _)
  exact P246_22
theorem D247_0 : rDec M247 0 (.aload_n 0) 1 1 := ⟨by decide +kernel, rfl⟩
theorem D247_1 : rDec M247 1 (.aload_n 1) 1 2 := ⟨by decide +kernel, rfl⟩
theorem D247_2 : rDec M247 2 (.getfield 9) 3 5 := ⟨by decide +kernel, rfl⟩
theorem D247_5 : rDec M247 5 (.putfield 9) 3 8 := ⟨by decide +kernel, rfl⟩
theorem D247_8 : rDec M247 8 (.aload_n 0) 1 9 := ⟨by decide +kernel, rfl⟩
theorem D247_9 : rDec M247 9 (.aload_n 1) 1 10 := ⟨by decide +kernel, rfl⟩
theorem D247_10 : rDec M247 10 (.getfield 19) 3 13 := ⟨by decide +kernel, rfl⟩
theorem D247_13 : rDec M247 13 (.putfield 19) 3 16 := ⟨by decide +kernel, rfl⟩
theorem D247_16 : rDec M247 16 (.aload_n 1) 1 17 := ⟨by decide +kernel, rfl⟩
theorem D247_17 : rDec M247 17 (.getfield 15) 3 20 := ⟨by decide +kernel, rfl⟩
theorem D247_20 : rDec M247 20 (.iconst 0) 1 21 := ⟨by decide +kernel, rfl⟩
theorem D247_21 : rDec M247 21 (.aload_n 0) 1 22 := ⟨by decide +kernel, rfl⟩
theorem D247_22 : rDec M247 22 (.getfield 15) 3 25 := ⟨by decide +kernel, rfl⟩
theorem D247_25 : rDec M247 25 (.iconst 0) 1 26 := ⟨by decide +kernel, rfl⟩
theorem D247_26 : rDec M247 26 (.aload_n 0) 1 27 := ⟨by decide +kernel, rfl⟩
theorem D247_27 : rDec M247 27 (.getfield 9) 3 30 := ⟨by decide +kernel, rfl⟩
theorem D247_30 : rDec M247 30 (.iconst 4) 1 31 := ⟨by decide +kernel, rfl⟩
theorem D247_31 : rDec M247 31 (.imul) 1 32 := ⟨by decide +kernel, rfl⟩
theorem D247_32 : rDec M247 32 (.invokestatic 22) 3 35 := ⟨by decide +kernel, rfl⟩
theorem D247_35 : rDec M247 35 (.return_) 1 36 := ⟨by decide +kernel, rfl⟩
theorem P247_0 : rSnd lab M247 0 B247_0 := by
  refine s_Ent ?_
  refine s_Al gk0 (Or.inr ⟨0, D247_0, rfl⟩) ?_
  refine s_Al gk1 (Or.inr ⟨1, D247_1, rfl⟩) ?_
  refine s_Gf (ci := 3) (r := ("WordWright$Language", kT3, 3)) rfl (show 0 < 3 from by decide) rfl (Or.inl wd73) (Or.inl rfl) rfl D247_2 ?_
  refine s_Pf (ci := 3) (r := ("WordWright$Language", kT3, 3)) rfl (show 0 < 3 from by decide) rfl (Or.inl ⟨rfl, Or.inl wd73⟩) (Or.inl rfl) rfl (by decide) D247_5 ?_
  refine s_Al gk0 (Or.inr ⟨0, D247_8, rfl⟩) ?_
  refine s_Al gk1 (Or.inr ⟨1, D247_9, rfl⟩) ?_
  refine s_Gf (ci := 3) (r := ("WordWright$Language", kT3, 3)) rfl (show 1 < 3 from by decide) rfl (Or.inl wd77) (Or.inl rfl) rfl D247_10 ?_
  refine s_Pf (ci := 3) (r := ("WordWright$Language", kT3, 3)) rfl (show 1 < 3 from by decide) rfl (Or.inl ⟨rfl, Or.inl wd77⟩) (Or.inl rfl) rfl (by decide) D247_13 ?_
  refine s_Al gk1 (Or.inr ⟨1, D247_16, rfl⟩) ?_
  refine s_Gf (ci := 3) (r := ("WordWright$Language", kT3, 3)) rfl (show 2 < 3 from by decide) rfl (Or.inl wd81) (Or.inl rfl) rfl D247_17 ?_
  refine s_ic D247_20 kc_i_0 (by decide) ?_
  refine s_Al gk0 (Or.inr ⟨0, D247_21, rfl⟩) ?_
  refine s_Gf (ci := 3) (r := ("WordWright$Language", kT3, 3)) rfl (show 2 < 3 from by decide) rfl (Or.inl wd81) (Or.inl rfl) rfl D247_22 ?_
  refine s_ic D247_25 kc_i_0 (by decide) ?_
  refine s_Al gk0 (Or.inr ⟨0, D247_26, rfl⟩) ?_
  refine s_Gf (ci := 3) (r := ("WordWright$Language", kT3, 3)) rfl (show 0 < 3 from by decide) rfl (Or.inl wd73) (Or.inl rfl) rfl D247_27 ?_
  refine s_ic D247_30 kc_i_4 (by decide) ?_
  refine s_Bin q_imul n_mul rG2_x rE2_x D247_31 ?_
  refine s_Cpy rfl wd626 wd584 wd583 wd17 D247_32 ?_
  exact s_Rv rfl D247_35.1
theorem D248_0 : rDec M248 0 (.iconst 0) 1 1 := ⟨by decide +kernel, rfl⟩
theorem D248_1 : rDec M248 1 (.istore_n 3) 1 2 := ⟨by decide +kernel, rfl⟩
theorem D248_2 : rDec M248 2 (.iconst 0) 1 3 := ⟨by decide +kernel, rfl⟩
theorem D248_3 : rDec M248 3 (.istore 4) 2 5 := ⟨by decide +kernel, rfl⟩
theorem D248_5 : rDec M248 5 (.iload 4) 2 7 := ⟨by decide +kernel, rfl⟩
theorem D248_7 : rDec M248 7 (.aload_n 0) 1 8 := ⟨by decide +kernel, rfl⟩
theorem D248_8 : rDec M248 8 (.getfield 9) 3 11 := ⟨by decide +kernel, rfl⟩
theorem D248_11 : rDec M248 11 (.if_icmp .ge 27) 3 14 := ⟨by decide +kernel, rfl⟩
theorem D248_14 : rDec M248 14 (.aload_n 2) 1 15 := ⟨by decide +kernel, rfl⟩
theorem D248_15 : rDec M248 15 (.iload 4) 2 17 := ⟨by decide +kernel, rfl⟩
theorem D248_17 : rDec M248 17 (.aload_n 0) 1 18 := ⟨by decide +kernel, rfl⟩
theorem D248_18 : rDec M248 18 (.iload 4) 2 20 := ⟨by decide +kernel, rfl⟩
theorem D248_20 : rDec M248 20 (.invokevirtual 45) 3 23 := ⟨by decide +kernel, rfl⟩
theorem D248_23 : rDec M248 23 (.ifCond .eq 7) 3 26 := ⟨by decide +kernel, rfl⟩
theorem D248_26 : rDec M248 26 (.iconst 1) 1 27 := ⟨by decide +kernel, rfl⟩
theorem D248_27 : rDec M248 27 (.goto 4) 3 30 := ⟨by decide +kernel, rfl⟩
theorem D248_30 : rDec M248 30 (.iconst 0) 1 31 := ⟨by decide +kernel, rfl⟩
theorem D248_31 : rDec M248 31 (.iastore) 1 32 := ⟨by decide +kernel, rfl⟩
theorem D248_32 : rDec M248 32 (.iinc 4 1) 3 35 := ⟨by decide +kernel, rfl⟩
theorem D248_35 : rDec M248 35 (.goto (-30)) 3 38 := ⟨by decide +kernel, rfl⟩
theorem D248_38 : rDec M248 38 (.iconst 0) 1 39 := ⟨by decide +kernel, rfl⟩
theorem D248_39 : rDec M248 39 (.istore 4) 2 41 := ⟨by decide +kernel, rfl⟩
theorem D248_41 : rDec M248 41 (.iload 4) 2 43 := ⟨by decide +kernel, rfl⟩
theorem D248_43 : rDec M248 43 (.iload_n 1) 1 44 := ⟨by decide +kernel, rfl⟩
theorem D248_44 : rDec M248 44 (.if_icmp .ge 80) 3 47 := ⟨by decide +kernel, rfl⟩
theorem D248_47 : rDec M248 47 (.bipush 10) 2 49 := ⟨by decide +kernel, rfl⟩
theorem D248_49 : rDec M248 49 (.iload_n 3) 1 50 := ⟨by decide +kernel, rfl⟩
theorem D248_50 : rDec M248 50 (.isub) 1 51 := ⟨by decide +kernel, rfl⟩
theorem D248_51 : rDec M248 51 (.istore 5) 2 53 := ⟨by decide +kernel, rfl⟩
theorem D248_53 : rDec M248 53 (.iconst 0) 1 54 := ⟨by decide +kernel, rfl⟩
theorem D248_54 : rDec M248 54 (.istore 6) 2 56 := ⟨by decide +kernel, rfl⟩
theorem D248_56 : rDec M248 56 (.iload 6) 2 58 := ⟨by decide +kernel, rfl⟩
theorem D248_58 : rDec M248 58 (.aload_n 0) 1 59 := ⟨by decide +kernel, rfl⟩
theorem D248_59 : rDec M248 59 (.getfield 9) 3 62 := ⟨by decide +kernel, rfl⟩
theorem D248_62 : rDec M248 62 (.if_icmp .ge 53) 3 65 := ⟨by decide +kernel, rfl⟩
theorem D248_65 : rDec M248 65 (.iconst 0) 1 66 := ⟨by decide +kernel, rfl⟩
theorem D248_66 : rDec M248 66 (.istore 7) 2 68 := ⟨by decide +kernel, rfl⟩
theorem D248_68 : rDec M248 68 (.iconst 0) 1 69 := ⟨by decide +kernel, rfl⟩
theorem D248_69 : rDec M248 69 (.istore 8) 2 71 := ⟨by decide +kernel, rfl⟩
theorem D248_71 : rDec M248 71 (.iload 8) 2 73 := ⟨by decide +kernel, rfl⟩
theorem D248_73 : rDec M248 73 (.iconst 4) 1 74 := ⟨by decide +kernel, rfl⟩
theorem D248_74 : rDec M248 74 (.if_icmp .ge 26) 3 77 := ⟨by decide +kernel, rfl⟩
theorem D248_77 : rDec M248 77 (.iload 7) 2 79 := ⟨by decide +kernel, rfl⟩
theorem D248_79 : rDec M248 79 (.aload_n 2) 1 80 := ⟨by decide +kernel, rfl⟩
theorem D248_80 : rDec M248 80 (.iload_n 3) 1 81 := ⟨by decide +kernel, rfl⟩
theorem D248_81 : rDec M248 81 (.aload_n 0) 1 82 := ⟨by decide +kernel, rfl⟩
theorem D248_82 : rDec M248 82 (.iload 6) 2 84 := ⟨by decide +kernel, rfl⟩
theorem D248_84 : rDec M248 84 (.iload 8) 2 86 := ⟨by decide +kernel, rfl⟩
theorem D248_86 : rDec M248 86 (.invokevirtual 41) 3 89 := ⟨by decide +kernel, rfl⟩
theorem D248_89 : rDec M248 89 (.iadd) 1 90 := ⟨by decide +kernel, rfl⟩
theorem D248_90 : rDec M248 90 (.iaload) 1 91 := ⟨by decide +kernel, rfl⟩
theorem D248_91 : rDec M248 91 (.iadd) 1 92 := ⟨by decide +kernel, rfl⟩
theorem D248_92 : rDec M248 92 (.istore 7) 2 94 := ⟨by decide +kernel, rfl⟩
theorem D248_94 : rDec M248 94 (.iinc 8 1) 3 97 := ⟨by decide +kernel, rfl⟩
theorem D248_97 : rDec M248 97 (.goto (-26)) 3 100 := ⟨by decide +kernel, rfl⟩
theorem D248_100 : rDec M248 100 (.aload_n 2) 1 101 := ⟨by decide +kernel, rfl⟩
theorem D248_101 : rDec M248 101 (.iload 5) 2 103 := ⟨by decide +kernel, rfl⟩
theorem D248_103 : rDec M248 103 (.iload 6) 2 105 := ⟨by decide +kernel, rfl⟩
theorem D248_105 : rDec M248 105 (.iadd) 1 106 := ⟨by decide +kernel, rfl⟩
theorem D248_106 : rDec M248 106 (.iload 7) 2 108 := ⟨by decide +kernel, rfl⟩
theorem D248_108 : rDec M248 108 (.iastore) 1 109 := ⟨by decide +kernel, rfl⟩
theorem D248_109 : rDec M248 109 (.iinc 6 1) 3 112 := ⟨by decide +kernel, rfl⟩
theorem D248_112 : rDec M248 112 (.goto (-56)) 3 115 := ⟨by decide +kernel, rfl⟩
theorem D248_115 : rDec M248 115 (.iload 5) 2 117 := ⟨by decide +kernel, rfl⟩
theorem D248_117 : rDec M248 117 (.istore_n 3) 1 118 := ⟨by decide +kernel, rfl⟩
theorem D248_118 : rDec M248 118 (.iinc 4 1) 3 121 := ⟨by decide +kernel, rfl⟩
theorem D248_121 : rDec M248 121 (.goto (-80)) 3 124 := ⟨by decide +kernel, rfl⟩
theorem D248_124 : rDec M248 124 (.aload_n 2) 1 125 := ⟨by decide +kernel, rfl⟩
theorem D248_125 : rDec M248 125 (.iload_n 3) 1 126 := ⟨by decide +kernel, rfl⟩
theorem D248_126 : rDec M248 126 (.iaload) 1 127 := ⟨by decide +kernel, rfl⟩
theorem D248_127 : rDec M248 127 (.ireturn) 1 128 := ⟨by decide +kernel, rfl⟩
theorem P248_124 : rSnd lab M248 124 B248_124 := by
  refine s_Al gk2 (Or.inr ⟨2, D248_124, rfl⟩) ?_
  refine s_Il gk3 (Or.inr ⟨3, D248_125, rfl⟩) ?_
  refine s_Ial D248_126 ?_
  exact s_Ri (Or.inl rfl) D248_127.1
theorem P248_115 : rSnd lab M248 115 B248_115 := by
  refine s_Il gk5 (Or.inl D248_115) ?_
  refine s_Is sk3 (show 3 < 9 from by decide) (Or.inr ⟨3, D248_117, rfl⟩) ?_
  refine s_Inc gk4 sk4 (show 4 < 9 from by decide) kc_i_1 D248_118 ?_
  exact s_Go (pc' := 41) D248_121.1 (by decide) (s_Jb rfl)
theorem P248_100 : rSnd lab M248 100 B248_100 := by
  refine s_Al gk2 (Or.inr ⟨2, D248_100, rfl⟩) ?_
  refine s_Il gk5 (Or.inl D248_101) ?_
  refine s_Il gk6 (Or.inl D248_103) ?_
  refine s_Bin q_iadd n_add rG2_x e_add D248_105 ?_
  refine s_Il gk7 (Or.inl D248_106) ?_
  refine s_Ast (t := 0) rfl q_iast rfl (by decide) D248_108 ?_
  refine s_Inc gk6 sk6 (show 6 < 9 from by decide) kc_i_1 D248_109 ?_
  exact s_Go (pc' := 56) D248_112.1 (by decide) (s_Jb rfl)
theorem P248_71 : rSnd lab M248 71 B248_71 := by
  refine s_Il gk8 (Or.inl D248_71) ?_
  refine s_ic D248_73 kc_i_4 (by decide) ?_
  refine s_Ic c_ge (i_ge (tg := 100) (by decide)) D248_74.1 P248_100 (?_ : rSnd _ _ 77 _)
  refine s_Il gk7 (Or.inl D248_77) ?_
  refine s_Al gk2 (Or.inr ⟨2, D248_79, rfl⟩) ?_
  refine s_Il gk3 (Or.inr ⟨3, D248_80, rfl⟩) ?_
  refine s_Al gk0 (Or.inr ⟨0, D248_81, rfl⟩) ?_
  refine s_Il gk6 (Or.inl D248_82) ?_
  refine s_Il gk8 (Or.inl D248_84) ?_
  refine s_Cv (ln := 3) (kd := 8) (C := "WordWright$Language") (by decide) (by decide +kernel) rfl (l_V rfl ok231 rfl wd504 wd505 wd506 D248_86.1) (?_ : rSnd _ _ 89 _)
  refine s_Bin q_iadd n_add rG2_x e_add D248_89 ?_
  refine s_Ial D248_90 ?_
  refine s_Bin q_iadd n_add rG2_x e_add D248_91 ?_
  refine s_Is sk7 (show 7 < 9 from by decide) (Or.inl D248_92) ?_
  refine s_Inc gk8 sk8 (show 8 < 9 from by decide) kc_i_1 D248_94 ?_
  exact s_Go (pc' := 71) D248_97.1 (by decide) (s_Jb rfl)
theorem P248_56 : rSnd lab M248 56 B248_56 := by
  refine s_Il gk6 (Or.inl D248_56) ?_
  refine s_Al gk0 (Or.inr ⟨0, D248_58, rfl⟩) ?_
  refine s_Gf (ci := 3) (r := ("WordWright$Language", kT3, 3)) rfl (show 0 < 3 from by decide) rfl (Or.inl wd73) (Or.inl rfl) rfl D248_59 ?_
  refine s_Ic c_ge (i_ge (tg := 115) (by decide)) D248_62.1 P248_115 (?_ : rSnd _ _ 65 _)
  refine s_ic D248_65 kc_i_0 (by decide) ?_
  refine s_Is sk7 (show 7 < 9 from by decide) (Or.inl D248_66) ?_
  refine s_ic D248_68 kc_i_0 (by decide) ?_
  refine s_Is sk8 (show 8 < 9 from by decide) (Or.inl D248_69) ?_
  exact P248_71
theorem P248_41 : rSnd lab M248 41 B248_41 := by
  refine s_Il gk4 (Or.inl D248_41) ?_
  refine s_Il gk1 (Or.inr ⟨1, D248_43, rfl⟩) ?_
  refine s_Ic c_ge (i_ge (tg := 124) (by decide)) D248_44.1 P248_124 (?_ : rSnd _ _ 47 _)
  refine s_bi D248_47 kc_b_10 (by decide) ?_
  refine s_Il gk3 (Or.inr ⟨3, D248_49, rfl⟩) ?_
  refine s_Bin q_isub n_sub rG2_x rE2_x D248_50 ?_
  refine s_Is sk5 (show 5 < 9 from by decide) (Or.inl D248_51) ?_
  refine s_ic D248_53 kc_i_0 (by decide) ?_
  refine s_Is sk6 (show 6 < 9 from by decide) (Or.inl D248_54) ?_
  exact P248_56
theorem P248_38 : rSnd lab M248 38 B248_38 := by
  refine s_ic D248_38 kc_i_0 (by decide) ?_
  refine s_Is sk4 (show 4 < 9 from by decide) (Or.inl D248_39) ?_
  exact P248_41
theorem P248_31 : rSnd lab M248 31 B248_31 := by
  refine s_Ast (t := 0) rfl q_iast rfl (by decide) D248_31 ?_
  refine s_Inc gk4 sk4 (show 4 < 9 from by decide) kc_i_1 D248_32 ?_
  exact s_Go (pc' := 5) D248_35.1 (by decide) (s_Jb rfl)
theorem P248_30 : rSnd lab M248 30 B248_30 := by
  refine s_ic D248_30 kc_i_0 (by decide) ?_
  exact P248_31
theorem P248_5 : rSnd lab M248 5 B248_5 := by
  refine s_Il gk4 (Or.inl D248_5) ?_
  refine s_Al gk0 (Or.inr ⟨0, D248_7, rfl⟩) ?_
  refine s_Gf (ci := 3) (r := ("WordWright$Language", kT3, 3)) rfl (show 0 < 3 from by decide) rfl (Or.inl wd73) (Or.inl rfl) rfl D248_8 ?_
  refine s_Ic c_ge (i_ge (tg := 38) (by decide)) D248_11.1 P248_38 (?_ : rSnd _ _ 14 _)
  refine s_Al gk2 (Or.inr ⟨2, D248_14, rfl⟩) ?_
  refine s_Il gk4 (Or.inl D248_15) ?_
  refine s_Al gk0 (Or.inr ⟨0, D248_17, rfl⟩) ?_
  refine s_Il gk4 (Or.inl D248_18) ?_
  refine s_Cv (ln := 3) (kd := 8) (C := "WordWright$Language") (by decide) (by decide +kernel) rfl (l_V rfl ok240 rfl wd508 wd509 wd510 D248_20.1) (?_ : rSnd _ _ 23 _)
  refine s_If c_eq (fun _ => rfl) (fun _ _ => rfl) (b_eq (tg := 30) (by decide)) D248_23.1 P248_30 (?_ : rSnd _ _ 26 _)
  refine s_ic D248_26 kc_i_1 (by decide) ?_
  exact s_Go (pc' := 31) D248_27.1 (by decide) P248_31
theorem P248_0 : rSnd lab M248 0 B248_0 := by
  refine s_Ent ?_
  refine s_ic D248_0 kc_i_0 (by decide) ?_
  refine s_Is sk3 (show 3 < 9 from by decide) (Or.inr ⟨3, D248_1, rfl⟩) ?_
  refine s_ic D248_2 kc_i_0 (by decide) ?_
  refine s_Is sk4 (show 4 < 9 from by decide) (Or.inl D248_3) ?_
  exact P248_5
theorem D249_0 : rDec M249 0 (.aload_n 0) 1 1 := ⟨by decide +kernel, rfl⟩
theorem D249_1 : rDec M249 1 (.getfield 9) 3 4 := ⟨by decide +kernel, rfl⟩
theorem D249_4 : rDec M249 4 (.aload_n 0) 1 5 := ⟨by decide +kernel, rfl⟩
theorem D249_5 : rDec M249 5 (.getfield 24) 3 8 := ⟨by decide +kernel, rfl⟩
theorem D249_8 : rDec M249 8 (.iload_n 1) 1 9 := ⟨by decide +kernel, rfl⟩
theorem D249_9 : rDec M249 9 (.iastore) 1 10 := ⟨by decide +kernel, rfl⟩
theorem D249_10 : rDec M249 10 (.aload_n 0) 1 11 := ⟨by decide +kernel, rfl⟩
theorem D249_11 : rDec M249 11 (.getfield 15) 3 14 := ⟨by decide +kernel, rfl⟩
theorem D249_14 : rDec M249 14 (.aload_n 0) 1 15 := ⟨by decide +kernel, rfl⟩
theorem D249_15 : rDec M249 15 (.getfield 24) 3 18 := ⟨by decide +kernel, rfl⟩
theorem D249_18 : rDec M249 18 (.iload_n 2) 1 19 := ⟨by decide +kernel, rfl⟩
theorem D249_19 : rDec M249 19 (.iastore) 1 20 := ⟨by decide +kernel, rfl⟩
theorem D249_20 : rDec M249 20 (.aload_n 0) 1 21 := ⟨by decide +kernel, rfl⟩
theorem D249_21 : rDec M249 21 (.getfield 18) 3 24 := ⟨by decide +kernel, rfl⟩
theorem D249_24 : rDec M249 24 (.aload_n 0) 1 25 := ⟨by decide +kernel, rfl⟩
theorem D249_25 : rDec M249 25 (.getfield 24) 3 28 := ⟨by decide +kernel, rfl⟩
theorem D249_28 : rDec M249 28 (.iload_n 3) 1 29 := ⟨by decide +kernel, rfl⟩
theorem D249_29 : rDec M249 29 (.iastore) 1 30 := ⟨by decide +kernel, rfl⟩
theorem D249_30 : rDec M249 30 (.aload_n 0) 1 31 := ⟨by decide +kernel, rfl⟩
theorem D249_31 : rDec M249 31 (.getfield 21) 3 34 := ⟨by decide +kernel, rfl⟩
theorem D249_34 : rDec M249 34 (.aload_n 0) 1 35 := ⟨by decide +kernel, rfl⟩
theorem D249_35 : rDec M249 35 (.getfield 24) 3 38 := ⟨by decide +kernel, rfl⟩
theorem D249_38 : rDec M249 38 (.iload 4) 2 40 := ⟨by decide +kernel, rfl⟩
theorem D249_40 : rDec M249 40 (.iastore) 1 41 := ⟨by decide +kernel, rfl⟩
theorem D249_41 : rDec M249 41 (.aload_n 0) 1 42 := ⟨by decide +kernel, rfl⟩
theorem D249_42 : rDec M249 42 (.dup) 1 43 := ⟨by decide +kernel, rfl⟩
theorem D249_43 : rDec M249 43 (.getfield 24) 3 46 := ⟨by decide +kernel, rfl⟩
theorem D249_46 : rDec M249 46 (.iconst 1) 1 47 := ⟨by decide +kernel, rfl⟩
theorem D249_47 : rDec M249 47 (.iadd) 1 48 := ⟨by decide +kernel, rfl⟩
theorem D249_48 : rDec M249 48 (.putfield 24) 3 51 := ⟨by decide +kernel, rfl⟩
theorem D249_51 : rDec M249 51 (.return_) 1 52 := ⟨by decide +kernel, rfl⟩
theorem P249_0 : rSnd lab M249 0 B249_0 := by
  refine s_Ent ?_
  refine s_Al gk0 (Or.inr ⟨0, D249_0, rfl⟩) ?_
  refine s_Gf (ci := 4) (r := ("WordWright$Machine", kT4, 6)) rfl (show 2 < 6 from by decide) rfl (Or.inl wd173) (Or.inl rfl) rfl D249_1 ?_
  refine s_Al gk0 (Or.inr ⟨0, D249_4, rfl⟩) ?_
  refine s_Gf (ci := 4) (r := ("WordWright$Machine", kT4, 6)) rfl (show 0 < 6 from by decide) rfl (Or.inl wd164) (Or.inl rfl) rfl D249_5 ?_
  refine s_Il gk1 (Or.inr ⟨1, D249_8, rfl⟩) ?_
  refine s_Ast (t := 0) rfl q_iast rfl (by decide) D249_9 ?_
  refine s_Al gk0 (Or.inr ⟨0, D249_10, rfl⟩) ?_
  refine s_Gf (ci := 4) (r := ("WordWright$Machine", kT4, 6)) rfl (show 3 < 6 from by decide) rfl (Or.inl wd177) (Or.inl rfl) rfl D249_11 ?_
  refine s_Al gk0 (Or.inr ⟨0, D249_14, rfl⟩) ?_
  refine s_Gf (ci := 4) (r := ("WordWright$Machine", kT4, 6)) rfl (show 0 < 6 from by decide) rfl (Or.inl wd164) (Or.inl rfl) rfl D249_15 ?_
  refine s_Il gk2 (Or.inr ⟨2, D249_18, rfl⟩) ?_
  refine s_Ast (t := 0) rfl q_iast rfl (by decide) D249_19 ?_
  refine s_Al gk0 (Or.inr ⟨0, D249_20, rfl⟩) ?_
  refine s_Gf (ci := 4) (r := ("WordWright$Machine", kT4, 6)) rfl (show 4 < 6 from by decide) rfl (Or.inl wd181) (Or.inl rfl) rfl D249_21 ?_
  refine s_Al gk0 (Or.inr ⟨0, D249_24, rfl⟩) ?_
  refine s_Gf (ci := 4) (r := ("WordWright$Machine", kT4, 6)) rfl (show 0 < 6 from by decide) rfl (Or.inl wd164) (Or.inl rfl) rfl D249_25 ?_
  refine s_Il gk3 (Or.inr ⟨3, D249_28, rfl⟩) ?_
  refine s_Ast (t := 0) rfl q_iast rfl (by decide) D249_29 ?_
  refine s_Al gk0 (Or.inr ⟨0, D249_30, rfl⟩) ?_
  refine s_Gf (ci := 4) (r := ("WordWright$Machine", kT4, 6)) rfl (show 5 < 6 from by decide) rfl (Or.inl wd185) (Or.inl rfl) rfl D249_31 ?_
  refine s_Al gk0 (Or.inr ⟨0, D249_34, rfl⟩) ?_
  refine s_Gf (ci := 4) (r := ("WordWright$Machine", kT4, 6)) rfl (show 0 < 6 from by decide) rfl (Or.inl wd164) (Or.inl rfl) rfl D249_35 ?_
  refine s_Il gk4 (Or.inl D249_38) ?_
  refine s_Ast (t := 0) rfl q_iast rfl (by decide) D249_40 ?_
  refine s_Al gk0 (Or.inr ⟨0, D249_41, rfl⟩) ?_
  refine s_Dup D249_42 ?_
  refine s_Gf (ci := 4) (r := ("WordWright$Machine", kT4, 6)) rfl (show 0 < 6 from by decide) rfl (Or.inl wd164) (Or.inl rfl) rfl D249_43 ?_
  refine s_ic D249_46 kc_i_1 (by decide) ?_
  refine s_Bin q_iadd n_add rG2_x e_add D249_47 ?_
  refine s_Pf (ci := 4) (r := ("WordWright$Machine", kT4, 6)) rfl (show 0 < 6 from by decide) rfl (Or.inl ⟨rfl, Or.inl wd164⟩) (Or.inl rfl) rfl (by decide) D249_48 ?_
  exact s_Rv rfl D249_51.1
theorem D250_0 : rDec M250 0 (.aload_n 0) 1 1 := ⟨by decide +kernel, rfl⟩
theorem D250_1 : rDec M250 1 (.iconst 0) 1 2 := ⟨by decide +kernel, rfl⟩
theorem D250_2 : rDec M250 2 (.putfield 24) 3 5 := ⟨by decide +kernel, rfl⟩
theorem D250_5 : rDec M250 5 (.aload_n 0) 1 6 := ⟨by decide +kernel, rfl⟩
theorem D250_6 : rDec M250 6 (.iconst 1) 1 7 := ⟨by decide +kernel, rfl⟩
theorem D250_7 : rDec M250 7 (.putfield 28) 3 10 := ⟨by decide +kernel, rfl⟩
theorem D250_10 : rDec M250 10 (.iconst 0) 1 11 := ⟨by decide +kernel, rfl⟩
theorem D250_11 : rDec M250 11 (.istore_n 2) 1 12 := ⟨by decide +kernel, rfl⟩
theorem D250_12 : rDec M250 12 (.iload_n 2) 1 13 := ⟨by decide +kernel, rfl⟩
theorem D250_13 : rDec M250 13 (.iconst 4) 1 14 := ⟨by decide +kernel, rfl⟩
theorem D250_14 : rDec M250 14 (.if_icmp .ge 25) 3 17 := ⟨by decide +kernel, rfl⟩
theorem D250_17 : rDec M250 17 (.iload_n 1) 1 18 := ⟨by decide +kernel, rfl⟩
theorem D250_18 : rDec M250 18 (.iload_n 2) 1 19 := ⟨by decide +kernel, rfl⟩
theorem D250_19 : rDec M250 19 (.ishr) 1 20 := ⟨by decide +kernel, rfl⟩
theorem D250_20 : rDec M250 20 (.iconst 1) 1 21 := ⟨by decide +kernel, rfl⟩
theorem D250_21 : rDec M250 21 (.iand) 1 22 := ⟨by decide +kernel, rfl⟩
theorem D250_22 : rDec M250 22 (.ifCond .eq 11) 3 25 := ⟨by decide +kernel, rfl⟩
theorem D250_25 : rDec M250 25 (.aload_n 0) 1 26 := ⟨by decide +kernel, rfl⟩
theorem D250_26 : rDec M250 26 (.iconst 0) 1 27 := ⟨by decide +kernel, rfl⟩
theorem D250_27 : rDec M250 27 (.iload_n 2) 1 28 := ⟨by decide +kernel, rfl⟩
theorem D250_28 : rDec M250 28 (.iconst 0) 1 29 := ⟨by decide +kernel, rfl⟩
theorem D250_29 : rDec M250 29 (.iload_n 2) 1 30 := ⟨by decide +kernel, rfl⟩
theorem D250_30 : rDec M250 30 (.invokevirtual 31) 3 33 := ⟨by decide +kernel, rfl⟩
theorem D250_33 : rDec M250 33 (.iinc 2 1) 3 36 := ⟨by decide +kernel, rfl⟩
theorem D250_36 : rDec M250 36 (.goto (-24)) 3 39 := ⟨by decide +kernel, rfl⟩
theorem D250_39 : rDec M250 39 (.return_) 1 40 := ⟨by decide +kernel, rfl⟩
theorem P250_39 : rSnd lab M250 39 B250_39 := by
  exact s_Rv rfl D250_39.1
theorem P250_33 : rSnd lab M250 33 B250_33 := by
  refine s_Inc gk2 sk2 (show 2 < 3 from by decide) kc_i_1 D250_33 ?_
  exact s_Go (pc' := 12) D250_36.1 (by decide) (s_Jb rfl)
theorem P250_12 : rSnd lab M250 12 B250_12 := by
  refine s_Il gk2 (Or.inr ⟨2, D250_12, rfl⟩) ?_
  refine s_ic D250_13 kc_i_4 (by decide) ?_
  refine s_Ic c_ge (i_ge (tg := 39) (by decide)) D250_14.1 P250_39 (?_ : rSnd _ _ 17 _)
  refine s_Il gk1 (Or.inr ⟨1, D250_17, rfl⟩) ?_
  refine s_Il gk2 (Or.inr ⟨2, D250_18, rfl⟩) ?_
  refine s_Bin q_ishr n_shr g_shr rE2_x D250_19 ?_
  refine s_ic D250_20 kc_i_1 (by decide) ?_
  refine s_Bin q_iand n_and g_and rE2_x D250_21 ?_
  refine s_If c_eq (fun _ => rfl) (fun _ _ => rfl) (b_eq (tg := 33) (by decide)) D250_22.1 P250_33 (?_ : rSnd _ _ 25 _)
  refine s_Al gk0 (Or.inr ⟨0, D250_25, rfl⟩) ?_
  refine s_ic D250_26 kc_i_0 (by decide) ?_
  refine s_Il gk2 (Or.inr ⟨2, D250_27, rfl⟩) ?_
  refine s_ic D250_28 kc_i_0 (by decide) ?_
  refine s_Il gk2 (Or.inr ⟨2, D250_29, rfl⟩) ?_
  refine s_Cv (ln := 3) (kd := 10) (C := "WordWright$Machine") (by decide) (by decide +kernel) rfl (l_V rfl ok249 rfl wd208 wd209 wd210 D250_30.1) (?_ : rSnd _ _ 33 _)
  exact P250_33
theorem P250_0 : rSnd lab M250 0 B250_0 := by
  refine s_Ent ?_
  refine s_Al gk0 (Or.inr ⟨0, D250_0, rfl⟩) ?_
  refine s_ic D250_1 kc_i_0 (by decide) ?_
  refine s_Pf (ci := 4) (r := ("WordWright$Machine", kT4, 6)) rfl (show 0 < 6 from by decide) rfl (Or.inl ⟨rfl, Or.inl wd164⟩) (Or.inl rfl) rfl (by decide) D250_2 ?_
  refine s_Al gk0 (Or.inr ⟨0, D250_5, rfl⟩) ?_
  refine s_ic D250_6 kc_i_1 (by decide) ?_
  refine s_Pf (ci := 4) (r := ("WordWright$Machine", kT4, 6)) rfl (show 1 < 6 from by decide) rfl (Or.inl ⟨rfl, Or.inl wd170⟩) (Or.inl rfl) rfl (by decide) D250_7 ?_
  refine s_ic D250_10 kc_i_0 (by decide) ?_
  refine s_Is sk2 (show 2 < 3 from by decide) (Or.inr ⟨2, D250_11, rfl⟩) ?_
  exact P250_12
theorem D251_0 : rDec M251 0 (.aload_n 0) 1 1 := ⟨by decide +kernel, rfl⟩
theorem D251_1 : rDec M251 1 (.invokespecial 3) 3 4 := ⟨by decide +kernel, rfl⟩
theorem D251_4 : rDec M251 4 (.aload_n 0) 1 5 := ⟨by decide +kernel, rfl⟩
theorem D251_5 : rDec M251 5 (.bipush 10) 2 7 := ⟨by decide +kernel, rfl⟩
theorem D251_7 : rDec M251 7 (.newarray .int) 2 9 := ⟨by decide +kernel, rfl⟩
theorem D251_9 : rDec M251 9 (.putfield 9) 3 12 := ⟨by decide +kernel, rfl⟩
theorem D251_12 : rDec M251 12 (.aload_n 0) 1 13 := ⟨by decide +kernel, rfl⟩
theorem D251_13 : rDec M251 13 (.bipush 10) 2 15 := ⟨by decide +kernel, rfl⟩
theorem D251_15 : rDec M251 15 (.newarray .int) 2 17 := ⟨by decide +kernel, rfl⟩
theorem D251_17 : rDec M251 17 (.putfield 15) 3 20 := ⟨by decide +kernel, rfl⟩
theorem D251_20 : rDec M251 20 (.aload_n 0) 1 21 := ⟨by decide +kernel, rfl⟩
theorem D251_21 : rDec M251 21 (.bipush 10) 2 23 := ⟨by decide +kernel, rfl⟩
theorem D251_23 : rDec M251 23 (.newarray .int) 2 25 := ⟨by decide +kernel, rfl⟩
theorem D251_25 : rDec M251 25 (.putfield 18) 3 28 := ⟨by decide +kernel, rfl⟩
theorem D251_28 : rDec M251 28 (.aload_n 0) 1 29 := ⟨by decide +kernel, rfl⟩
theorem D251_29 : rDec M251 29 (.bipush 10) 2 31 := ⟨by decide +kernel, rfl⟩
theorem D251_31 : rDec M251 31 (.newarray .int) 2 33 := ⟨by decide +kernel, rfl⟩
theorem D251_33 : rDec M251 33 (.putfield 21) 3 36 := ⟨by decide +kernel, rfl⟩
theorem D251_36 : rDec M251 36 (.return_) 1 37 := ⟨by decide +kernel, rfl⟩
theorem P251_0 : rSnd lab M251 0 B251_0 := by
  refine s_Ent ?_
  refine s_Al gk0 (Or.inr ⟨0, D251_0, rfl⟩) ?_
  refine s_Oi rfl wd163 wd62 wd63 D251_1 ?_
  refine s_Al gk0 (Or.inr ⟨0, D251_4, rfl⟩) ?_
  refine s_bi D251_5 kc_b_10 (by decide) ?_
  refine s_Nwa (t := 0) rfl (q_newa (at_ := .int) (Or.inl rfl)) (fun ht _ => ht _ wd91) D251_7 ?_
  refine s_Pf (ci := 4) (r := ("WordWright$Machine", kT4, 6)) rfl (show 2 < 6 from by decide) rfl (Or.inr ⟨rfl, wd173, rfl, rfl⟩) (Or.inl rfl) rfl (by decide) D251_9 ?_
  refine s_Al gk0 (Or.inr ⟨0, D251_12, rfl⟩) ?_
  refine s_bi D251_13 kc_b_10 (by decide) ?_
  refine s_Nwa (t := 0) rfl (q_newa (at_ := .int) (Or.inl rfl)) (fun ht _ => ht _ wd91) D251_15 ?_
  refine s_Pf (ci := 4) (r := ("WordWright$Machine", kT4, 6)) rfl (show 3 < 6 from by decide) rfl (Or.inr ⟨rfl, wd177, rfl, rfl⟩) (Or.inl rfl) rfl (by decide) D251_17 ?_
  refine s_Al gk0 (Or.inr ⟨0, D251_20, rfl⟩) ?_
  refine s_bi D251_21 kc_b_10 (by decide) ?_
  refine s_Nwa (t := 0) rfl (q_newa (at_ := .int) (Or.inl rfl)) (fun ht _ => ht _ wd91) D251_23 ?_
  refine s_Pf (ci := 4) (r := ("WordWright$Machine", kT4, 6)) rfl (show 4 < 6 from by decide) rfl (Or.inr ⟨rfl, wd181, rfl, rfl⟩) (Or.inl rfl) rfl (by decide) D251_25 ?_
  refine s_Al gk0 (Or.inr ⟨0, D251_28, rfl⟩) ?_
  refine s_bi D251_29 kc_b_10 (by decide) ?_
  refine s_Nwa (t := 0) rfl (q_newa (at_ := .int) (Or.inl rfl)) (fun ht _ => ht _ wd91) D251_31 ?_
  refine s_Pf (ci := 4) (r := ("WordWright$Machine", kT4, 6)) rfl (show 5 < 6 from by decide) rfl (Or.inr ⟨rfl, wd185, rfl, rfl⟩) (Or.inl rfl) rfl (by decide) D251_33 ?_
  exact s_Rv rfl D251_36.1
