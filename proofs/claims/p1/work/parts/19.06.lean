-- ===== rows and blocks, 6 =====
theorem D153_0 : rDec M153 0 (.iload_n 1) 1 1 := ⟨by decide +kernel, rfl⟩
theorem D153_1 : rDec M153 1 (.iconst 4) 1 2 := ⟨by decide +kernel, rfl⟩
theorem D153_2 : rDec M153 2 (.if_icmp .ne 80) 3 5 := ⟨by decide +kernel, rfl⟩
theorem D153_5 : rDec M153 5 (.iconst 0) 1 6 := ⟨by decide +kernel, rfl⟩
theorem D153_6 : rDec M153 6 (.istore 6) 2 8 := ⟨by decide +kernel, rfl⟩
theorem D153_8 : rDec M153 8 (.iconst 0) 1 9 := ⟨by decide +kernel, rfl⟩
theorem D153_9 : rDec M153 9 (.istore 7) 2 11 := ⟨by decide +kernel, rfl⟩
theorem D153_11 : rDec M153 11 (.iload 7) 2 13 := ⟨by decide +kernel, rfl⟩
theorem D153_13 : rDec M153 13 (.iconst 4) 1 14 := ⟨by decide +kernel, rfl⟩
theorem D153_14 : rDec M153 14 (.if_icmp .ge 34) 3 17 := ⟨by decide +kernel, rfl⟩
theorem D153_17 : rDec M153 17 (.iload 6) 2 19 := ⟨by decide +kernel, rfl⟩
theorem D153_19 : rDec M153 19 (.aload_n 3) 1 20 := ⟨by decide +kernel, rfl⟩
theorem D153_20 : rDec M153 20 (.iload 7) 2 22 := ⟨by decide +kernel, rfl⟩
theorem D153_22 : rDec M153 22 (.iaload) 1 23 := ⟨by decide +kernel, rfl⟩
theorem D153_23 : rDec M153 23 (.iload_n 2) 1 24 := ⟨by decide +kernel, rfl⟩
theorem D153_24 : rDec M153 24 (.if_icmp .ne 14) 3 27 := ⟨by decide +kernel, rfl⟩
theorem D153_27 : rDec M153 27 (.aload 4) 2 29 := ⟨by decide +kernel, rfl⟩
theorem D153_29 : rDec M153 29 (.iload 7) 2 31 := ⟨by decide +kernel, rfl⟩
theorem D153_31 : rDec M153 31 (.iaload) 1 32 := ⟨by decide +kernel, rfl⟩
theorem D153_32 : rDec M153 32 (.invokestatic 40) 3 35 := ⟨by decide +kernel, rfl⟩
theorem D153_35 : rDec M153 35 (.goto 4) 3 38 := ⟨by decide +kernel, rfl⟩
theorem D153_38 : rDec M153 38 (.iconst 0) 1 39 := ⟨by decide +kernel, rfl⟩
theorem D153_39 : rDec M153 39 (.iadd) 1 40 := ⟨by decide +kernel, rfl⟩
theorem D153_40 : rDec M153 40 (.istore 6) 2 42 := ⟨by decide +kernel, rfl⟩
theorem D153_42 : rDec M153 42 (.iinc 7 1) 3 45 := ⟨by decide +kernel, rfl⟩
theorem D153_45 : rDec M153 45 (.goto (-34)) 3 48 := ⟨by decide +kernel, rfl⟩
theorem D153_48 : rDec M153 48 (.iload 6) 2 50 := ⟨by decide +kernel, rfl⟩
theorem D153_50 : rDec M153 50 (.aload 5) 2 52 := ⟨by decide +kernel, rfl⟩
theorem D153_52 : rDec M153 52 (.iconst 1) 1 53 := ⟨by decide +kernel, rfl⟩
theorem D153_53 : rDec M153 53 (.iaload) 1 54 := ⟨by decide +kernel, rfl⟩
theorem D153_54 : rDec M153 54 (.if_icmp .ge 19) 3 57 := ⟨by decide +kernel, rfl⟩
theorem D153_57 : rDec M153 57 (.aload 5) 2 59 := ⟨by decide +kernel, rfl⟩
theorem D153_59 : rDec M153 59 (.iconst 1) 1 60 := ⟨by decide +kernel, rfl⟩
theorem D153_60 : rDec M153 60 (.iload 6) 2 62 := ⟨by decide +kernel, rfl⟩
theorem D153_62 : rDec M153 62 (.iastore) 1 63 := ⟨by decide +kernel, rfl⟩
theorem D153_63 : rDec M153 63 (.aload 4) 2 65 := ⟨by decide +kernel, rfl⟩
theorem D153_65 : rDec M153 65 (.iconst 0) 1 66 := ⟨by decide +kernel, rfl⟩
theorem D153_66 : rDec M153 66 (.aload 5) 2 68 := ⟨by decide +kernel, rfl⟩
theorem D153_68 : rDec M153 68 (.iconst 2) 1 69 := ⟨by decide +kernel, rfl⟩
theorem D153_69 : rDec M153 69 (.iconst 4) 1 70 := ⟨by decide +kernel, rfl⟩
theorem D153_70 : rDec M153 70 (.invokestatic 47) 3 73 := ⟨by decide +kernel, rfl⟩
theorem D153_73 : rDec M153 73 (.aload 5) 2 75 := ⟨by decide +kernel, rfl⟩
theorem D153_75 : rDec M153 75 (.iconst 0) 1 76 := ⟨by decide +kernel, rfl⟩
theorem D153_76 : rDec M153 76 (.dup2) 1 77 := ⟨by decide +kernel, rfl⟩
theorem D153_77 : rDec M153 77 (.iaload) 1 78 := ⟨by decide +kernel, rfl⟩
theorem D153_78 : rDec M153 78 (.iconst 1) 1 79 := ⟨by decide +kernel, rfl⟩
theorem D153_79 : rDec M153 79 (.iadd) 1 80 := ⟨by decide +kernel, rfl⟩
theorem D153_80 : rDec M153 80 (.iastore) 1 81 := ⟨by decide +kernel, rfl⟩
theorem D153_81 : rDec M153 81 (.return_) 1 82 := ⟨by decide +kernel, rfl⟩
theorem D153_82 : rDec M153 82 (.aload_n 3) 1 83 := ⟨by decide +kernel, rfl⟩
theorem D153_83 : rDec M153 83 (.iload_n 1) 1 84 := ⟨by decide +kernel, rfl⟩
theorem D153_84 : rDec M153 84 (.iaload) 1 85 := ⟨by decide +kernel, rfl⟩
theorem D153_85 : rDec M153 85 (.iload_n 2) 1 86 := ⟨by decide +kernel, rfl⟩
theorem D153_86 : rDec M153 86 (.if_icmp .eq 17) 3 89 := ⟨by decide +kernel, rfl⟩
theorem D153_89 : rDec M153 89 (.aload_n 0) 1 90 := ⟨by decide +kernel, rfl⟩
theorem D153_90 : rDec M153 90 (.iload_n 1) 1 91 := ⟨by decide +kernel, rfl⟩
theorem D153_91 : rDec M153 91 (.iconst 1) 1 92 := ⟨by decide +kernel, rfl⟩
theorem D153_92 : rDec M153 92 (.iadd) 1 93 := ⟨by decide +kernel, rfl⟩
theorem D153_93 : rDec M153 93 (.iload_n 2) 1 94 := ⟨by decide +kernel, rfl⟩
theorem D153_94 : rDec M153 94 (.aload_n 3) 1 95 := ⟨by decide +kernel, rfl⟩
theorem D153_95 : rDec M153 95 (.aload 4) 2 97 := ⟨by decide +kernel, rfl⟩
theorem D153_97 : rDec M153 97 (.aload 5) 2 99 := ⟨by decide +kernel, rfl⟩
theorem D153_99 : rDec M153 99 (.invokevirtual 81) 3 102 := ⟨by decide +kernel, rfl⟩
theorem D153_102 : rDec M153 102 (.return_) 1 103 := ⟨by decide +kernel, rfl⟩
theorem D153_103 : rDec M153 103 (.aload_n 0) 1 104 := ⟨by decide +kernel, rfl⟩
theorem D153_104 : rDec M153 104 (.getfield 29) 3 107 := ⟨by decide +kernel, rfl⟩
theorem D153_107 : rDec M153 107 (.iload_n 1) 1 108 := ⟨by decide +kernel, rfl⟩
theorem D153_108 : rDec M153 108 (.aaload) 1 109 := ⟨by decide +kernel, rfl⟩
theorem D153_109 : rDec M153 109 (.astore 6) 2 111 := ⟨by decide +kernel, rfl⟩
theorem D153_111 : rDec M153 111 (.aload 6) 2 113 := ⟨by decide +kernel, rfl⟩
theorem D153_113 : rDec M153 113 (.arraylength) 1 114 := ⟨by decide +kernel, rfl⟩
theorem D153_114 : rDec M153 114 (.istore 7) 2 116 := ⟨by decide +kernel, rfl⟩
theorem D153_116 : rDec M153 116 (.iconst 0) 1 117 := ⟨by decide +kernel, rfl⟩
theorem D153_117 : rDec M153 117 (.istore 8) 2 119 := ⟨by decide +kernel, rfl⟩
theorem D153_119 : rDec M153 119 (.iload 8) 2 121 := ⟨by decide +kernel, rfl⟩
theorem D153_121 : rDec M153 121 (.iload 7) 2 123 := ⟨by decide +kernel, rfl⟩
theorem D153_123 : rDec M153 123 (.if_icmp .ge 100) 3 126 := ⟨by decide +kernel, rfl⟩
theorem D153_126 : rDec M153 126 (.aload 6) 2 128 := ⟨by decide +kernel, rfl⟩
theorem D153_128 : rDec M153 128 (.iload 8) 2 130 := ⟨by decide +kernel, rfl⟩
theorem D153_130 : rDec M153 130 (.iaload) 1 131 := ⟨by decide +kernel, rfl⟩
theorem D153_131 : rDec M153 131 (.istore 9) 2 133 := ⟨by decide +kernel, rfl⟩
theorem D153_133 : rDec M153 133 (.aload 4) 2 135 := ⟨by decide +kernel, rfl⟩
theorem D153_135 : rDec M153 135 (.iload_n 1) 1 136 := ⟨by decide +kernel, rfl⟩
theorem D153_136 : rDec M153 136 (.iload 9) 2 138 := ⟨by decide +kernel, rfl⟩
theorem D153_138 : rDec M153 138 (.iastore) 1 139 := ⟨by decide +kernel, rfl⟩
theorem D153_139 : rDec M153 139 (.iconst 1) 1 140 := ⟨by decide +kernel, rfl⟩
theorem D153_140 : rDec M153 140 (.istore 10) 2 142 := ⟨by decide +kernel, rfl⟩
theorem D153_142 : rDec M153 142 (.iconst 0) 1 143 := ⟨by decide +kernel, rfl⟩
theorem D153_143 : rDec M153 143 (.istore 11) 2 145 := ⟨by decide +kernel, rfl⟩
theorem D153_145 : rDec M153 145 (.iload 11) 2 147 := ⟨by decide +kernel, rfl⟩
theorem D153_147 : rDec M153 147 (.aload_n 0) 1 148 := ⟨by decide +kernel, rfl⟩
theorem D153_148 : rDec M153 148 (.getfield 12) 3 151 := ⟨by decide +kernel, rfl⟩
theorem D153_151 : rDec M153 151 (.invokeinterface 61 1) 5 156 := ⟨by decide +kernel, rfl⟩
theorem D153_156 : rDec M153 156 (.if_icmp .ge 43) 3 159 := ⟨by decide +kernel, rfl⟩
theorem D153_199 : rDec M153 199 (.iload 10) 2 201 := ⟨by decide +kernel, rfl⟩
theorem D153_201 : rDec M153 201 (.ifCond .eq 16) 3 204 := ⟨by decide +kernel, rfl⟩
theorem D153_204 : rDec M153 204 (.aload_n 0) 1 205 := ⟨by decide +kernel, rfl⟩
theorem D153_205 : rDec M153 205 (.iload_n 1) 1 206 := ⟨by decide +kernel, rfl⟩
theorem D153_206 : rDec M153 206 (.iconst 1) 1 207 := ⟨by decide +kernel, rfl⟩
theorem D153_207 : rDec M153 207 (.iadd) 1 208 := ⟨by decide +kernel, rfl⟩
theorem D153_208 : rDec M153 208 (.iload_n 2) 1 209 := ⟨by decide +kernel, rfl⟩
theorem D153_209 : rDec M153 209 (.aload_n 3) 1 210 := ⟨by decide +kernel, rfl⟩
theorem D153_210 : rDec M153 210 (.aload 4) 2 212 := ⟨by decide +kernel, rfl⟩
theorem D153_212 : rDec M153 212 (.aload 5) 2 214 := ⟨by decide +kernel, rfl⟩
theorem D153_214 : rDec M153 214 (.invokevirtual 81) 3 217 := ⟨by decide +kernel, rfl⟩
theorem D153_217 : rDec M153 217 (.iinc 8 1) 3 220 := ⟨by decide +kernel, rfl⟩
theorem D153_220 : rDec M153 220 (.goto (-101)) 3 223 := ⟨by decide +kernel, rfl⟩
theorem D153_223 : rDec M153 223 (.aload 4) 2 225 := ⟨by decide +kernel, rfl⟩
theorem D153_225 : rDec M153 225 (.iload_n 1) 1 226 := ⟨by decide +kernel, rfl⟩
theorem D153_226 : rDec M153 226 (.iconst 0) 1 227 := ⟨by decide +kernel, rfl⟩
theorem D153_227 : rDec M153 227 (.iastore) 1 228 := ⟨by decide +kernel, rfl⟩
theorem D153_228 : rDec M153 228 (.return_) 1 229 := ⟨by decide +kernel, rfl⟩
theorem P153_223 : rSnd lab M153 223 B153_223 := by
  refine s_Al gk4 (Or.inl D153_223) ?_
  refine s_Il gk1 (Or.inr ⟨1, D153_225, rfl⟩) ?_
  refine s_ic D153_226 kc_i_0 (by decide) ?_
  refine s_Ast (t := 0) rfl q_iast rfl (by decide) D153_227 ?_
  exact s_Rv rfl D153_228.1
theorem P153_217 : rSnd lab M153 217 B153_217 := by
  refine s_Inc gk8 sk8 (show 8 < 12 from by decide) kc_i_1 D153_217 ?_
  exact s_Go (pc' := 119) D153_220.1 (by decide) (s_Jb rfl)
theorem P153_199 : rSnd lab M153 199 B153_199 := by
  refine s_Il gk10 (Or.inl D153_199) ?_
  refine s_If c_eq (fun _ => rfl) (fun _ _ => rfl) (b_eq (tg := 217) (by decide)) D153_201.1 P153_217 (?_ : rSnd _ _ 204 _)
  refine s_Al gk0 (Or.inr ⟨0, D153_204, rfl⟩) ?_
  refine s_Il gk1 (Or.inr ⟨1, D153_205, rfl⟩) ?_
  refine s_ic D153_206 kc_i_1 (by decide) ?_
  refine s_Bin q_iadd n_add rG2_x e_add D153_207 ?_
  refine s_Il gk2 (Or.inr ⟨2, D153_208, rfl⟩) ?_
  refine s_Al gk3 (Or.inr ⟨3, D153_209, rfl⟩) ?_
  refine s_Al gk4 (Or.inl D153_210) ?_
  refine s_Al gk5 (Or.inl D153_212) ?_
  refine s_Cv (ln := 3) (kd := 42) (C := "WordWrightModel$Equations") (by decide) (by decide +kernel) rfl (l_V rfl ok153 rfl wd2646 wd2648 ws74 D153_214.1) (?_ : rSnd _ _ 217 _)
  exact P153_217
theorem P153_119 : rSnd lab M153 119 B153_119 := by
  refine s_Il gk8 (Or.inl D153_119) ?_
  refine s_Il gk7 (Or.inl D153_121) ?_
  refine s_Ic c_ge (i_ge (tg := 223) (by decide)) D153_123.1 P153_223 (?_ : rSnd _ _ 126 _)
  refine s_Al gk6 (Or.inl D153_126) ?_
  refine s_Il gk8 (Or.inl D153_128) ?_
  refine s_Ial D153_130 ?_
  refine s_Is sk9 (show 9 < 12 from by decide) (Or.inl D153_131) ?_
  refine s_Al gk4 (Or.inl D153_133) ?_
  refine s_Il gk1 (Or.inr ⟨1, D153_135, rfl⟩) ?_
  refine s_Il gk9 (Or.inl D153_136) ?_
  refine s_Ast (t := 0) rfl q_iast rfl (by decide) D153_138 ?_
  refine s_ic D153_139 kc_i_1 (by decide) ?_
  refine s_Is sk10 (show 10 < 12 from by decide) (Or.inl D153_140) ?_
  refine s_ic D153_142 kc_i_0 (by decide) ?_
  refine s_Is sk11 (show 11 < 12 from by decide) (Or.inl D153_143) ?_
  refine s_Il gk11 (Or.inl D153_145) ?_
  refine s_Al gk0 (Or.inr ⟨0, D153_147, rfl⟩) ?_
  refine s_Gf (ci := 20) (r := ("WordWrightModel$Equations", kT20, 6)) rfl (show 0 < 6 from by decide) rfl (Or.inl wd1926) (Or.inl rfl) rfl D153_148 ?_
  refine s_Cv (ln := 5) (kd := 50) (C := "java/util/ArrayList") (by decide) (by decide +kernel) rfl (l_F (C := "java/util/ArrayList") (x := ({ cls := "java/util/List", name := "size", desc := "()I" } : Jvm.MethodName)) (ci := 24) (r := ("java/util/ArrayList", kT24, 3)) rfl rfl rfl ok15 rfl rfl (by decide) (List.mem_of_getElem? (i := 4) rfl) wd2631 wd2078 wd2076 D153_151.1) (?_ : rSnd _ _ 156 _)
  refine s_Ic c_ge (i_ge (tg := 199) (by decide)) D153_156.1 P153_199 (?_ : rSnd _ _ 159 _)
  exact rSnd_none
theorem P153_103 : rSnd lab M153 103 B153_103 := by
  refine s_Al gk0 (Or.inr ⟨0, D153_103, rfl⟩) ?_
  refine s_Gf (ci := 20) (r := ("WordWrightModel$Equations", kT20, 6)) rfl (show 3 < 6 from by decide) rfl (Or.inl wd1932) (Or.inl rfl) rfl D153_104 ?_
  refine s_Il gk1 (Or.inr ⟨1, D153_107, rfl⟩) ?_
  refine s_Aal D153_108 ?_
  refine s_As sk6 (show 6 < 12 from by decide) (Or.inl D153_109) ?_
  refine s_Al gk6 (Or.inl D153_111) ?_
  refine s_Len D153_113 ?_
  refine s_Is sk7 (show 7 < 12 from by decide) (Or.inl D153_114) ?_
  refine s_ic D153_116 kc_i_0 (by decide) ?_
  refine s_Is sk8 (show 8 < 12 from by decide) (Or.inl D153_117) ?_
  exact P153_119
theorem P153_82 : rSnd lab M153 82 B153_82 := by
  refine s_Al gk3 (Or.inr ⟨3, D153_82, rfl⟩) ?_
  refine s_Il gk1 (Or.inr ⟨1, D153_83, rfl⟩) ?_
  refine s_Ial D153_84 ?_
  refine s_Il gk2 (Or.inr ⟨2, D153_85, rfl⟩) ?_
  refine s_Ic c_eq (i_eq (tg := 103) (by decide)) D153_86.1 P153_103 (?_ : rSnd _ _ 89 _)
  refine s_Al gk0 (Or.inr ⟨0, D153_89, rfl⟩) ?_
  refine s_Il gk1 (Or.inr ⟨1, D153_90, rfl⟩) ?_
  refine s_ic D153_91 kc_i_1 (by decide) ?_
  refine s_Bin q_iadd n_add rG2_x e_add D153_92 ?_
  refine s_Il gk2 (Or.inr ⟨2, D153_93, rfl⟩) ?_
  refine s_Al gk3 (Or.inr ⟨3, D153_94, rfl⟩) ?_
  refine s_Al gk4 (Or.inl D153_95) ?_
  refine s_Al gk5 (Or.inl D153_97) ?_
  refine s_Cv (ln := 3) (kd := 42) (C := "WordWrightModel$Equations") (by decide) (by decide +kernel) rfl (l_V rfl ok153 rfl wd2646 wd2648 ws74 D153_99.1) (?_ : rSnd _ _ 102 _)
  exact s_Rv rfl D153_102.1
theorem P153_73 : rSnd lab M153 73 B153_73 := by
  refine s_Al gk5 (Or.inl D153_73) ?_
  refine s_ic D153_75 kc_i_0 (by decide) ?_
  refine s_Dup2 D153_76 ?_
  refine s_Ial D153_77 ?_
  refine s_ic D153_78 kc_i_1 (by decide) ?_
  refine s_Bin q_iadd n_add rG2_x e_add D153_79 ?_
  refine s_Ast (t := 0) rfl q_iast rfl (by decide) D153_80 ?_
  exact s_Rv rfl D153_81.1
theorem P153_48 : rSnd lab M153 48 B153_48 := by
  refine s_Il gk6 (Or.inl D153_48) ?_
  refine s_Al gk5 (Or.inl D153_50) ?_
  refine s_ic D153_52 kc_i_1 (by decide) ?_
  refine s_Ial D153_53 ?_
  refine s_Ic c_ge (i_ge (tg := 73) (by decide)) D153_54.1 P153_73 (?_ : rSnd _ _ 57 _)
  refine s_Al gk5 (Or.inl D153_57) ?_
  refine s_ic D153_59 kc_i_1 (by decide) ?_
  refine s_Il gk6 (Or.inl D153_60) ?_
  refine s_Ast (t := 0) rfl q_iast rfl (by decide) D153_62 ?_
  refine s_Al gk4 (Or.inl D153_63) ?_
  refine s_ic D153_65 kc_i_0 (by decide) ?_
  refine s_Al gk5 (Or.inl D153_66) ?_
  refine s_ic D153_68 kc_i_2 (by decide) ?_
  refine s_ic D153_69 kc_i_4 (by decide) ?_
  refine s_Cpy rfl wd2629 wd584 wd583 wd17 D153_70 ?_
  exact P153_73
theorem P153_39 : rSnd lab M153 39 B153_39 := by
  refine s_Bin q_iadd n_add rG2_x e_add D153_39 ?_
  refine s_Is sk6 (show 6 < 12 from by decide) (Or.inl D153_40) ?_
  refine s_Inc gk7 sk7 (show 7 < 12 from by decide) kc_i_1 D153_42 ?_
  exact s_Go (pc' := 11) D153_45.1 (by decide) (s_Jb rfl)
theorem P153_38 : rSnd lab M153 38 B153_38 := by
  refine s_ic D153_38 kc_i_0 (by decide) ?_
  exact P153_39
theorem P153_11 : rSnd lab M153 11 B153_11 := by
  refine s_Il gk7 (Or.inl D153_11) ?_
  refine s_ic D153_13 kc_i_4 (by decide) ?_
  refine s_Ic c_ge (i_ge (tg := 48) (by decide)) D153_14.1 P153_48 (?_ : rSnd _ _ 17 _)
  refine s_Il gk6 (Or.inl D153_17) ?_
  refine s_Al gk3 (Or.inr ⟨3, D153_19, rfl⟩) ?_
  refine s_Il gk7 (Or.inl D153_20) ?_
  refine s_Ial D153_22 ?_
  refine s_Il gk2 (Or.inr ⟨2, D153_23, rfl⟩) ?_
  refine s_Ic c_ne (i_ne (tg := 38) (by decide)) D153_24.1 P153_38 (?_ : rSnd _ _ 27 _)
  refine s_Al gk4 (Or.inl D153_27) ?_
  refine s_Il gk7 (Or.inl D153_29) ?_
  refine s_Ial D153_31 ?_
  refine s_Cs (id := 262) rfl (l_SN (j := 19) rfl ok194 rfl rfl wd2401 D153_32.1) (?_ : rSnd _ _ 35 _)
  exact s_Go (pc' := 39) D153_35.1 (by decide) P153_39
theorem P153_0 : rSnd lab M153 0 B153_0 := by
  refine s_Ent ?_
  refine s_Il gk1 (Or.inr ⟨1, D153_0, rfl⟩) ?_
  refine s_ic D153_1 kc_i_4 (by decide) ?_
  refine s_Ic c_ne (i_ne (tg := 82) (by decide)) D153_2.1 P153_82 (?_ : rSnd _ _ 5 _)
  refine s_ic D153_5 kc_i_0 (by decide) ?_
  refine s_Is sk6 (show 6 < 12 from by decide) (Or.inl D153_6) ?_
  refine s_ic D153_8 kc_i_0 (by decide) ?_
  refine s_Is sk7 (show 7 < 12 from by decide) (Or.inl D153_9) ?_
  exact P153_11
theorem D154_0 : rDec M154 0 (.aload_n 0) 1 1 := ⟨by decide +kernel, rfl⟩
theorem D154_1 : rDec M154 1 (.invokespecial 3) 3 4 := ⟨by decide +kernel, rfl⟩
theorem D154_4 : rDec M154 4 (.aload_n 0) 1 5 := ⟨by decide +kernel, rfl⟩
theorem D154_5 : rDec M154 5 (.new 9) 3 8 := ⟨by decide +kernel, rfl⟩
theorem D154_8 : rDec M154 8 (.dup) 1 9 := ⟨by decide +kernel, rfl⟩
theorem D154_9 : rDec M154 9 (.invokespecial 11) 3 12 := ⟨by decide +kernel, rfl⟩
theorem D154_12 : rDec M154 12 (.putfield 12) 3 15 := ⟨by decide +kernel, rfl⟩
theorem D154_15 : rDec M154 15 (.aload_n 0) 1 16 := ⟨by decide +kernel, rfl⟩
theorem D154_16 : rDec M154 16 (.iconst 4) 1 17 := ⟨by decide +kernel, rfl⟩
theorem D154_17 : rDec M154 17 (.anewarray 18) 3 20 := ⟨by decide +kernel, rfl⟩
theorem D154_20 : rDec M154 20 (.putfield 20) 3 23 := ⟨by decide +kernel, rfl⟩
theorem D154_23 : rDec M154 23 (.aload_n 0) 1 24 := ⟨by decide +kernel, rfl⟩
theorem D154_24 : rDec M154 24 (.iconst 4) 1 25 := ⟨by decide +kernel, rfl⟩
theorem D154_25 : rDec M154 25 (.newarray .int) 2 27 := ⟨by decide +kernel, rfl⟩
theorem D154_27 : rDec M154 27 (.putfield 24) 3 30 := ⟨by decide +kernel, rfl⟩
theorem D154_30 : rDec M154 30 (.aload_n 0) 1 31 := ⟨by decide +kernel, rfl⟩
theorem D154_31 : rDec M154 31 (.iconst 4) 1 32 := ⟨by decide +kernel, rfl⟩
theorem D154_32 : rDec M154 32 (.anewarray 28) 3 35 := ⟨by decide +kernel, rfl⟩
theorem D154_35 : rDec M154 35 (.putfield 29) 3 38 := ⟨by decide +kernel, rfl⟩
theorem D154_38 : rDec M154 38 (.aload_n 0) 1 39 := ⟨by decide +kernel, rfl⟩
theorem D154_39 : rDec M154 39 (.iconst 4) 1 40 := ⟨by decide +kernel, rfl⟩
theorem D154_40 : rDec M154 40 (.newarray .int) 2 42 := ⟨by decide +kernel, rfl⟩
theorem D154_42 : rDec M154 42 (.putfield 33) 3 45 := ⟨by decide +kernel, rfl⟩
theorem D154_45 : rDec M154 45 (.return_) 1 46 := ⟨by decide +kernel, rfl⟩
theorem P154_0 : rSnd lab M154 0 B154_0 := by
  refine s_Ent ?_
  refine s_Al gk0 (Or.inr ⟨0, D154_0, rfl⟩) ?_
  refine s_Oi rfl wd1919 wd62 wd63 D154_1 ?_
  refine s_Al gk0 (Or.inr ⟨0, D154_4, rfl⟩) ?_
  refine s_New (ci := 24) (r := ("java/util/ArrayList", kT24, 3)) rfl rfl wd1920 wd1889 wd21 kr24 D154_5 ?_
  refine s_Dup D154_8 ?_
  refine s_Ci (id := 14) rfl (l_I rfl ok13 rfl rfl rfl wd1921 wd1891 D154_9.1) (?_ : rSnd _ _ 12 _)
  refine s_Pf (ci := 20) (r := ("WordWrightModel$Equations", kT20, 6)) rfl (show 0 < 6 from by decide) rfl (Or.inr ⟨rfl, wd1926, rfl, rfl⟩) (Or.inl rfl) rfl (by decide) D154_12 ?_
  refine s_Al gk0 (Or.inr ⟨0, D154_15, rfl⟩) ?_
  refine s_ic D154_16 kc_i_4 (by decide) ?_
  refine s_Nwa (t := 4) rfl (q_anew rfl) (fun ht hk => ⟨ht _ wd1922, hk.ng 52 rfl⟩) D154_17 ?_
  refine s_Pf (ci := 20) (r := ("WordWrightModel$Equations", kT20, 6)) rfl (show 1 < 6 from by decide) rfl (Or.inr ⟨rfl, wd1928, rfl, rfl⟩) (Or.inl rfl) rfl (by decide) D154_20 ?_
  refine s_Al gk0 (Or.inr ⟨0, D154_23, rfl⟩) ?_
  refine s_ic D154_24 kc_i_4 (by decide) ?_
  refine s_Nwa (t := 0) rfl (q_newa (at_ := .int) (Or.inl rfl)) (fun ht _ => ht _ wd91) D154_25 ?_
  refine s_Pf (ci := 20) (r := ("WordWrightModel$Equations", kT20, 6)) rfl (show 2 < 6 from by decide) rfl (Or.inr ⟨rfl, wd1930, rfl, rfl⟩) (Or.inl rfl) rfl (by decide) D154_27 ?_
  refine s_Al gk0 (Or.inr ⟨0, D154_30, rfl⟩) ?_
  refine s_ic D154_31 kc_i_4 (by decide) ?_
  refine s_Nwa (t := 7) rfl (q_anewA rfl) (fun ht hk => ⟨ht _ wd1924, hk.ng 53 rfl⟩) D154_32 ?_
  refine s_Pf (ci := 20) (r := ("WordWrightModel$Equations", kT20, 6)) rfl (show 3 < 6 from by decide) rfl (Or.inr ⟨rfl, wd1932, rfl, rfl⟩) (Or.inl rfl) rfl (by decide) D154_35 ?_
  refine s_Al gk0 (Or.inr ⟨0, D154_38, rfl⟩) ?_
  refine s_ic D154_39 kc_i_4 (by decide) ?_
  refine s_Nwa (t := 0) rfl (q_newa (at_ := .int) (Or.inl rfl)) (fun ht _ => ht _ wd91) D154_40 ?_
  refine s_Pf (ci := 20) (r := ("WordWrightModel$Equations", kT20, 6)) rfl (show 4 < 6 from by decide) rfl (Or.inl ⟨rfl, Or.inl wd1933⟩) (Or.inl rfl) rfl (by decide) D154_42 ?_
  exact s_Rv rfl D154_45.1
theorem D155_0 : rDec M155 0 (.aload_n 0) 1 1 := ⟨by decide +kernel, rfl⟩
theorem D155_1 : rDec M155 1 (.iconst 4) 1 2 := ⟨by decide +kernel, rfl⟩
theorem D155_2 : rDec M155 2 (.newarray .int) 2 4 := ⟨by decide +kernel, rfl⟩
theorem D155_4 : rDec M155 4 (.putfield 33) 3 7 := ⟨by decide +kernel, rfl⟩
theorem D155_7 : rDec M155 7 (.aload_n 0) 1 8 := ⟨by decide +kernel, rfl⟩
theorem D155_8 : rDec M155 8 (.iconst 1) 1 9 := ⟨by decide +kernel, rfl⟩
theorem D155_9 : rDec M155 9 (.putfield 53) 3 12 := ⟨by decide +kernel, rfl⟩
theorem D155_12 : rDec M155 12 (.iconst 0) 1 13 := ⟨by decide +kernel, rfl⟩
theorem D155_13 : rDec M155 13 (.istore_n 1) 1 14 := ⟨by decide +kernel, rfl⟩
theorem D155_14 : rDec M155 14 (.iload_n 1) 1 15 := ⟨by decide +kernel, rfl⟩
theorem D155_15 : rDec M155 15 (.iconst 4) 1 16 := ⟨by decide +kernel, rfl⟩
theorem D155_16 : rDec M155 16 (.if_icmp .ge 26) 3 19 := ⟨by decide +kernel, rfl⟩
theorem D155_19 : rDec M155 19 (.aload_n 0) 1 20 := ⟨by decide +kernel, rfl⟩
theorem D155_20 : rDec M155 20 (.getfield 29) 3 23 := ⟨by decide +kernel, rfl⟩
theorem D155_23 : rDec M155 23 (.iload_n 1) 1 24 := ⟨by decide +kernel, rfl⟩
theorem D155_24 : rDec M155 24 (.aload_n 0) 1 25 := ⟨by decide +kernel, rfl⟩
theorem D155_25 : rDec M155 25 (.iload_n 1) 1 26 := ⟨by decide +kernel, rfl⟩
theorem D155_26 : rDec M155 26 (.aload_n 0) 1 27 := ⟨by decide +kernel, rfl⟩
theorem D155_27 : rDec M155 27 (.getfield 24) 3 30 := ⟨by decide +kernel, rfl⟩
theorem D155_30 : rDec M155 30 (.iload_n 1) 1 31 := ⟨by decide +kernel, rfl⟩
theorem D155_31 : rDec M155 31 (.iaload) 1 32 := ⟨by decide +kernel, rfl⟩
theorem D155_32 : rDec M155 32 (.invokevirtual 57) 3 35 := ⟨by decide +kernel, rfl⟩
theorem D155_35 : rDec M155 35 (.aastore) 1 36 := ⟨by decide +kernel, rfl⟩
theorem D155_36 : rDec M155 36 (.iinc 1 1) 3 39 := ⟨by decide +kernel, rfl⟩
theorem D155_39 : rDec M155 39 (.goto (-25)) 3 42 := ⟨by decide +kernel, rfl⟩
theorem D155_42 : rDec M155 42 (.iconst 4) 1 43 := ⟨by decide +kernel, rfl⟩
theorem D155_43 : rDec M155 43 (.newarray .int) 2 45 := ⟨by decide +kernel, rfl⟩
theorem D155_45 : rDec M155 45 (.dup) 1 46 := ⟨by decide +kernel, rfl⟩
theorem D155_46 : rDec M155 46 (.iconst 0) 1 47 := ⟨by decide +kernel, rfl⟩
theorem D155_47 : rDec M155 47 (.iconst 0) 1 48 := ⟨by decide +kernel, rfl⟩
theorem D155_48 : rDec M155 48 (.iastore) 1 49 := ⟨by decide +kernel, rfl⟩
theorem D155_49 : rDec M155 49 (.dup) 1 50 := ⟨by decide +kernel, rfl⟩
theorem D155_50 : rDec M155 50 (.iconst 1) 1 51 := ⟨by decide +kernel, rfl⟩
theorem D155_51 : rDec M155 51 (.iconst 1) 1 52 := ⟨by decide +kernel, rfl⟩
theorem D155_52 : rDec M155 52 (.iastore) 1 53 := ⟨by decide +kernel, rfl⟩
theorem D155_53 : rDec M155 53 (.dup) 1 54 := ⟨by decide +kernel, rfl⟩
theorem D155_54 : rDec M155 54 (.iconst 2) 1 55 := ⟨by decide +kernel, rfl⟩
theorem D155_55 : rDec M155 55 (.iconst 2) 1 56 := ⟨by decide +kernel, rfl⟩
theorem D155_56 : rDec M155 56 (.iastore) 1 57 := ⟨by decide +kernel, rfl⟩
theorem D155_57 : rDec M155 57 (.dup) 1 58 := ⟨by decide +kernel, rfl⟩
theorem D155_58 : rDec M155 58 (.iconst 3) 1 59 := ⟨by decide +kernel, rfl⟩
theorem D155_59 : rDec M155 59 (.iconst 3) 1 60 := ⟨by decide +kernel, rfl⟩
theorem D155_60 : rDec M155 60 (.iastore) 1 61 := ⟨by decide +kernel, rfl⟩
theorem D155_61 : rDec M155 61 (.astore_n 1) 1 62 := ⟨by decide +kernel, rfl⟩
theorem D155_62 : rDec M155 62 (.iconst 0) 1 63 := ⟨by decide +kernel, rfl⟩
theorem D155_63 : rDec M155 63 (.istore_n 2) 1 64 := ⟨by decide +kernel, rfl⟩
theorem D155_64 : rDec M155 64 (.iload_n 2) 1 65 := ⟨by decide +kernel, rfl⟩
theorem D155_65 : rDec M155 65 (.aload_n 0) 1 66 := ⟨by decide +kernel, rfl⟩
theorem D155_66 : rDec M155 66 (.getfield 12) 3 69 := ⟨by decide +kernel, rfl⟩
theorem D155_69 : rDec M155 69 (.invokeinterface 61 1) 5 74 := ⟨by decide +kernel, rfl⟩
theorem D155_74 : rDec M155 74 (.if_icmp .ge 214) 3 77 := ⟨by decide +kernel, rfl⟩
theorem D155_288 : rDec M155 288 (.iconst 0) 1 289 := ⟨by decide +kernel, rfl⟩
theorem D155_289 : rDec M155 289 (.istore_n 2) 1 290 := ⟨by decide +kernel, rfl⟩
theorem D155_290 : rDec M155 290 (.iload_n 2) 1 291 := ⟨by decide +kernel, rfl⟩
theorem D155_291 : rDec M155 291 (.iconst 4) 1 292 := ⟨by decide +kernel, rfl⟩
theorem D155_292 : rDec M155 292 (.if_icmp .ge 158) 3 295 := ⟨by decide +kernel, rfl⟩
theorem D155_295 : rDec M155 295 (.iconst 4) 1 296 := ⟨by decide +kernel, rfl⟩
theorem D155_296 : rDec M155 296 (.newarray .int) 2 298 := ⟨by decide +kernel, rfl⟩
theorem D155_298 : rDec M155 298 (.astore_n 3) 1 299 := ⟨by decide +kernel, rfl⟩
theorem D155_299 : rDec M155 299 (.bipush 6) 2 301 := ⟨by decide +kernel, rfl⟩
theorem D155_301 : rDec M155 301 (.newarray .int) 2 303 := ⟨by decide +kernel, rfl⟩
theorem D155_303 : rDec M155 303 (.dup) 1 304 := ⟨by decide +kernel, rfl⟩
theorem D155_304 : rDec M155 304 (.iconst 0) 1 305 := ⟨by decide +kernel, rfl⟩
theorem D155_305 : rDec M155 305 (.iconst 0) 1 306 := ⟨by decide +kernel, rfl⟩
theorem D155_306 : rDec M155 306 (.iastore) 1 307 := ⟨by decide +kernel, rfl⟩
theorem D155_307 : rDec M155 307 (.dup) 1 308 := ⟨by decide +kernel, rfl⟩
theorem D155_308 : rDec M155 308 (.iconst 1) 1 309 := ⟨by decide +kernel, rfl⟩
theorem D155_309 : rDec M155 309 (.ldc 80) 2 311 := ⟨by decide +kernel, rfl⟩
theorem D155_311 : rDec M155 311 (.iastore) 1 312 := ⟨by decide +kernel, rfl⟩
theorem D155_312 : rDec M155 312 (.dup) 1 313 := ⟨by decide +kernel, rfl⟩
theorem D155_313 : rDec M155 313 (.iconst 2) 1 314 := ⟨by decide +kernel, rfl⟩
theorem D155_314 : rDec M155 314 (.iconst 0) 1 315 := ⟨by decide +kernel, rfl⟩
theorem D155_315 : rDec M155 315 (.iastore) 1 316 := ⟨by decide +kernel, rfl⟩
theorem D155_316 : rDec M155 316 (.dup) 1 317 := ⟨by decide +kernel, rfl⟩
theorem D155_317 : rDec M155 317 (.iconst 3) 1 318 := ⟨by decide +kernel, rfl⟩
theorem D155_318 : rDec M155 318 (.iconst 0) 1 319 := ⟨by decide +kernel, rfl⟩
theorem D155_319 : rDec M155 319 (.iastore) 1 320 := ⟨by decide +kernel, rfl⟩
theorem D155_320 : rDec M155 320 (.dup) 1 321 := ⟨by decide +kernel, rfl⟩
theorem D155_321 : rDec M155 321 (.iconst 4) 1 322 := ⟨by decide +kernel, rfl⟩
theorem D155_322 : rDec M155 322 (.iconst 0) 1 323 := ⟨by decide +kernel, rfl⟩
theorem D155_323 : rDec M155 323 (.iastore) 1 324 := ⟨by decide +kernel, rfl⟩
theorem D155_324 : rDec M155 324 (.dup) 1 325 := ⟨by decide +kernel, rfl⟩
theorem D155_325 : rDec M155 325 (.iconst 5) 1 326 := ⟨by decide +kernel, rfl⟩
theorem D155_326 : rDec M155 326 (.iconst 0) 1 327 := ⟨by decide +kernel, rfl⟩
theorem D155_327 : rDec M155 327 (.iastore) 1 328 := ⟨by decide +kernel, rfl⟩
theorem D155_328 : rDec M155 328 (.astore 4) 2 330 := ⟨by decide +kernel, rfl⟩
theorem D155_330 : rDec M155 330 (.iconst 0) 1 331 := ⟨by decide +kernel, rfl⟩
theorem D155_331 : rDec M155 331 (.istore 5) 2 333 := ⟨by decide +kernel, rfl⟩
theorem D155_333 : rDec M155 333 (.iconst 0) 1 334 := ⟨by decide +kernel, rfl⟩
theorem D155_334 : rDec M155 334 (.istore 6) 2 336 := ⟨by decide +kernel, rfl⟩
theorem D155_336 : rDec M155 336 (.iload 6) 2 338 := ⟨by decide +kernel, rfl⟩
theorem D155_338 : rDec M155 338 (.iconst 4) 1 339 := ⟨by decide +kernel, rfl⟩
theorem D155_339 : rDec M155 339 (.if_icmp .ge 27) 3 342 := ⟨by decide +kernel, rfl⟩
theorem D155_342 : rDec M155 342 (.iload 5) 2 344 := ⟨by decide +kernel, rfl⟩
theorem D155_344 : rDec M155 344 (.aload_n 1) 1 345 := ⟨by decide +kernel, rfl⟩
theorem D155_345 : rDec M155 345 (.iload 6) 2 347 := ⟨by decide +kernel, rfl⟩
theorem D155_347 : rDec M155 347 (.iaload) 1 348 := ⟨by decide +kernel, rfl⟩
theorem D155_348 : rDec M155 348 (.iload_n 2) 1 349 := ⟨by decide +kernel, rfl⟩
theorem D155_349 : rDec M155 349 (.if_icmp .ne 7) 3 352 := ⟨by decide +kernel, rfl⟩
theorem D155_352 : rDec M155 352 (.iconst 1) 1 353 := ⟨by decide +kernel, rfl⟩
theorem D155_353 : rDec M155 353 (.goto 4) 3 356 := ⟨by decide +kernel, rfl⟩
theorem D155_356 : rDec M155 356 (.iconst 0) 1 357 := ⟨by decide +kernel, rfl⟩
theorem D155_357 : rDec M155 357 (.ior) 1 358 := ⟨by decide +kernel, rfl⟩
theorem D155_358 : rDec M155 358 (.istore 5) 2 360 := ⟨by decide +kernel, rfl⟩
theorem D155_360 : rDec M155 360 (.iinc 6 1) 3 363 := ⟨by decide +kernel, rfl⟩
theorem D155_363 : rDec M155 363 (.goto (-27)) 3 366 := ⟨by decide +kernel, rfl⟩
theorem D155_366 : rDec M155 366 (.iload 5) 2 368 := ⟨by decide +kernel, rfl⟩
theorem D155_368 : rDec M155 368 (.ifCond .ne 6) 3 371 := ⟨by decide +kernel, rfl⟩
theorem D155_374 : rDec M155 374 (.aload_n 0) 1 375 := ⟨by decide +kernel, rfl⟩
theorem D155_375 : rDec M155 375 (.iconst 0) 1 376 := ⟨by decide +kernel, rfl⟩
theorem D155_376 : rDec M155 376 (.iload_n 2) 1 377 := ⟨by decide +kernel, rfl⟩
theorem D155_377 : rDec M155 377 (.aload_n 1) 1 378 := ⟨by decide +kernel, rfl⟩
theorem D155_378 : rDec M155 378 (.aload_n 3) 1 379 := ⟨by decide +kernel, rfl⟩
theorem D155_379 : rDec M155 379 (.aload 4) 2 381 := ⟨by decide +kernel, rfl⟩
theorem D155_381 : rDec M155 381 (.invokevirtual 81) 3 384 := ⟨by decide +kernel, rfl⟩
theorem D155_384 : rDec M155 384 (.aload_n 0) 1 385 := ⟨by decide +kernel, rfl⟩
theorem D155_385 : rDec M155 385 (.dup) 1 386 := ⟨by decide +kernel, rfl⟩
theorem D155_386 : rDec M155 386 (.getfield 53) 3 389 := ⟨by decide +kernel, rfl⟩
theorem D155_389 : rDec M155 389 (.aload 4) 2 391 := ⟨by decide +kernel, rfl⟩
theorem D155_391 : rDec M155 391 (.iconst 0) 1 392 := ⟨by decide +kernel, rfl⟩
theorem D155_392 : rDec M155 392 (.iaload) 1 393 := ⟨by decide +kernel, rfl⟩
theorem D155_393 : rDec M155 393 (.imul) 1 394 := ⟨by decide +kernel, rfl⟩
theorem D155_394 : rDec M155 394 (.putfield 53) 3 397 := ⟨by decide +kernel, rfl⟩
theorem D155_397 : rDec M155 397 (.iconst 0) 1 398 := ⟨by decide +kernel, rfl⟩
theorem D155_398 : rDec M155 398 (.istore 6) 2 400 := ⟨by decide +kernel, rfl⟩
theorem D155_400 : rDec M155 400 (.iload 6) 2 402 := ⟨by decide +kernel, rfl⟩
theorem D155_402 : rDec M155 402 (.iconst 4) 1 403 := ⟨by decide +kernel, rfl⟩
theorem D155_403 : rDec M155 403 (.if_icmp .ge 41) 3 406 := ⟨by decide +kernel, rfl⟩
theorem D155_406 : rDec M155 406 (.aload_n 0) 1 407 := ⟨by decide +kernel, rfl⟩
theorem D155_407 : rDec M155 407 (.getfield 33) 3 410 := ⟨by decide +kernel, rfl⟩
theorem D155_410 : rDec M155 410 (.iload 6) 2 412 := ⟨by decide +kernel, rfl⟩
theorem D155_412 : rDec M155 412 (.aload_n 1) 1 413 := ⟨by decide +kernel, rfl⟩
theorem D155_413 : rDec M155 413 (.iload 6) 2 415 := ⟨by decide +kernel, rfl⟩
theorem D155_415 : rDec M155 415 (.iaload) 1 416 := ⟨by decide +kernel, rfl⟩
theorem D155_416 : rDec M155 416 (.iload_n 2) 1 417 := ⟨by decide +kernel, rfl⟩
theorem D155_417 : rDec M155 417 (.if_icmp .ne 13) 3 420 := ⟨by decide +kernel, rfl⟩
theorem D155_420 : rDec M155 420 (.aload 4) 2 422 := ⟨by decide +kernel, rfl⟩
theorem D155_422 : rDec M155 422 (.iconst 2) 1 423 := ⟨by decide +kernel, rfl⟩
theorem D155_423 : rDec M155 423 (.iload 6) 2 425 := ⟨by decide +kernel, rfl⟩
theorem D155_425 : rDec M155 425 (.iadd) 1 426 := ⟨by decide +kernel, rfl⟩
theorem D155_426 : rDec M155 426 (.iaload) 1 427 := ⟨by decide +kernel, rfl⟩
theorem D155_427 : rDec M155 427 (.goto 10) 3 430 := ⟨by decide +kernel, rfl⟩
theorem D155_430 : rDec M155 430 (.aload_n 0) 1 431 := ⟨by decide +kernel, rfl⟩
theorem D155_431 : rDec M155 431 (.getfield 33) 3 434 := ⟨by decide +kernel, rfl⟩
theorem D155_434 : rDec M155 434 (.iload 6) 2 436 := ⟨by decide +kernel, rfl⟩
theorem D155_436 : rDec M155 436 (.iaload) 1 437 := ⟨by decide +kernel, rfl⟩
theorem D155_437 : rDec M155 437 (.iastore) 1 438 := ⟨by decide +kernel, rfl⟩
theorem D155_438 : rDec M155 438 (.iinc 6 1) 3 441 := ⟨by decide +kernel, rfl⟩
theorem D155_441 : rDec M155 441 (.goto (-41)) 3 444 := ⟨by decide +kernel, rfl⟩
theorem D155_444 : rDec M155 444 (.iinc 2 1) 3 447 := ⟨by decide +kernel, rfl⟩
theorem D155_447 : rDec M155 447 (.goto (-157)) 3 450 := ⟨by decide +kernel, rfl⟩
theorem D155_450 : rDec M155 450 (.aload_n 0) 1 451 := ⟨by decide +kernel, rfl⟩
theorem D155_451 : rDec M155 451 (.getfield 53) 3 454 := ⟨by decide +kernel, rfl⟩
theorem D155_454 : rDec M155 454 (.ifCond .ne 10) 3 457 := ⟨by decide +kernel, rfl⟩
theorem D155_464 : rDec M155 464 (.return_) 1 465 := ⟨by decide +kernel, rfl⟩
theorem P155_464 : rSnd lab M155 464 B155_464 := by
  exact s_Rv rfl D155_464.1
theorem P155_450 : rSnd lab M155 450 B155_450 := by
  refine s_Al gk0 (Or.inr ⟨0, D155_450, rfl⟩) ?_
  refine s_Gf (ci := 20) (r := ("WordWrightModel$Equations", kT20, 6)) rfl (show 5 < 6 from by decide) rfl (Or.inl wd1935) (Or.inl rfl) rfl D155_451 ?_
  refine s_If c_ne (fun _ => rfl) (fun _ _ => rfl) (b_ne (tg := 464) (by decide)) D155_454.1 P155_464 (?_ : rSnd _ _ 457 _)
  exact rSnd_none
theorem P155_444 : rSnd lab M155 444 B155_444 := by
  refine s_Inc gk2 sk2 (show 2 < 9 from by decide) kc_i_1 D155_444 ?_
  exact s_Go (pc' := 290) D155_447.1 (by decide) (s_Jb rfl)
theorem P155_437 : rSnd lab M155 437 B155_437 := by
  refine s_Ast (t := 0) rfl q_iast rfl (by decide) D155_437 ?_
  refine s_Inc gk6 sk6 (show 6 < 9 from by decide) kc_i_1 D155_438 ?_
  exact s_Go (pc' := 400) D155_441.1 (by decide) (s_Jb rfl)
theorem P155_430 : rSnd lab M155 430 B155_430 := by
  refine s_Al gk0 (Or.inr ⟨0, D155_430, rfl⟩) ?_
  refine s_Gf (ci := 20) (r := ("WordWrightModel$Equations", kT20, 6)) rfl (show 4 < 6 from by decide) rfl (Or.inl wd1933) (Or.inl rfl) rfl D155_431 ?_
  refine s_Il gk6 (Or.inl D155_434) ?_
  refine s_Ial D155_436 ?_
  exact P155_437
theorem P155_400 : rSnd lab M155 400 B155_400 := by
  refine s_Il gk6 (Or.inl D155_400) ?_
  refine s_ic D155_402 kc_i_4 (by decide) ?_
  refine s_Ic c_ge (i_ge (tg := 444) (by decide)) D155_403.1 P155_444 (?_ : rSnd _ _ 406 _)
  refine s_Al gk0 (Or.inr ⟨0, D155_406, rfl⟩) ?_
  refine s_Gf (ci := 20) (r := ("WordWrightModel$Equations", kT20, 6)) rfl (show 4 < 6 from by decide) rfl (Or.inl wd1933) (Or.inl rfl) rfl D155_407 ?_
  refine s_Il gk6 (Or.inl D155_410) ?_
  refine s_Al gk1 (Or.inr ⟨1, D155_412, rfl⟩) ?_
  refine s_Il gk6 (Or.inl D155_413) ?_
  refine s_Ial D155_415 ?_
  refine s_Il gk2 (Or.inr ⟨2, D155_416, rfl⟩) ?_
  refine s_Ic c_ne (i_ne (tg := 430) (by decide)) D155_417.1 P155_430 (?_ : rSnd _ _ 420 _)
  refine s_Al gk4 (Or.inl D155_420) ?_
  refine s_ic D155_422 kc_i_2 (by decide) ?_
  refine s_Il gk6 (Or.inl D155_423) ?_
  refine s_Bin q_iadd n_add rG2_x e_add D155_425 ?_
  refine s_Ial D155_426 ?_
  exact s_Go (pc' := 437) D155_427.1 (by decide) P155_437
theorem P155_374 : rSnd lab M155 374 B155_374 := by
  refine s_Al gk0 (Or.inr ⟨0, D155_374, rfl⟩) ?_
  refine s_ic D155_375 kc_i_0 (by decide) ?_
  refine s_Il gk2 (Or.inr ⟨2, D155_376, rfl⟩) ?_
  refine s_Al gk1 (Or.inr ⟨1, D155_377, rfl⟩) ?_
  refine s_Al gk3 (Or.inr ⟨3, D155_378, rfl⟩) ?_
  refine s_Al gk4 (Or.inl D155_379) ?_
  refine s_Cv (ln := 3) (kd := 42) (C := "WordWrightModel$Equations") (by decide) (by decide +kernel) rfl (l_V rfl ok153 rfl wd2646 wd2648 ws74 D155_381.1) (?_ : rSnd _ _ 384 _)
  refine s_Al gk0 (Or.inr ⟨0, D155_384, rfl⟩) ?_
  refine s_Dup D155_385 ?_
  refine s_Gf (ci := 20) (r := ("WordWrightModel$Equations", kT20, 6)) rfl (show 5 < 6 from by decide) rfl (Or.inl wd1935) (Or.inl rfl) rfl D155_386 ?_
  refine s_Al gk4 (Or.inl D155_389) ?_
  refine s_ic D155_391 kc_i_0 (by decide) ?_
  refine s_Ial D155_392 ?_
  refine s_Bin q_imul n_mul rG2_x rE2_x D155_393 ?_
  refine s_Pf (ci := 20) (r := ("WordWrightModel$Equations", kT20, 6)) rfl (show 5 < 6 from by decide) rfl (Or.inl ⟨rfl, Or.inl wd1935⟩) (Or.inl rfl) rfl (by decide) D155_394 ?_
  refine s_ic D155_397 kc_i_0 (by decide) ?_
  refine s_Is sk6 (show 6 < 9 from by decide) (Or.inl D155_398) ?_
  exact P155_400
theorem P155_366 : rSnd lab M155 366 B155_366 := by
  refine s_Il gk5 (Or.inl D155_366) ?_
  refine s_If c_ne (fun _ => rfl) (fun _ _ => rfl) (b_ne (tg := 374) (by decide)) D155_368.1 P155_374 (?_ : rSnd _ _ 371 _)
  exact rSnd_none
theorem P155_357 : rSnd lab M155 357 B155_357 := by
  refine s_Bin q_ior n_or rG2_x rE2_x D155_357 ?_
  refine s_Is sk5 (show 5 < 9 from by decide) (Or.inl D155_358) ?_
  refine s_Inc gk6 sk6 (show 6 < 9 from by decide) kc_i_1 D155_360 ?_
  exact s_Go (pc' := 336) D155_363.1 (by decide) (s_Jb rfl)
theorem P155_356 : rSnd lab M155 356 B155_356 := by
  refine s_ic D155_356 kc_i_0 (by decide) ?_
  exact P155_357
theorem P155_336 : rSnd lab M155 336 B155_336 := by
  refine s_Il gk6 (Or.inl D155_336) ?_
  refine s_ic D155_338 kc_i_4 (by decide) ?_
  refine s_Ic c_ge (i_ge (tg := 366) (by decide)) D155_339.1 P155_366 (?_ : rSnd _ _ 342 _)
  refine s_Il gk5 (Or.inl D155_342) ?_
  refine s_Al gk1 (Or.inr ⟨1, D155_344, rfl⟩) ?_
  refine s_Il gk6 (Or.inl D155_345) ?_
  refine s_Ial D155_347 ?_
  refine s_Il gk2 (Or.inr ⟨2, D155_348, rfl⟩) ?_
  refine s_Ic c_ne (i_ne (tg := 356) (by decide)) D155_349.1 P155_356 (?_ : rSnd _ _ 352 _)
  refine s_ic D155_352 kc_i_1 (by decide) ?_
  exact s_Go (pc' := 357) D155_353.1 (by decide) P155_357
theorem P155_290 : rSnd lab M155 290 B155_290 := by
  refine s_Il gk2 (Or.inr ⟨2, D155_290, rfl⟩) ?_
  refine s_ic D155_291 kc_i_4 (by decide) ?_
  refine s_Ic c_ge (i_ge (tg := 450) (by decide)) D155_292.1 P155_450 (?_ : rSnd _ _ 295 _)
  refine s_ic D155_295 kc_i_4 (by decide) ?_
  refine s_Nwa (t := 0) rfl (q_newa (at_ := .int) (Or.inl rfl)) (fun ht _ => ht _ wd91) D155_296 ?_
  refine s_As sk3 (show 3 < 9 from by decide) (Or.inr ⟨3, D155_298, rfl⟩) ?_
  refine s_bi D155_299 kc_b_6 (by decide) ?_
  refine s_Nwa (t := 0) rfl (q_newa (at_ := .int) (Or.inl rfl)) (fun ht _ => ht _ wd91) D155_301 ?_
  refine s_Dup D155_303 ?_
  refine s_ic D155_304 kc_i_0 (by decide) ?_
  refine s_ic D155_305 kc_i_0 (by decide) ?_
  refine s_Ast (t := 0) rfl q_iast rfl (by decide) D155_306 ?_
  refine s_Dup D155_307 ?_
  refine s_ic D155_308 kc_i_1 (by decide) ?_
  refine s_ld rfl wd2645 D155_309 kc_I_2147483647 (by decide) ?_
  refine s_Ast (t := 0) rfl q_iast rfl (by decide) D155_311 ?_
  refine s_Dup D155_312 ?_
  refine s_ic D155_313 kc_i_2 (by decide) ?_
  refine s_ic D155_314 kc_i_0 (by decide) ?_
  refine s_Ast (t := 0) rfl q_iast rfl (by decide) D155_315 ?_
  refine s_Dup D155_316 ?_
  refine s_ic D155_317 kc_i_3 (by decide) ?_
  refine s_ic D155_318 kc_i_0 (by decide) ?_
  refine s_Ast (t := 0) rfl q_iast rfl (by decide) D155_319 ?_
  refine s_Dup D155_320 ?_
  refine s_ic D155_321 kc_i_4 (by decide) ?_
  refine s_ic D155_322 kc_i_0 (by decide) ?_
  refine s_Ast (t := 0) rfl q_iast rfl (by decide) D155_323 ?_
  refine s_Dup D155_324 ?_
  refine s_ic D155_325 kc_i_5 (by decide) ?_
  refine s_ic D155_326 kc_i_0 (by decide) ?_
  refine s_Ast (t := 0) rfl q_iast rfl (by decide) D155_327 ?_
  refine s_As sk4 (show 4 < 9 from by decide) (Or.inl D155_328) ?_
  refine s_ic D155_330 kc_i_0 (by decide) ?_
  refine s_Is sk5 (show 5 < 9 from by decide) (Or.inl D155_331) ?_
  refine s_ic D155_333 kc_i_0 (by decide) ?_
  refine s_Is sk6 (show 6 < 9 from by decide) (Or.inl D155_334) ?_
  exact P155_336
theorem P155_288 : rSnd lab M155 288 B155_288 := by
  refine s_ic D155_288 kc_i_0 (by decide) ?_
  refine s_Is sk2 (show 2 < 9 from by decide) (Or.inr ⟨2, D155_289, rfl⟩) ?_
  exact P155_290
theorem P155_42 : rSnd lab M155 42 B155_42 := by
  refine s_ic D155_42 kc_i_4 (by decide) ?_
  refine s_Nwa (t := 0) rfl (q_newa (at_ := .int) (Or.inl rfl)) (fun ht _ => ht _ wd91) D155_43 ?_
  refine s_Dup D155_45 ?_
  refine s_ic D155_46 kc_i_0 (by decide) ?_
  refine s_ic D155_47 kc_i_0 (by decide) ?_
  refine s_Ast (t := 0) rfl q_iast rfl (by decide) D155_48 ?_
  refine s_Dup D155_49 ?_
  refine s_ic D155_50 kc_i_1 (by decide) ?_
  refine s_ic D155_51 kc_i_1 (by decide) ?_
  refine s_Ast (t := 0) rfl q_iast rfl (by decide) D155_52 ?_
  refine s_Dup D155_53 ?_
  refine s_ic D155_54 kc_i_2 (by decide) ?_
  refine s_ic D155_55 kc_i_2 (by decide) ?_
  refine s_Ast (t := 0) rfl q_iast rfl (by decide) D155_56 ?_
  refine s_Dup D155_57 ?_
  refine s_ic D155_58 kc_i_3 (by decide) ?_
  refine s_ic D155_59 kc_i_3 (by decide) ?_
  refine s_Ast (t := 0) rfl q_iast rfl (by decide) D155_60 ?_
  refine s_As sk1 (show 1 < 9 from by decide) (Or.inr ⟨1, D155_61, rfl⟩) ?_
  refine s_ic D155_62 kc_i_0 (by decide) ?_
  refine s_Is sk2 (show 2 < 9 from by decide) (Or.inr ⟨2, D155_63, rfl⟩) ?_
  refine s_Il gk2 (Or.inr ⟨2, D155_64, rfl⟩) ?_
  refine s_Al gk0 (Or.inr ⟨0, D155_65, rfl⟩) ?_
  refine s_Gf (ci := 20) (r := ("WordWrightModel$Equations", kT20, 6)) rfl (show 0 < 6 from by decide) rfl (Or.inl wd1926) (Or.inl rfl) rfl D155_66 ?_
  refine s_Cv (ln := 5) (kd := 50) (C := "java/util/ArrayList") (by decide) (by decide +kernel) rfl (l_F (C := "java/util/ArrayList") (x := ({ cls := "java/util/List", name := "size", desc := "()I" } : Jvm.MethodName)) (ci := 24) (r := ("java/util/ArrayList", kT24, 3)) rfl rfl rfl ok15 rfl rfl (by decide) (List.mem_of_getElem? (i := 4) rfl) wd2631 wd2078 wd2076 D155_69.1) (?_ : rSnd _ _ 74 _)
  refine s_Ic c_ge (i_ge (tg := 288) (by decide)) D155_74.1 P155_288 (?_ : rSnd _ _ 77 _)
  exact rSnd_none
theorem P155_14 : rSnd lab M155 14 B155_14 := by
  refine s_Il gk1 (Or.inr ⟨1, D155_14, rfl⟩) ?_
  refine s_ic D155_15 kc_i_4 (by decide) ?_
  refine s_Ic c_ge (i_ge (tg := 42) (by decide)) D155_16.1 P155_42 (?_ : rSnd _ _ 19 _)
  refine s_Al gk0 (Or.inr ⟨0, D155_19, rfl⟩) ?_
  refine s_Gf (ci := 20) (r := ("WordWrightModel$Equations", kT20, 6)) rfl (show 3 < 6 from by decide) rfl (Or.inl wd1932) (Or.inl rfl) rfl D155_20 ?_
  refine s_Il gk1 (Or.inr ⟨1, D155_23, rfl⟩) ?_
  refine s_Al gk0 (Or.inr ⟨0, D155_24, rfl⟩) ?_
  refine s_Il gk1 (Or.inr ⟨1, D155_25, rfl⟩) ?_
  refine s_Al gk0 (Or.inr ⟨0, D155_26, rfl⟩) ?_
  refine s_Gf (ci := 20) (r := ("WordWrightModel$Equations", kT20, 6)) rfl (show 2 < 6 from by decide) rfl (Or.inl wd1930) (Or.inl rfl) rfl D155_27 ?_
  refine s_Il gk1 (Or.inr ⟨1, D155_30, rfl⟩) ?_
  refine s_Ial D155_31 ?_
  refine s_Cv (ln := 3) (kd := 42) (C := "WordWrightModel$Equations") (by decide) (by decide +kernel) rfl (l_V rfl ok156 rfl wd2622 wd2623 wd2624 D155_32.1) (?_ : rSnd _ _ 35 _)
  refine s_Aas okAs_ok D155_35 ?_
  refine s_Inc gk1 sk1 (show 1 < 9 from by decide) kc_i_1 D155_36 ?_
  exact s_Go (pc' := 14) D155_39.1 (by decide) (s_Jb rfl)
theorem P155_0 : rSnd lab M155 0 B155_0 := by
  refine s_Ent ?_
  refine s_Al gk0 (Or.inr ⟨0, D155_0, rfl⟩) ?_
  refine s_ic D155_1 kc_i_4 (by decide) ?_
  refine s_Nwa (t := 0) rfl (q_newa (at_ := .int) (Or.inl rfl)) (fun ht _ => ht _ wd91) D155_2 ?_
  refine s_Pf (ci := 20) (r := ("WordWrightModel$Equations", kT20, 6)) rfl (show 4 < 6 from by decide) rfl (Or.inl ⟨rfl, Or.inl wd1933⟩) (Or.inl rfl) rfl (by decide) D155_4 ?_
  refine s_Al gk0 (Or.inr ⟨0, D155_7, rfl⟩) ?_
  refine s_ic D155_8 kc_i_1 (by decide) ?_
  refine s_Pf (ci := 20) (r := ("WordWrightModel$Equations", kT20, 6)) rfl (show 5 < 6 from by decide) rfl (Or.inl ⟨rfl, Or.inl wd1935⟩) (Or.inl rfl) rfl (by decide) D155_9 ?_
  refine s_ic D155_12 kc_i_0 (by decide) ?_
  refine s_Is sk1 (show 1 < 9 from by decide) (Or.inr ⟨1, D155_13, rfl⟩) ?_
  exact P155_14
theorem D156_0 : rDec M156 0 (.bipush 21) 2 2 := ⟨by decide +kernel, rfl⟩
theorem D156_2 : rDec M156 2 (.newarray .int) 2 4 := ⟨by decide +kernel, rfl⟩
theorem D156_4 : rDec M156 4 (.astore_n 3) 1 5 := ⟨by decide +kernel, rfl⟩
theorem D156_5 : rDec M156 5 (.iconst 0) 1 6 := ⟨by decide +kernel, rfl⟩
theorem D156_6 : rDec M156 6 (.istore 4) 2 8 := ⟨by decide +kernel, rfl⟩
theorem D156_8 : rDec M156 8 (.iconst 1) 1 9 := ⟨by decide +kernel, rfl⟩
theorem D156_9 : rDec M156 9 (.istore 5) 2 11 := ⟨by decide +kernel, rfl⟩
theorem D156_11 : rDec M156 11 (.iload 5) 2 13 := ⟨by decide +kernel, rfl⟩
theorem D156_13 : rDec M156 13 (.bipush 32) 2 15 := ⟨by decide +kernel, rfl⟩
theorem D156_15 : rDec M156 15 (.if_icmp .ge 49) 3 18 := ⟨by decide +kernel, rfl⟩
theorem D156_18 : rDec M156 18 (.iload 5) 2 20 := ⟨by decide +kernel, rfl⟩
theorem D156_20 : rDec M156 20 (.invokestatic 36) 3 23 := ⟨by decide +kernel, rfl⟩
theorem D156_23 : rDec M156 23 (.ifCond .eq 35) 3 26 := ⟨by decide +kernel, rfl⟩
theorem D156_26 : rDec M156 26 (.iload 5) 2 28 := ⟨by decide +kernel, rfl⟩
theorem D156_28 : rDec M156 28 (.invokestatic 40) 3 31 := ⟨by decide +kernel, rfl⟩
theorem D156_31 : rDec M156 31 (.iload_n 2) 1 32 := ⟨by decide +kernel, rfl⟩
theorem D156_32 : rDec M156 32 (.if_icmp .gt 26) 3 35 := ⟨by decide +kernel, rfl⟩
theorem D156_35 : rDec M156 35 (.aload_n 0) 1 36 := ⟨by decide +kernel, rfl⟩
theorem D156_36 : rDec M156 36 (.getfield 20) 3 39 := ⟨by decide +kernel, rfl⟩
theorem D156_39 : rDec M156 39 (.iload_n 1) 1 40 := ⟨by decide +kernel, rfl⟩
theorem D156_40 : rDec M156 40 (.aaload) 1 41 := ⟨by decide +kernel, rfl⟩
theorem D156_41 : rDec M156 41 (.iload 5) 2 43 := ⟨by decide +kernel, rfl⟩
theorem D156_43 : rDec M156 43 (.invokevirtual 44) 3 46 := ⟨by decide +kernel, rfl⟩
theorem D156_46 : rDec M156 46 (.ifCond .eq 12) 3 49 := ⟨by decide +kernel, rfl⟩
theorem D156_49 : rDec M156 49 (.aload_n 3) 1 50 := ⟨by decide +kernel, rfl⟩
theorem D156_50 : rDec M156 50 (.iload 4) 2 52 := ⟨by decide +kernel, rfl⟩
theorem D156_52 : rDec M156 52 (.iinc 4 1) 3 55 := ⟨by decide +kernel, rfl⟩
theorem D156_55 : rDec M156 55 (.iload 5) 2 57 := ⟨by decide +kernel, rfl⟩
theorem D156_57 : rDec M156 57 (.iastore) 1 58 := ⟨by decide +kernel, rfl⟩
theorem D156_58 : rDec M156 58 (.iinc 5 1) 3 61 := ⟨by decide +kernel, rfl⟩
theorem D156_61 : rDec M156 61 (.goto (-50)) 3 64 := ⟨by decide +kernel, rfl⟩
theorem D156_64 : rDec M156 64 (.iload 4) 2 66 := ⟨by decide +kernel, rfl⟩
theorem D156_66 : rDec M156 66 (.newarray .int) 2 68 := ⟨by decide +kernel, rfl⟩
theorem D156_68 : rDec M156 68 (.astore 5) 2 70 := ⟨by decide +kernel, rfl⟩
theorem D156_70 : rDec M156 70 (.aload_n 3) 1 71 := ⟨by decide +kernel, rfl⟩
theorem D156_71 : rDec M156 71 (.iconst 0) 1 72 := ⟨by decide +kernel, rfl⟩
theorem D156_72 : rDec M156 72 (.aload 5) 2 74 := ⟨by decide +kernel, rfl⟩
theorem D156_74 : rDec M156 74 (.iconst 0) 1 75 := ⟨by decide +kernel, rfl⟩
theorem D156_75 : rDec M156 75 (.iload 4) 2 77 := ⟨by decide +kernel, rfl⟩
theorem D156_77 : rDec M156 77 (.invokestatic 47) 3 80 := ⟨by decide +kernel, rfl⟩
theorem D156_80 : rDec M156 80 (.aload 5) 2 82 := ⟨by decide +kernel, rfl⟩
theorem D156_82 : rDec M156 82 (.areturn) 1 83 := ⟨by decide +kernel, rfl⟩
theorem P156_64 : rSnd lab M156 64 B156_64 := by
  refine s_Il gk4 (Or.inl D156_64) ?_
  refine s_Nwa (t := 0) rfl (q_newa (at_ := .int) (Or.inl rfl)) (fun ht _ => ht _ wd91) D156_66 ?_
  refine s_As sk5 (show 5 < 6 from by decide) (Or.inl D156_68) ?_
  refine s_Al gk3 (Or.inr ⟨3, D156_70, rfl⟩) ?_
  refine s_ic D156_71 kc_i_0 (by decide) ?_
  refine s_Al gk5 (Or.inl D156_72) ?_
  refine s_ic D156_74 kc_i_0 (by decide) ?_
  refine s_Il gk4 (Or.inl D156_75) ?_
  refine s_Cpy rfl wd2629 wd584 wd583 wd17 D156_77 ?_
  refine s_Al gk5 (Or.inl D156_80) ?_
  exact s_Ra (Or.inr ⟨_, rfl⟩) D156_82.1
theorem P156_58 : rSnd lab M156 58 B156_58 := by
  refine s_Inc gk5 sk5 (show 5 < 6 from by decide) kc_i_1 D156_58 ?_
  exact s_Go (pc' := 11) D156_61.1 (by decide) (s_Jb rfl)
theorem P156_11 : rSnd lab M156 11 B156_11 := by
  refine s_Il gk5 (Or.inl D156_11) ?_
  refine s_bi D156_13 kc_b_32 (by decide) ?_
  refine s_Ic c_ge (i_ge (tg := 64) (by decide)) D156_15.1 P156_64 (?_ : rSnd _ _ 18 _)
  refine s_Il gk5 (Or.inl D156_18) ?_
  refine s_Cs (id := 255) rfl (l_SN (j := 20) rfl ok189 rfl rfl wd2394 D156_20.1) (?_ : rSnd _ _ 23 _)
  refine s_If c_eq (fun _ => rfl) (fun _ _ => rfl) (b_eq (tg := 58) (by decide)) D156_23.1 P156_58 (?_ : rSnd _ _ 26 _)
  refine s_Il gk5 (Or.inl D156_26) ?_
  refine s_Cs (id := 262) rfl (l_SN (j := 19) rfl ok194 rfl rfl wd2401 D156_28.1) (?_ : rSnd _ _ 31 _)
  refine s_Il gk2 (Or.inr ⟨2, D156_31, rfl⟩) ?_
  refine s_Ic c_gt (i_gt (tg := 58) (by decide)) D156_32.1 P156_58 (?_ : rSnd _ _ 35 _)
  refine s_Al gk0 (Or.inr ⟨0, D156_35, rfl⟩) ?_
  refine s_Gf (ci := 20) (r := ("WordWrightModel$Equations", kT20, 6)) rfl (show 1 < 6 from by decide) rfl (Or.inl wd1928) (Or.inl rfl) rfl D156_36 ?_
  refine s_Il gk1 (Or.inr ⟨1, D156_39, rfl⟩) ?_
  refine s_Aal D156_40 ?_
  refine s_Il gk5 (Or.inl D156_41) ?_
  refine s_Cv (ln := 3) (kd := 40) (C := "WordWrightModel$Dfa") (by decide) (by decide +kernel) rfl (l_V rfl ok148 rfl wd2628 wd2397 wd2398 D156_43.1) (?_ : rSnd _ _ 46 _)
  refine s_If c_eq (fun _ => rfl) (fun _ _ => rfl) (b_eq (tg := 58) (by decide)) D156_46.1 P156_58 (?_ : rSnd _ _ 49 _)
  refine s_Al gk3 (Or.inr ⟨3, D156_49, rfl⟩) ?_
  refine s_Il gk4 (Or.inl D156_50) ?_
  refine s_Inc gk4 sk4 (show 4 < 6 from by decide) kc_i_1 D156_52 ?_
  refine s_Il gk5 (Or.inl D156_55) ?_
  refine s_Ast (t := 0) rfl q_iast rfl (by decide) D156_57 ?_
  exact P156_58
theorem P156_0 : rSnd lab M156 0 B156_0 := by
  refine s_Ent ?_
  refine s_bi D156_0 kc_b_21 (by decide) ?_
  refine s_Nwa (t := 0) rfl (q_newa (at_ := .int) (Or.inl rfl)) (fun ht _ => ht _ wd91) D156_2 ?_
  refine s_As sk3 (show 3 < 6 from by decide) (Or.inr ⟨3, D156_4, rfl⟩) ?_
  refine s_ic D156_5 kc_i_0 (by decide) ?_
  refine s_Is sk4 (show 4 < 6 from by decide) (Or.inl D156_6) ?_
  refine s_ic D156_8 kc_i_1 (by decide) ?_
  refine s_Is sk5 (show 5 < 6 from by decide) (Or.inl D156_9) ?_
  exact P156_11
theorem D157_0 : rDec M157 0 (.aload_n 0) 1 1 := ⟨by decide +kernel, rfl⟩
theorem D157_1 : rDec M157 1 (.invokespecial 1) 3 4 := ⟨by decide +kernel, rfl⟩
theorem D157_4 : rDec M157 4 (.aload_n 0) 1 5 := ⟨by decide +kernel, rfl⟩
theorem D157_5 : rDec M157 5 (.bipush 10) 2 7 := ⟨by decide +kernel, rfl⟩
theorem D157_7 : rDec M157 7 (.newarray .int) 2 9 := ⟨by decide +kernel, rfl⟩
theorem D157_9 : rDec M157 9 (.putfield 7) 3 12 := ⟨by decide +kernel, rfl⟩
theorem D157_12 : rDec M157 12 (.aload_n 0) 1 13 := ⟨by decide +kernel, rfl⟩
theorem D157_13 : rDec M157 13 (.bipush 10) 2 15 := ⟨by decide +kernel, rfl⟩
theorem D157_15 : rDec M157 15 (.newarray .int) 2 17 := ⟨by decide +kernel, rfl⟩
theorem D157_17 : rDec M157 17 (.putfield 13) 3 20 := ⟨by decide +kernel, rfl⟩
theorem D157_20 : rDec M157 20 (.aload_n 0) 1 21 := ⟨by decide +kernel, rfl⟩
theorem D157_21 : rDec M157 21 (.bipush 10) 2 23 := ⟨by decide +kernel, rfl⟩
theorem D157_23 : rDec M157 23 (.newarray .int) 2 25 := ⟨by decide +kernel, rfl⟩
theorem D157_25 : rDec M157 25 (.putfield 16) 3 28 := ⟨by decide +kernel, rfl⟩
theorem D157_28 : rDec M157 28 (.aload_n 0) 1 29 := ⟨by decide +kernel, rfl⟩
theorem D157_29 : rDec M157 29 (.bipush 10) 2 31 := ⟨by decide +kernel, rfl⟩
theorem D157_31 : rDec M157 31 (.newarray .int) 2 33 := ⟨by decide +kernel, rfl⟩
theorem D157_33 : rDec M157 33 (.putfield 19) 3 36 := ⟨by decide +kernel, rfl⟩
theorem D157_36 : rDec M157 36 (.return_) 1 37 := ⟨by decide +kernel, rfl⟩
theorem P157_0 : rSnd lab M157 0 B157_0 := by
  refine s_Ent ?_
  refine s_Al gk0 (Or.inr ⟨0, D157_0, rfl⟩) ?_
  refine s_Oi rfl wd2422 wd62 wd63 D157_1 ?_
  refine s_Al gk0 (Or.inr ⟨0, D157_4, rfl⟩) ?_
  refine s_bi D157_5 kc_b_10 (by decide) ?_
  refine s_Nwa (t := 0) rfl (q_newa (at_ := .int) (Or.inl rfl)) (fun ht _ => ht _ wd91) D157_7 ?_
  refine s_Pf (ci := 21) (r := ("WordWrightModel$Machine", kT21, 6)) rfl (show 0 < 6 from by decide) rfl (Or.inr ⟨rfl, wd2423, rfl, rfl⟩) (Or.inl rfl) rfl (by decide) D157_9 ?_
  refine s_Al gk0 (Or.inr ⟨0, D157_12, rfl⟩) ?_
  refine s_bi D157_13 kc_b_10 (by decide) ?_
  refine s_Nwa (t := 0) rfl (q_newa (at_ := .int) (Or.inl rfl)) (fun ht _ => ht _ wd91) D157_15 ?_
  refine s_Pf (ci := 21) (r := ("WordWrightModel$Machine", kT21, 6)) rfl (show 1 < 6 from by decide) rfl (Or.inr ⟨rfl, wd2429, rfl, rfl⟩) (Or.inl rfl) rfl (by decide) D157_17 ?_
  refine s_Al gk0 (Or.inr ⟨0, D157_20, rfl⟩) ?_
  refine s_bi D157_21 kc_b_10 (by decide) ?_
  refine s_Nwa (t := 0) rfl (q_newa (at_ := .int) (Or.inl rfl)) (fun ht _ => ht _ wd91) D157_23 ?_
  refine s_Pf (ci := 21) (r := ("WordWrightModel$Machine", kT21, 6)) rfl (show 2 < 6 from by decide) rfl (Or.inr ⟨rfl, wd2435, rfl, rfl⟩) (Or.inl rfl) rfl (by decide) D157_25 ?_
  refine s_Al gk0 (Or.inr ⟨0, D157_28, rfl⟩) ?_
  refine s_bi D157_29 kc_b_10 (by decide) ?_
  refine s_Nwa (t := 0) rfl (q_newa (at_ := .int) (Or.inl rfl)) (fun ht _ => ht _ wd91) D157_31 ?_
  refine s_Pf (ci := 21) (r := ("WordWrightModel$Machine", kT21, 6)) rfl (show 3 < 6 from by decide) rfl (Or.inr ⟨rfl, wd2441, rfl, rfl⟩) (Or.inl rfl) rfl (by decide) D157_33 ?_
  exact s_Rv rfl D157_36.1
theorem D158_0 : rDec M158 0 (.aload_n 0) 1 1 := ⟨by decide +kernel, rfl⟩
theorem D158_1 : rDec M158 1 (.invokespecial 3) 3 4 := ⟨by decide +kernel, rfl⟩
theorem D158_4 : rDec M158 4 (.return_) 1 5 := ⟨by decide +kernel, rfl⟩
theorem P158_0 : rSnd lab M158 0 B158_0 := by
  refine s_Ent ?_
  refine s_Al gk0 (Or.inr ⟨0, D158_0, rfl⟩) ?_
  refine s_Oi rfl wd2277 wd62 wd63 D158_1 ?_
  exact s_Rv rfl D158_4.1
theorem D159_0 : rDec M159 0 (.iconst 1) 1 1 := ⟨by decide +kernel, rfl⟩
theorem D159_1 : rDec M159 1 (.ireturn) 1 2 := ⟨by decide +kernel, rfl⟩
theorem P159_0 : rSnd lab M159 0 B159_0 := by
  refine s_Ent ?_
  refine s_ic D159_0 kc_i_1 (by decide) ?_
  exact s_Ri (Or.inr ⟨rfl, by decide⟩) D159_1.1
theorem D160_0 : rDec M160 0 (.aload_n 0) 1 1 := ⟨by decide +kernel, rfl⟩
theorem D160_1 : rDec M160 1 (.invokevirtual 9) 3 4 := ⟨by decide +kernel, rfl⟩
theorem D160_4 : rDec M160 4 (.istore_n 1) 1 5 := ⟨by decide +kernel, rfl⟩
theorem D160_5 : rDec M160 5 (.iload_n 1) 1 6 := ⟨by decide +kernel, rfl⟩
theorem D160_6 : rDec M160 6 (.newarray .boolean) 2 8 := ⟨by decide +kernel, rfl⟩
theorem D160_8 : rDec M160 8 (.astore_n 2) 1 9 := ⟨by decide +kernel, rfl⟩
theorem D160_9 : rDec M160 9 (.iload_n 1) 1 10 := ⟨by decide +kernel, rfl⟩
theorem D160_10 : rDec M160 10 (.newarray .int) 2 12 := ⟨by decide +kernel, rfl⟩
theorem D160_12 : rDec M160 12 (.astore_n 3) 1 13 := ⟨by decide +kernel, rfl⟩
theorem D160_13 : rDec M160 13 (.aload_n 0) 1 14 := ⟨by decide +kernel, rfl⟩
theorem D160_14 : rDec M160 14 (.invokevirtual 15) 3 17 := ⟨by decide +kernel, rfl⟩
theorem D160_17 : rDec M160 17 (.astore 4) 2 19 := ⟨by decide +kernel, rfl⟩
theorem D160_19 : rDec M160 19 (.iconst 0) 1 20 := ⟨by decide +kernel, rfl⟩
theorem D160_20 : rDec M160 20 (.istore 5) 2 22 := ⟨by decide +kernel, rfl⟩
theorem D160_22 : rDec M160 22 (.iload 5) 2 24 := ⟨by decide +kernel, rfl⟩
theorem D160_24 : rDec M160 24 (.iload_n 1) 1 25 := ⟨by decide +kernel, rfl⟩
theorem D160_25 : rDec M160 25 (.if_icmp .ge 48) 3 28 := ⟨by decide +kernel, rfl⟩
theorem D160_28 : rDec M160 28 (.aload 4) 2 30 := ⟨by decide +kernel, rfl⟩
theorem D160_30 : rDec M160 30 (.iload 5) 2 32 := ⟨by decide +kernel, rfl⟩
theorem D160_32 : rDec M160 32 (.baload) 1 33 := ⟨by decide +kernel, rfl⟩
theorem D160_33 : rDec M160 33 (.ifCond .ne 6) 3 36 := ⟨by decide +kernel, rfl⟩
theorem D160_39 : rDec M160 39 (.aload_n 0) 1 40 := ⟨by decide +kernel, rfl⟩
theorem D160_40 : rDec M160 40 (.invokevirtual 19) 3 43 := ⟨by decide +kernel, rfl⟩
theorem D160_43 : rDec M160 43 (.ifCond .eq 19) 3 46 := ⟨by decide +kernel, rfl⟩
theorem D160_46 : rDec M160 46 (.aload_n 2) 1 47 := ⟨by decide +kernel, rfl⟩
theorem D160_47 : rDec M160 47 (.iload 5) 2 49 := ⟨by decide +kernel, rfl⟩
theorem D160_49 : rDec M160 49 (.iconst 1) 1 50 := ⟨by decide +kernel, rfl⟩
theorem D160_50 : rDec M160 50 (.bastore) 1 51 := ⟨by decide +kernel, rfl⟩
theorem D160_51 : rDec M160 51 (.aload_n 0) 1 52 := ⟨by decide +kernel, rfl⟩
theorem D160_52 : rDec M160 52 (.iload 5) 2 54 := ⟨by decide +kernel, rfl⟩
theorem D160_54 : rDec M160 54 (.invokevirtual 23) 3 57 := ⟨by decide +kernel, rfl⟩
theorem D160_57 : rDec M160 57 (.ifCond .eq 5) 3 60 := ⟨by decide +kernel, rfl⟩
theorem D160_60 : rDec M160 60 (.iconst 1) 1 61 := ⟨by decide +kernel, rfl⟩
theorem D160_61 : rDec M160 61 (.ireturn) 1 62 := ⟨by decide +kernel, rfl⟩
theorem D160_62 : rDec M160 62 (.aload_n 3) 1 63 := ⟨by decide +kernel, rfl⟩
theorem D160_63 : rDec M160 63 (.iload 5) 2 65 := ⟨by decide +kernel, rfl⟩
theorem D160_65 : rDec M160 65 (.iconst 1) 1 66 := ⟨by decide +kernel, rfl⟩
theorem D160_66 : rDec M160 66 (.iastore) 1 67 := ⟨by decide +kernel, rfl⟩
theorem D160_67 : rDec M160 67 (.iinc 5 1) 3 70 := ⟨by decide +kernel, rfl⟩
theorem D160_70 : rDec M160 70 (.goto (-48)) 3 73 := ⟨by decide +kernel, rfl⟩
theorem D160_73 : rDec M160 73 (.iconst 1) 1 74 := ⟨by decide +kernel, rfl⟩
theorem D160_74 : rDec M160 74 (.istore 5) 2 76 := ⟨by decide +kernel, rfl⟩
theorem D160_76 : rDec M160 76 (.iload_n 1) 1 77 := ⟨by decide +kernel, rfl⟩
theorem D160_77 : rDec M160 77 (.newarray .int) 2 79 := ⟨by decide +kernel, rfl⟩
theorem D160_79 : rDec M160 79 (.astore 6) 2 81 := ⟨by decide +kernel, rfl⟩
theorem D160_81 : rDec M160 81 (.iconst 0) 1 82 := ⟨by decide +kernel, rfl⟩
theorem D160_82 : rDec M160 82 (.istore 7) 2 84 := ⟨by decide +kernel, rfl⟩
theorem D160_84 : rDec M160 84 (.iconst 0) 1 85 := ⟨by decide +kernel, rfl⟩
theorem D160_85 : rDec M160 85 (.istore 8) 2 87 := ⟨by decide +kernel, rfl⟩
theorem D160_87 : rDec M160 87 (.iconst 0) 1 88 := ⟨by decide +kernel, rfl⟩
theorem D160_88 : rDec M160 88 (.istore 9) 2 90 := ⟨by decide +kernel, rfl⟩
theorem D160_90 : rDec M160 90 (.iload 9) 2 92 := ⟨by decide +kernel, rfl⟩
theorem D160_92 : rDec M160 92 (.iload_n 1) 1 93 := ⟨by decide +kernel, rfl⟩
theorem D160_93 : rDec M160 93 (.if_icmp .ge 169) 3 96 := ⟨by decide +kernel, rfl⟩
theorem D160_96 : rDec M160 96 (.aload_n 3) 1 97 := ⟨by decide +kernel, rfl⟩
theorem D160_97 : rDec M160 97 (.iload 9) 2 99 := ⟨by decide +kernel, rfl⟩
theorem D160_99 : rDec M160 99 (.iaload) 1 100 := ⟨by decide +kernel, rfl⟩
theorem D160_100 : rDec M160 100 (.ifCond .ne 6) 3 103 := ⟨by decide +kernel, rfl⟩
theorem D160_106 : rDec M160 106 (.iconst 0) 1 107 := ⟨by decide +kernel, rfl⟩
theorem D160_107 : rDec M160 107 (.istore 10) 2 109 := ⟨by decide +kernel, rfl⟩
theorem D160_109 : rDec M160 109 (.iload 10) 2 111 := ⟨by decide +kernel, rfl⟩
theorem D160_111 : rDec M160 111 (.iconst 4) 1 112 := ⟨by decide +kernel, rfl⟩
theorem D160_112 : rDec M160 112 (.if_icmp .ge 144) 3 115 := ⟨by decide +kernel, rfl⟩
theorem D160_115 : rDec M160 115 (.iload_n 1) 1 116 := ⟨by decide +kernel, rfl⟩
theorem D160_116 : rDec M160 116 (.newarray .boolean) 2 118 := ⟨by decide +kernel, rfl⟩
theorem D160_118 : rDec M160 118 (.astore 11) 2 120 := ⟨by decide +kernel, rfl⟩
theorem D160_120 : rDec M160 120 (.aload 11) 2 122 := ⟨by decide +kernel, rfl⟩
theorem D160_122 : rDec M160 122 (.iload 9) 2 124 := ⟨by decide +kernel, rfl⟩
theorem D160_124 : rDec M160 124 (.iconst 1) 1 125 := ⟨by decide +kernel, rfl⟩
theorem D160_125 : rDec M160 125 (.bastore) 1 126 := ⟨by decide +kernel, rfl⟩
theorem D160_126 : rDec M160 126 (.aload_n 0) 1 127 := ⟨by decide +kernel, rfl⟩
theorem D160_127 : rDec M160 127 (.aload 11) 2 129 := ⟨by decide +kernel, rfl⟩
theorem D160_129 : rDec M160 129 (.iload 10) 2 131 := ⟨by decide +kernel, rfl⟩
theorem D160_131 : rDec M160 131 (.invokevirtual 27) 3 134 := ⟨by decide +kernel, rfl⟩
theorem D160_134 : rDec M160 134 (.astore 12) 2 136 := ⟨by decide +kernel, rfl⟩
theorem D160_136 : rDec M160 136 (.iload 5) 2 138 := ⟨by decide +kernel, rfl⟩
theorem D160_138 : rDec M160 138 (.bipush 10) 2 140 := ⟨by decide +kernel, rfl⟩
theorem D160_140 : rDec M160 140 (.if_icmp .gt 15) 3 143 := ⟨by decide +kernel, rfl⟩
theorem D160_143 : rDec M160 143 (.aload_n 3) 1 144 := ⟨by decide +kernel, rfl⟩
theorem D160_144 : rDec M160 144 (.iload 9) 2 146 := ⟨by decide +kernel, rfl⟩
theorem D160_146 : rDec M160 146 (.iaload) 1 147 := ⟨by decide +kernel, rfl⟩
theorem D160_147 : rDec M160 147 (.iconst 4) 1 148 := ⟨by decide +kernel, rfl⟩
theorem D160_148 : rDec M160 148 (.imul) 1 149 := ⟨by decide +kernel, rfl⟩
theorem D160_149 : rDec M160 149 (.iload 10) 2 151 := ⟨by decide +kernel, rfl⟩
theorem D160_151 : rDec M160 151 (.iadd) 1 152 := ⟨by decide +kernel, rfl⟩
theorem D160_152 : rDec M160 152 (.goto 4) 3 155 := ⟨by decide +kernel, rfl⟩
theorem D160_156 : rDec M160 156 (.istore 13) 2 158 := ⟨by decide +kernel, rfl⟩
theorem D160_158 : rDec M160 158 (.iconst 0) 1 159 := ⟨by decide +kernel, rfl⟩
theorem D160_159 : rDec M160 159 (.istore 14) 2 161 := ⟨by decide +kernel, rfl⟩
theorem D160_161 : rDec M160 161 (.iload 14) 2 163 := ⟨by decide +kernel, rfl⟩
theorem D160_163 : rDec M160 163 (.iload_n 1) 1 164 := ⟨by decide +kernel, rfl⟩
theorem D160_164 : rDec M160 164 (.if_icmp .ge 86) 3 167 := ⟨by decide +kernel, rfl⟩
theorem D160_167 : rDec M160 167 (.aload 12) 2 169 := ⟨by decide +kernel, rfl⟩
theorem D160_169 : rDec M160 169 (.iload 14) 2 171 := ⟨by decide +kernel, rfl⟩
theorem D160_171 : rDec M160 171 (.baload) 1 172 := ⟨by decide +kernel, rfl⟩
theorem D160_172 : rDec M160 172 (.ifCond .eq 72) 3 175 := ⟨by decide +kernel, rfl⟩
theorem D160_175 : rDec M160 175 (.aload_n 2) 1 176 := ⟨by decide +kernel, rfl⟩
theorem D160_176 : rDec M160 176 (.iload 14) 2 178 := ⟨by decide +kernel, rfl⟩
theorem D160_178 : rDec M160 178 (.baload) 1 179 := ⟨by decide +kernel, rfl⟩
theorem D160_179 : rDec M160 179 (.ifCond .eq 6) 3 182 := ⟨by decide +kernel, rfl⟩
theorem D160_182 : rDec M160 182 (.goto 62) 3 185 := ⟨by decide +kernel, rfl⟩
theorem D160_244 : rDec M160 244 (.iinc 14 1) 3 247 := ⟨by decide +kernel, rfl⟩
theorem D160_247 : rDec M160 247 (.goto (-86)) 3 250 := ⟨by decide +kernel, rfl⟩
theorem D160_250 : rDec M160 250 (.iinc 10 1) 3 253 := ⟨by decide +kernel, rfl⟩
theorem D160_253 : rDec M160 253 (.goto (-144)) 3 256 := ⟨by decide +kernel, rfl⟩
theorem D160_256 : rDec M160 256 (.iinc 9 1) 3 259 := ⟨by decide +kernel, rfl⟩
theorem D160_259 : rDec M160 259 (.goto (-169)) 3 262 := ⟨by decide +kernel, rfl⟩
theorem D160_262 : rDec M160 262 (.iload 7) 2 264 := ⟨by decide +kernel, rfl⟩
theorem D160_264 : rDec M160 264 (.ifCond .le 17) 3 267 := ⟨by decide +kernel, rfl⟩
theorem D160_281 : rDec M160 281 (.iload 8) 2 283 := ⟨by decide +kernel, rfl⟩
theorem D160_283 : rDec M160 283 (.ifCond .ne 5) 3 286 := ⟨by decide +kernel, rfl⟩
theorem D160_286 : rDec M160 286 (.iconst 0) 1 287 := ⟨by decide +kernel, rfl⟩
theorem D160_287 : rDec M160 287 (.ireturn) 1 288 := ⟨by decide +kernel, rfl⟩
theorem P160_281 : rSnd lab M160 281 B160_281 := by
  refine s_Il gk8 (Or.inl D160_281) ?_
  refine s_If c_ne (fun _ => rfl) (fun _ _ => rfl) (b_ne (tg := 288) (by decide)) D160_283.1 rSnd_none (?_ : rSnd _ _ 286 _)
  refine s_ic D160_286 kc_i_0 (by decide) ?_
  exact s_Ri (Or.inl rfl) D160_287.1
theorem P160_262 : rSnd lab M160 262 B160_262 := by
  refine s_Il gk7 (Or.inl D160_262) ?_
  refine s_If c_le (fun _ => rfl) (fun _ _ => rfl) (b_le (tg := 281) (by decide)) D160_264.1 P160_281 (?_ : rSnd _ _ 267 _)
  exact rSnd_none
theorem P160_256 : rSnd lab M160 256 B160_256 := by
  refine s_Inc gk9 sk9 (show 9 < 15 from by decide) kc_i_1 D160_256 ?_
  exact s_Go (pc' := 90) D160_259.1 (by decide) (s_Jb rfl)
theorem P160_250 : rSnd lab M160 250 B160_250 := by
  refine s_Inc gk10 sk10 (show 10 < 15 from by decide) kc_i_1 D160_250 ?_
  exact s_Go (pc' := 109) D160_253.1 (by decide) (s_Jb rfl)
theorem P160_244 : rSnd lab M160 244 B160_244 := by
  refine s_Inc gk14 sk14 (show 14 < 15 from by decide) kc_i_1 D160_244 ?_
  exact s_Go (pc' := 161) D160_247.1 (by decide) (s_Jb rfl)
theorem P160_161 : rSnd lab M160 161 B160_161 := by
  refine s_Il gk14 (Or.inl D160_161) ?_
  refine s_Il gk1 (Or.inr ⟨1, D160_163, rfl⟩) ?_
  refine s_Ic c_ge (i_ge (tg := 250) (by decide)) D160_164.1 P160_250 (?_ : rSnd _ _ 167 _)
  refine s_Al gk12 (Or.inl D160_167) ?_
  refine s_Il gk14 (Or.inl D160_169) ?_
  refine s_Ald (t := 1) (ty := .boolean) rfl q_zald rfl D160_171 ?_
  refine s_If c_eq (fun _ => rfl) (fun _ _ => rfl) (b_eq (tg := 244) (by decide)) D160_172.1 P160_244 (?_ : rSnd _ _ 175 _)
  refine s_Al gk2 (Or.inr ⟨2, D160_175, rfl⟩) ?_
  refine s_Il gk14 (Or.inl D160_176) ?_
  refine s_Ald (t := 1) (ty := .boolean) rfl q_zald rfl D160_178 ?_
  refine s_If c_eq (fun _ => rfl) (fun _ _ => rfl) (b_eq (tg := 185) (by decide)) D160_179.1 rSnd_none (?_ : rSnd _ _ 182 _)
  exact s_Go (pc' := 244) D160_182.1 (by decide) P160_244
theorem P160_156 : rSnd lab M160 156 B160_156 := by
  refine s_Is sk13 (show 13 < 15 from by decide) (Or.inl D160_156) ?_
  refine s_ic D160_158 kc_i_0 (by decide) ?_
  refine s_Is sk14 (show 14 < 15 from by decide) (Or.inl D160_159) ?_
  exact P160_161
theorem P160_109 : rSnd lab M160 109 B160_109 := by
  refine s_Il gk10 (Or.inl D160_109) ?_
  refine s_ic D160_111 kc_i_4 (by decide) ?_
  refine s_Ic c_ge (i_ge (tg := 256) (by decide)) D160_112.1 P160_256 (?_ : rSnd _ _ 115 _)
  refine s_Il gk1 (Or.inr ⟨1, D160_115, rfl⟩) ?_
  refine s_Nwa (t := 1) rfl (q_newa (at_ := .boolean) (Or.inr (Or.inr rfl))) (fun ht _ => ht _ wd147) D160_116 ?_
  refine s_As sk11 (show 11 < 15 from by decide) (Or.inl D160_118) ?_
  refine s_Al gk11 (Or.inl D160_120) ?_
  refine s_Il gk9 (Or.inl D160_122) ?_
  refine s_ic D160_124 kc_i_1 (by decide) ?_
  refine s_Ast (t := 1) rfl q_zast rfl (by decide) D160_125 ?_
  refine s_Al gk0 (Or.inr ⟨0, D160_126, rfl⟩) ?_
  refine s_Al gk11 (Or.inl D160_127) ?_
  refine s_Il gk10 (Or.inl D160_129) ?_
  refine s_Cv (ln := 3) (kd := 38) (C := "WordWrightModel$9") (by decide) (by decide +kernel) rfl (l_A (C := "WordWrightModel$9") (owner := "WordWrightModel$Search") (x := ({ cls := "WordWrightModel$Search", name := "go", desc := "([ZI)[Z" } : Jvm.MethodName)) (j := 63) rfl ok143 rfl rfl (by decide) rfl wd2350 wd2352 wd2366 wd2365 D160_131.1) (?_ : rSnd _ _ 134 _)
  refine s_As sk12 (show 12 < 15 from by decide) (Or.inl D160_134) ?_
  refine s_Il gk5 (Or.inl D160_136) ?_
  refine s_bi D160_138 kc_b_10 (by decide) ?_
  refine s_Ic c_gt (i_gt (tg := 155) (by decide)) D160_140.1 rSnd_none (?_ : rSnd _ _ 143 _)
  refine s_Al gk3 (Or.inr ⟨3, D160_143, rfl⟩) ?_
  refine s_Il gk9 (Or.inl D160_144) ?_
  refine s_Ial D160_146 ?_
  refine s_ic D160_147 kc_i_4 (by decide) ?_
  refine s_Bin q_imul n_mul rG2_x rE2_x D160_148 ?_
  refine s_Il gk10 (Or.inl D160_149) ?_
  refine s_Bin q_iadd n_add rG2_x e_add D160_151 ?_
  exact s_Go (pc' := 156) D160_152.1 (by decide) P160_156
theorem P160_106 : rSnd lab M160 106 B160_106 := by
  refine s_ic D160_106 kc_i_0 (by decide) ?_
  refine s_Is sk10 (show 10 < 15 from by decide) (Or.inl D160_107) ?_
  exact P160_109
theorem P160_90 : rSnd lab M160 90 B160_90 := by
  refine s_Il gk9 (Or.inl D160_90) ?_
  refine s_Il gk1 (Or.inr ⟨1, D160_92, rfl⟩) ?_
  refine s_Ic c_ge (i_ge (tg := 262) (by decide)) D160_93.1 P160_262 (?_ : rSnd _ _ 96 _)
  refine s_Al gk3 (Or.inr ⟨3, D160_96, rfl⟩) ?_
  refine s_Il gk9 (Or.inl D160_97) ?_
  refine s_Ial D160_99 ?_
  refine s_If c_ne (fun _ => rfl) (fun _ _ => rfl) (b_ne (tg := 106) (by decide)) D160_100.1 P160_106 (?_ : rSnd _ _ 103 _)
  exact rSnd_none
theorem P160_73 : rSnd lab M160 73 B160_73 := by
  refine s_ic D160_73 kc_i_1 (by decide) ?_
  refine s_Is sk5 (show 5 < 15 from by decide) (Or.inl D160_74) ?_
  refine s_Il gk1 (Or.inr ⟨1, D160_76, rfl⟩) ?_
  refine s_Nwa (t := 0) rfl (q_newa (at_ := .int) (Or.inl rfl)) (fun ht _ => ht _ wd91) D160_77 ?_
  refine s_As sk6 (show 6 < 15 from by decide) (Or.inl D160_79) ?_
  refine s_ic D160_81 kc_i_0 (by decide) ?_
  refine s_Is sk7 (show 7 < 15 from by decide) (Or.inl D160_82) ?_
  refine s_ic D160_84 kc_i_0 (by decide) ?_
  refine s_Is sk8 (show 8 < 15 from by decide) (Or.inl D160_85) ?_
  refine s_ic D160_87 kc_i_0 (by decide) ?_
  refine s_Is sk9 (show 9 < 15 from by decide) (Or.inl D160_88) ?_
  exact P160_90
theorem P160_62 : rSnd lab M160 62 B160_62 := by
  refine s_Al gk3 (Or.inr ⟨3, D160_62, rfl⟩) ?_
  refine s_Il gk5 (Or.inl D160_63) ?_
  refine s_ic D160_65 kc_i_1 (by decide) ?_
  refine s_Ast (t := 0) rfl q_iast rfl (by decide) D160_66 ?_
  refine s_Inc gk5 sk5 (show 5 < 15 from by decide) kc_i_1 D160_67 ?_
  exact s_Go (pc' := 22) D160_70.1 (by decide) (s_Jb rfl)
theorem P160_39 : rSnd lab M160 39 B160_39 := by
  refine s_Al gk0 (Or.inr ⟨0, D160_39, rfl⟩) ?_
  refine s_Cv (ln := 3) (kd := 38) (C := "WordWrightModel$9") (by decide) (by decide +kernel) rfl (l_U (C := "WordWrightModel$9") (owner := "WordWrightModel$Search") (x := ({ cls := "WordWrightModel$Search", name := "isBlankMeant", desc := "()Z" } : Jvm.MethodName)) rfl ok159 rfl rfl wd2328 wd2330 wd2329 wd2335 D160_40.1) (?_ : rSnd _ _ 43 _)
  refine s_If c_eq (fun _ => rfl) (fun _ _ => rfl) (b_eq (tg := 62) (by decide)) D160_43.1 P160_62 (?_ : rSnd _ _ 46 _)
  refine s_Al gk2 (Or.inr ⟨2, D160_46, rfl⟩) ?_
  refine s_Il gk5 (Or.inl D160_47) ?_
  refine s_ic D160_49 kc_i_1 (by decide) ?_
  refine s_Ast (t := 1) rfl q_zast rfl (by decide) D160_50 ?_
  refine s_Al gk0 (Or.inr ⟨0, D160_51, rfl⟩) ?_
  refine s_Il gk5 (Or.inl D160_52) ?_
  refine s_Cv (ln := 3) (kd := 38) (C := "WordWrightModel$9") (by decide) (by decide +kernel) rfl (l_A (C := "WordWrightModel$9") (owner := "WordWrightModel$Search") (x := ({ cls := "WordWrightModel$Search", name := "isWished", desc := "(I)Z" } : Jvm.MethodName)) (j := 62) rfl ok145 rfl rfl (by decide) rfl wd2337 wd2339 wd2348 wd2347 D160_54.1) (?_ : rSnd _ _ 57 _)
  refine s_If c_eq (fun _ => rfl) (fun _ _ => rfl) (b_eq (tg := 62) (by decide)) D160_57.1 P160_62 (?_ : rSnd _ _ 60 _)
  refine s_ic D160_60 kc_i_1 (by decide) ?_
  exact s_Ri (Or.inl rfl) D160_61.1
theorem P160_22 : rSnd lab M160 22 B160_22 := by
  refine s_Il gk5 (Or.inl D160_22) ?_
  refine s_Il gk1 (Or.inr ⟨1, D160_24, rfl⟩) ?_
  refine s_Ic c_ge (i_ge (tg := 73) (by decide)) D160_25.1 P160_73 (?_ : rSnd _ _ 28 _)
  refine s_Al gk4 (Or.inl D160_28) ?_
  refine s_Il gk5 (Or.inl D160_30) ?_
  refine s_Ald (t := 1) (ty := .boolean) rfl q_zald rfl D160_32 ?_
  refine s_If c_ne (fun _ => rfl) (fun _ _ => rfl) (b_ne (tg := 39) (by decide)) D160_33.1 P160_39 (?_ : rSnd _ _ 36 _)
  exact rSnd_none
theorem P160_0 : rSnd lab M160 0 B160_0 := by
  refine s_Ent ?_
  refine s_Al gk0 (Or.inr ⟨0, D160_0, rfl⟩) ?_
  refine s_Cv (ln := 3) (kd := 38) (C := "WordWrightModel$9") (by decide) (by decide +kernel) rfl (l_A (C := "WordWrightModel$9") (owner := "WordWrightModel$Search") (x := ({ cls := "WordWrightModel$Search", name := "size", desc := "()I" } : Jvm.MethodName)) (j := 60) rfl ok146 rfl rfl (by decide) rfl wd2291 wd2293 wd2301 wd2300 D160_1.1) (?_ : rSnd _ _ 4 _)
  refine s_Is sk1 (show 1 < 15 from by decide) (Or.inr ⟨1, D160_4, rfl⟩) ?_
  refine s_Il gk1 (Or.inr ⟨1, D160_5, rfl⟩) ?_
  refine s_Nwa (t := 1) rfl (q_newa (at_ := .boolean) (Or.inr (Or.inr rfl))) (fun ht _ => ht _ wd147) D160_6 ?_
  refine s_As sk2 (show 2 < 15 from by decide) (Or.inr ⟨2, D160_8, rfl⟩) ?_
  refine s_Il gk1 (Or.inr ⟨1, D160_9, rfl⟩) ?_
  refine s_Nwa (t := 0) rfl (q_newa (at_ := .int) (Or.inl rfl)) (fun ht _ => ht _ wd91) D160_10 ?_
  refine s_As sk3 (show 3 < 15 from by decide) (Or.inr ⟨3, D160_12, rfl⟩) ?_
  refine s_Al gk0 (Or.inr ⟨0, D160_13, rfl⟩) ?_
  refine s_Cv (ln := 3) (kd := 38) (C := "WordWrightModel$9") (by decide) (by decide +kernel) rfl (l_A (C := "WordWrightModel$9") (owner := "WordWrightModel$Search") (x := ({ cls := "WordWrightModel$Search", name := "first", desc := "()[Z" } : Jvm.MethodName)) (j := 61) rfl ok142 rfl rfl (by decide) rfl wd2303 wd2305 wd2324 wd2323 D160_14.1) (?_ : rSnd _ _ 17 _)
  refine s_As sk4 (show 4 < 15 from by decide) (Or.inl D160_17) ?_
  refine s_ic D160_19 kc_i_0 (by decide) ?_
  refine s_Is sk5 (show 5 < 15 from by decide) (Or.inl D160_20) ?_
  exact P160_22
theorem D161_0 : rDec M161 0 (.aload_n 0) 1 1 := ⟨by decide +kernel, rfl⟩
theorem D161_1 : rDec M161 1 (.aload_n 1) 1 2 := ⟨by decide +kernel, rfl⟩
theorem D161_2 : rDec M161 2 (.putfield 1) 3 5 := ⟨by decide +kernel, rfl⟩
theorem D161_5 : rDec M161 5 (.aload_n 0) 1 6 := ⟨by decide +kernel, rfl⟩
theorem D161_6 : rDec M161 6 (.invokespecial 7) 3 9 := ⟨by decide +kernel, rfl⟩
theorem D161_9 : rDec M161 9 (.aload_n 0) 1 10 := ⟨by decide +kernel, rfl⟩
theorem D161_10 : rDec M161 10 (.bipush 11) 2 12 := ⟨by decide +kernel, rfl⟩
theorem D161_12 : rDec M161 12 (.iconst 3) 1 13 := ⟨by decide +kernel, rfl⟩
theorem D161_13 : rDec M161 13 (.multianewarray 13 2) 4 17 := ⟨by decide +kernel, rfl⟩
theorem D161_17 : rDec M161 17 (.putfield 15) 3 20 := ⟨by decide +kernel, rfl⟩
theorem D161_20 : rDec M161 20 (.aload_n 0) 1 21 := ⟨by decide +kernel, rfl⟩
theorem D161_21 : rDec M161 21 (.bipush 11) 2 23 := ⟨by decide +kernel, rfl⟩
theorem D161_23 : rDec M161 23 (.newarray .boolean) 2 25 := ⟨by decide +kernel, rfl⟩
theorem D161_25 : rDec M161 25 (.putfield 18) 3 28 := ⟨by decide +kernel, rfl⟩
theorem D161_28 : rDec M161 28 (.aload_n 1) 1 29 := ⟨by decide +kernel, rfl⟩
theorem D161_29 : rDec M161 29 (.getfield 22) 3 32 := ⟨by decide +kernel, rfl⟩
theorem D161_32 : rDec M161 32 (.invokeinterface 28 1) 5 37 := ⟨by decide +kernel, rfl⟩
theorem D161_37 : rDec M161 37 (.ifCond .eq 4) 3 40 := ⟨by decide +kernel, rfl⟩
theorem D161_40 : rDec M161 40 (.return_) 1 41 := ⟨by decide +kernel, rfl⟩
theorem P161_0 : rSnd lab M161 0 B161_0 := by
  refine s_Ent ?_
  refine s_Al gk0 (Or.inr ⟨0, D161_0, rfl⟩) ?_
  refine s_Al gk1 (Or.inr ⟨1, D161_1, rfl⟩) ?_
  refine s_Pf (ci := 22) (r := ("WordWrightModel$Spans", kT22, 5)) rfl (show 4 < 5 from by decide) rfl (Or.inr ⟨rfl, wd2805, rfl, rfl⟩) (Or.inl rfl) rfl (by decide) D161_2 ?_
  refine s_Al gk0 (Or.inr ⟨0, D161_5, rfl⟩) ?_
  refine s_Oi rfl wd2764 wd62 wd63 D161_6 ?_
  refine s_Al gk0 (Or.inr ⟨0, D161_9, rfl⟩) ?_
  refine s_bi D161_10 kc_b_11 (by decide) ?_
  refine s_ic D161_12 kc_i_3 (by decide) ?_
  refine s_Mul (C := "WordWrightModel$Dfa") (t1 := 8) (t2 := 4) (j1 := 67) (j2 := 52) (by decide +kernel) rfl rfl rfl (by decide) (by decide) wd2765 rfl rfl D161_13 ?_
  refine s_Pf (ci := 22) (r := ("WordWrightModel$Spans", kT22, 5)) rfl (show 0 < 5 from by decide) rfl (Or.inr ⟨rfl, wd2798, rfl, rfl⟩) (Or.inl rfl) rfl (by decide) D161_17 ?_
  refine s_Al gk0 (Or.inr ⟨0, D161_20, rfl⟩) ?_
  refine s_bi D161_21 kc_b_11 (by decide) ?_
  refine s_Nwa (t := 1) rfl (q_newa (at_ := .boolean) (Or.inr (Or.inr rfl))) (fun ht _ => ht _ wd147) D161_23 ?_
  refine s_Pf (ci := 22) (r := ("WordWrightModel$Spans", kT22, 5)) rfl (show 1 < 5 from by decide) rfl (Or.inr ⟨rfl, wd2800, rfl, rfl⟩) (Or.inl rfl) rfl (by decide) D161_25 ?_
  refine s_Al gk1 (Or.inr ⟨1, D161_28, rfl⟩) ?_
  refine s_Gf (ci := 11) (r := ("WordWrightModel", kT11, 10)) rfl (show 9 < 10 from by decide) rfl (Or.inr ⟨_, 21, rfl⟩) (Or.inl rfl) rfl D161_29 ?_
  refine s_Cv (ln := 5) (kd := 50) (C := "java/util/ArrayList") (by decide) (by decide +kernel) rfl (l_F (C := "java/util/ArrayList") (x := ({ cls := "java/util/List", name := "isEmpty", desc := "()Z" } : Jvm.MethodName)) (ci := 24) (r := ("java/util/ArrayList", kT24, 3)) rfl rfl rfl ok14 rfl rfl (by decide) (List.mem_of_getElem? (i := 3) rfl) wd2768 wd2597 wd2595 D161_32.1) (?_ : rSnd _ _ 37 _)
  refine s_If c_eq (fun _ => rfl) (fun _ _ => rfl) (b_eq (tg := 41) (by decide)) D161_37.1 rSnd_none (?_ : rSnd _ _ 40 _)
  exact s_Rv rfl D161_40.1
theorem D162_0 : rDec M162 0 (.aload_n 0) 1 1 := ⟨by decide +kernel, rfl⟩
theorem D162_1 : rDec M162 1 (.invokespecial 1) 3 4 := ⟨by decide +kernel, rfl⟩
theorem D162_4 : rDec M162 4 (.aload_n 0) 1 5 := ⟨by decide +kernel, rfl⟩
theorem D162_5 : rDec M162 5 (.iload_n 1) 1 6 := ⟨by decide +kernel, rfl⟩
theorem D162_6 : rDec M162 6 (.putfield 7) 3 9 := ⟨by decide +kernel, rfl⟩
theorem D162_9 : rDec M162 9 (.aload_n 0) 1 10 := ⟨by decide +kernel, rfl⟩
theorem D162_10 : rDec M162 10 (.iload_n 2) 1 11 := ⟨by decide +kernel, rfl⟩
theorem D162_11 : rDec M162 11 (.putfield 13) 3 14 := ⟨by decide +kernel, rfl⟩
theorem D162_14 : rDec M162 14 (.aload_n 0) 1 15 := ⟨by decide +kernel, rfl⟩
theorem D162_15 : rDec M162 15 (.iload_n 3) 1 16 := ⟨by decide +kernel, rfl⟩
theorem D162_16 : rDec M162 16 (.putfield 16) 3 19 := ⟨by decide +kernel, rfl⟩
theorem D162_19 : rDec M162 19 (.aload_n 0) 1 20 := ⟨by decide +kernel, rfl⟩
theorem D162_20 : rDec M162 20 (.iload 4) 2 22 := ⟨by decide +kernel, rfl⟩
theorem D162_22 : rDec M162 22 (.putfield 19) 3 25 := ⟨by decide +kernel, rfl⟩
theorem D162_25 : rDec M162 25 (.return_) 1 26 := ⟨by decide +kernel, rfl⟩
theorem P162_0 : rSnd lab M162 0 B162_0 := by
  refine s_Ent ?_
  refine s_Al gk0 (Or.inr ⟨0, D162_0, rfl⟩) ?_
  refine s_Oi rfl wd2721 wd62 wd63 D162_1 ?_
  refine s_Al gk0 (Or.inr ⟨0, D162_4, rfl⟩) ?_
  refine s_Il gk1 (Or.inr ⟨1, D162_5, rfl⟩) ?_
  refine s_Pf (ci := 23) (r := ("WordWrightModel$Step", kT23, 4)) rfl (show 0 < 4 from by decide) rfl (Or.inr ⟨rfl, wd2722, rfl, rfl⟩) (Or.inl rfl) rfl (by decide) D162_6 ?_
  refine s_Al gk0 (Or.inr ⟨0, D162_9, rfl⟩) ?_
  refine s_Il gk2 (Or.inr ⟨2, D162_10, rfl⟩) ?_
  refine s_Pf (ci := 23) (r := ("WordWrightModel$Step", kT23, 4)) rfl (show 1 < 4 from by decide) rfl (Or.inr ⟨rfl, wd2725, rfl, rfl⟩) (Or.inl rfl) rfl (by decide) D162_11 ?_
  refine s_Al gk0 (Or.inr ⟨0, D162_14, rfl⟩) ?_
  refine s_Il gk3 (Or.inr ⟨3, D162_15, rfl⟩) ?_
  refine s_Pf (ci := 23) (r := ("WordWrightModel$Step", kT23, 4)) rfl (show 2 < 4 from by decide) rfl (Or.inr ⟨rfl, wd2728, rfl, rfl⟩) (Or.inl rfl) rfl (by decide) D162_16 ?_
  refine s_Al gk0 (Or.inr ⟨0, D162_19, rfl⟩) ?_
  refine s_Il gk4 (Or.inl D162_20) ?_
  refine s_Pf (ci := 23) (r := ("WordWrightModel$Step", kT23, 4)) rfl (show 3 < 4 from by decide) rfl (Or.inr ⟨rfl, wd2731, rfl, rfl⟩) (Or.inl rfl) rfl (by decide) D162_22 ?_
  exact s_Rv rfl D162_25.1
theorem D163_0 : rDec M163 0 (.aload_n 0) 1 1 := ⟨by decide +kernel, rfl⟩
theorem D163_1 : rDec M163 1 (.invokespecial 3) 3 4 := ⟨by decide +kernel, rfl⟩
theorem D163_4 : rDec M163 4 (.return_) 1 5 := ⟨by decide +kernel, rfl⟩
theorem P163_0 : rSnd lab M163 0 B163_0 := by
  refine s_Ent ?_
  refine s_Al gk0 (Or.inr ⟨0, D163_0, rfl⟩) ?_
  refine s_Oi rfl wd1683 wd62 wd63 D163_1 ?_
  exact s_Rv rfl D163_4.1
theorem D164_0 : rDec M164 0 (.aload_n 0) 1 1 := ⟨by decide +kernel, rfl⟩
theorem D164_1 : rDec M164 1 (.iload_n 2) 1 2 := ⟨by decide +kernel, rfl⟩
theorem D164_2 : rDec M164 2 (.iaload) 1 3 := ⟨by decide +kernel, rfl⟩
theorem D164_3 : rDec M164 3 (.aload_n 0) 1 4 := ⟨by decide +kernel, rfl⟩
theorem D164_4 : rDec M164 4 (.iload_n 3) 1 5 := ⟨by decide +kernel, rfl⟩
theorem D164_5 : rDec M164 5 (.iaload) 1 6 := ⟨by decide +kernel, rfl⟩
theorem D164_6 : rDec M164 6 (.if_icmp .ne 7) 3 9 := ⟨by decide +kernel, rfl⟩
theorem D164_9 : rDec M164 9 (.iconst 1) 1 10 := ⟨by decide +kernel, rfl⟩
theorem D164_10 : rDec M164 10 (.goto 4) 3 13 := ⟨by decide +kernel, rfl⟩
theorem D164_13 : rDec M164 13 (.iconst 0) 1 14 := ⟨by decide +kernel, rfl⟩
theorem D164_14 : rDec M164 14 (.istore 4) 2 16 := ⟨by decide +kernel, rfl⟩
theorem D164_16 : rDec M164 16 (.iconst 0) 1 17 := ⟨by decide +kernel, rfl⟩
theorem D164_17 : rDec M164 17 (.istore 5) 2 19 := ⟨by decide +kernel, rfl⟩
theorem D164_19 : rDec M164 19 (.iload 5) 2 21 := ⟨by decide +kernel, rfl⟩
theorem D164_21 : rDec M164 21 (.iconst 4) 1 22 := ⟨by decide +kernel, rfl⟩
theorem D164_22 : rDec M164 22 (.if_icmp .ge 42) 3 25 := ⟨by decide +kernel, rfl⟩
theorem D164_25 : rDec M164 25 (.iload 4) 2 27 := ⟨by decide +kernel, rfl⟩
theorem D164_27 : rDec M164 27 (.aload_n 0) 1 28 := ⟨by decide +kernel, rfl⟩
theorem D164_28 : rDec M164 28 (.aload_n 1) 1 29 := ⟨by decide +kernel, rfl⟩
theorem D164_29 : rDec M164 29 (.iload_n 2) 1 30 := ⟨by decide +kernel, rfl⟩
theorem D164_30 : rDec M164 30 (.iconst 4) 1 31 := ⟨by decide +kernel, rfl⟩
theorem D164_31 : rDec M164 31 (.imul) 1 32 := ⟨by decide +kernel, rfl⟩
theorem D164_32 : rDec M164 32 (.iload 5) 2 34 := ⟨by decide +kernel, rfl⟩
theorem D164_34 : rDec M164 34 (.iadd) 1 35 := ⟨by decide +kernel, rfl⟩
theorem D164_35 : rDec M164 35 (.iaload) 1 36 := ⟨by decide +kernel, rfl⟩
theorem D164_36 : rDec M164 36 (.iaload) 1 37 := ⟨by decide +kernel, rfl⟩
theorem D164_37 : rDec M164 37 (.aload_n 0) 1 38 := ⟨by decide +kernel, rfl⟩
theorem D164_38 : rDec M164 38 (.aload_n 1) 1 39 := ⟨by decide +kernel, rfl⟩
theorem D164_39 : rDec M164 39 (.iload_n 3) 1 40 := ⟨by decide +kernel, rfl⟩
theorem D164_40 : rDec M164 40 (.iconst 4) 1 41 := ⟨by decide +kernel, rfl⟩
theorem D164_41 : rDec M164 41 (.imul) 1 42 := ⟨by decide +kernel, rfl⟩
theorem D164_42 : rDec M164 42 (.iload 5) 2 44 := ⟨by decide +kernel, rfl⟩
theorem D164_44 : rDec M164 44 (.iadd) 1 45 := ⟨by decide +kernel, rfl⟩
theorem D164_45 : rDec M164 45 (.iaload) 1 46 := ⟨by decide +kernel, rfl⟩
theorem D164_46 : rDec M164 46 (.iaload) 1 47 := ⟨by decide +kernel, rfl⟩
theorem D164_47 : rDec M164 47 (.if_icmp .ne 7) 3 50 := ⟨by decide +kernel, rfl⟩
theorem D164_50 : rDec M164 50 (.iconst 1) 1 51 := ⟨by decide +kernel, rfl⟩
theorem D164_51 : rDec M164 51 (.goto 4) 3 54 := ⟨by decide +kernel, rfl⟩
theorem D164_54 : rDec M164 54 (.iconst 0) 1 55 := ⟨by decide +kernel, rfl⟩
theorem D164_55 : rDec M164 55 (.iand) 1 56 := ⟨by decide +kernel, rfl⟩
theorem D164_56 : rDec M164 56 (.istore 4) 2 58 := ⟨by decide +kernel, rfl⟩
theorem D164_58 : rDec M164 58 (.iinc 5 1) 3 61 := ⟨by decide +kernel, rfl⟩
theorem D164_61 : rDec M164 61 (.goto (-42)) 3 64 := ⟨by decide +kernel, rfl⟩
theorem D164_64 : rDec M164 64 (.iload 4) 2 66 := ⟨by decide +kernel, rfl⟩
theorem D164_66 : rDec M164 66 (.ireturn) 1 67 := ⟨by decide +kernel, rfl⟩
theorem P164_64 : rSnd lab M164 64 B164_64 := by
  refine s_Il gk4 (Or.inl D164_64) ?_
  exact s_Ri (Or.inr ⟨rfl, by decide⟩) D164_66.1
theorem P164_55 : rSnd lab M164 55 B164_55 := by
  refine s_Bin q_iand n_and g_and rE2_x D164_55 ?_
  refine s_Is sk4 (show 4 < 6 from by decide) (Or.inl D164_56) ?_
  refine s_Inc gk5 sk5 (show 5 < 6 from by decide) kc_i_1 D164_58 ?_
  exact s_Go (pc' := 19) D164_61.1 (by decide) (s_Jb rfl)
theorem P164_54 : rSnd lab M164 54 B164_54 := by
  refine s_ic D164_54 kc_i_0 (by decide) ?_
  exact P164_55
theorem P164_19 : rSnd lab M164 19 B164_19 := by
  refine s_Il gk5 (Or.inl D164_19) ?_
  refine s_ic D164_21 kc_i_4 (by decide) ?_
  refine s_Ic c_ge (i_ge (tg := 64) (by decide)) D164_22.1 P164_64 (?_ : rSnd _ _ 25 _)
  refine s_Il gk4 (Or.inl D164_25) ?_
  refine s_Al gk0 (Or.inr ⟨0, D164_27, rfl⟩) ?_
  refine s_Al gk1 (Or.inr ⟨1, D164_28, rfl⟩) ?_
  refine s_Il gk2 (Or.inr ⟨2, D164_29, rfl⟩) ?_
  refine s_ic D164_30 kc_i_4 (by decide) ?_
  refine s_Bin q_imul n_mul rG2_x rE2_x D164_31 ?_
  refine s_Il gk5 (Or.inl D164_32) ?_
  refine s_Bin q_iadd n_add rG2_x e_add D164_34 ?_
  refine s_Ial D164_35 ?_
  refine s_Ial D164_36 ?_
  refine s_Al gk0 (Or.inr ⟨0, D164_37, rfl⟩) ?_
  refine s_Al gk1 (Or.inr ⟨1, D164_38, rfl⟩) ?_
  refine s_Il gk3 (Or.inr ⟨3, D164_39, rfl⟩) ?_
  refine s_ic D164_40 kc_i_4 (by decide) ?_
  refine s_Bin q_imul n_mul rG2_x rE2_x D164_41 ?_
  refine s_Il gk5 (Or.inl D164_42) ?_
  refine s_Bin q_iadd n_add rG2_x e_add D164_44 ?_
  refine s_Ial D164_45 ?_
  refine s_Ial D164_46 ?_
  refine s_Ic c_ne (i_ne (tg := 54) (by decide)) D164_47.1 P164_54 (?_ : rSnd _ _ 50 _)
  refine s_ic D164_50 kc_i_1 (by decide) ?_
  exact s_Go (pc' := 55) D164_51.1 (by decide) P164_55
theorem P164_14 : rSnd lab M164 14 B164_14 := by
  refine s_Is sk4 (show 4 < 6 from by decide) (Or.inl D164_14) ?_
  refine s_ic D164_16 kc_i_0 (by decide) ?_
  refine s_Is sk5 (show 5 < 6 from by decide) (Or.inl D164_17) ?_
  exact P164_19
theorem P164_13 : rSnd lab M164 13 B164_13 := by
  refine s_ic D164_13 kc_i_0 (by decide) ?_
  exact P164_14
theorem P164_0 : rSnd lab M164 0 B164_0 := by
  refine s_Ent ?_
  refine s_Al gk0 (Or.inr ⟨0, D164_0, rfl⟩) ?_
  refine s_Il gk2 (Or.inr ⟨2, D164_1, rfl⟩) ?_
  refine s_Ial D164_2 ?_
  refine s_Al gk0 (Or.inr ⟨0, D164_3, rfl⟩) ?_
  refine s_Il gk3 (Or.inr ⟨3, D164_4, rfl⟩) ?_
  refine s_Ial D164_5 ?_
  refine s_Ic c_ne (i_ne (tg := 13) (by decide)) D164_6.1 P164_13 (?_ : rSnd _ _ 9 _)
  refine s_ic D164_9 kc_i_1 (by decide) ?_
  exact s_Go (pc' := 14) D164_10.1 (by decide) P164_14
theorem D165_0 : rDec M165 0 (.ldc 9) 2 2 := ⟨by decide +kernel, rfl⟩
theorem D165_2 : rDec M165 2 (.ireturn) 1 3 := ⟨by decide +kernel, rfl⟩
theorem P165_0 : rSnd lab M165 0 B165_0 := by
  refine s_Ent ?_
  refine s_ld rfl wd1805 D165_0 kc_I_1048576 (by decide) ?_
  exact s_Ri (Or.inl rfl) D165_2.1
theorem D166_0 : rDec M166 0 (.new 28) 3 3 := ⟨by decide +kernel, rfl⟩
theorem D166_3 : rDec M166 3 (.dup) 1 4 := ⟨by decide +kernel, rfl⟩
theorem D166_4 : rDec M166 4 (.iload 5) 2 6 := ⟨by decide +kernel, rfl⟩
theorem D166_6 : rDec M166 6 (.invokespecial 30) 3 9 := ⟨by decide +kernel, rfl⟩
theorem D166_9 : rDec M166 9 (.astore 6) 2 11 := ⟨by decide +kernel, rfl⟩
theorem D166_11 : rDec M166 11 (.iload 5) 2 13 := ⟨by decide +kernel, rfl⟩
theorem D166_13 : rDec M166 13 (.newarray .int) 2 15 := ⟨by decide +kernel, rfl⟩
theorem D166_15 : rDec M166 15 (.astore 7) 2 17 := ⟨by decide +kernel, rfl⟩
theorem D166_17 : rDec M166 17 (.iload 5) 2 19 := ⟨by decide +kernel, rfl⟩
theorem D166_19 : rDec M166 19 (.newarray .int) 2 21 := ⟨by decide +kernel, rfl⟩
theorem D166_21 : rDec M166 21 (.astore 8) 2 23 := ⟨by decide +kernel, rfl⟩
theorem D166_23 : rDec M166 23 (.iconst 0) 1 24 := ⟨by decide +kernel, rfl⟩
theorem D166_24 : rDec M166 24 (.istore 9) 2 26 := ⟨by decide +kernel, rfl⟩
theorem D166_26 : rDec M166 26 (.iload 9) 2 28 := ⟨by decide +kernel, rfl⟩
theorem D166_28 : rDec M166 28 (.iload 5) 2 30 := ⟨by decide +kernel, rfl⟩
theorem D166_30 : rDec M166 30 (.if_icmp .ge 15) 3 33 := ⟨by decide +kernel, rfl⟩
theorem D166_33 : rDec M166 33 (.aload 7) 2 35 := ⟨by decide +kernel, rfl⟩
theorem D166_35 : rDec M166 35 (.iload 9) 2 37 := ⟨by decide +kernel, rfl⟩
theorem D166_37 : rDec M166 37 (.iconst (-1)) 1 38 := ⟨by decide +kernel, rfl⟩
theorem D166_38 : rDec M166 38 (.iastore) 1 39 := ⟨by decide +kernel, rfl⟩
theorem D166_39 : rDec M166 39 (.iinc 9 1) 3 42 := ⟨by decide +kernel, rfl⟩
theorem D166_42 : rDec M166 42 (.goto (-16)) 3 45 := ⟨by decide +kernel, rfl⟩
theorem D166_45 : rDec M166 45 (.iconst 1) 1 46 := ⟨by decide +kernel, rfl⟩
theorem D166_46 : rDec M166 46 (.istore 9) 2 48 := ⟨by decide +kernel, rfl⟩
theorem D166_48 : rDec M166 48 (.aload 8) 2 50 := ⟨by decide +kernel, rfl⟩
theorem D166_50 : rDec M166 50 (.iconst 0) 1 51 := ⟨by decide +kernel, rfl⟩
theorem D166_51 : rDec M166 51 (.aload_n 3) 1 52 := ⟨by decide +kernel, rfl⟩
theorem D166_52 : rDec M166 52 (.iconst 0) 1 53 := ⟨by decide +kernel, rfl⟩
theorem D166_53 : rDec M166 53 (.iaload) 1 54 := ⟨by decide +kernel, rfl⟩
theorem D166_54 : rDec M166 54 (.iastore) 1 55 := ⟨by decide +kernel, rfl⟩
theorem D166_55 : rDec M166 55 (.aload 7) 2 57 := ⟨by decide +kernel, rfl⟩
theorem D166_57 : rDec M166 57 (.aload_n 3) 1 58 := ⟨by decide +kernel, rfl⟩
theorem D166_58 : rDec M166 58 (.iconst 0) 1 59 := ⟨by decide +kernel, rfl⟩
theorem D166_59 : rDec M166 59 (.iaload) 1 60 := ⟨by decide +kernel, rfl⟩
theorem D166_60 : rDec M166 60 (.iconst 0) 1 61 := ⟨by decide +kernel, rfl⟩
theorem D166_61 : rDec M166 61 (.iastore) 1 62 := ⟨by decide +kernel, rfl⟩
theorem D166_62 : rDec M166 62 (.iconst 0) 1 63 := ⟨by decide +kernel, rfl⟩
theorem D166_63 : rDec M166 63 (.istore 10) 2 65 := ⟨by decide +kernel, rfl⟩
theorem D166_65 : rDec M166 65 (.iload 10) 2 67 := ⟨by decide +kernel, rfl⟩
theorem D166_67 : rDec M166 67 (.iload 9) 2 69 := ⟨by decide +kernel, rfl⟩
theorem D166_69 : rDec M166 69 (.if_icmp .ge 107) 3 72 := ⟨by decide +kernel, rfl⟩
theorem D166_72 : rDec M166 72 (.aload 4) 2 74 := ⟨by decide +kernel, rfl⟩
theorem D166_74 : rDec M166 74 (.aload 8) 2 76 := ⟨by decide +kernel, rfl⟩
theorem D166_76 : rDec M166 76 (.iload 10) 2 78 := ⟨by decide +kernel, rfl⟩
theorem D166_78 : rDec M166 78 (.iaload) 1 79 := ⟨by decide +kernel, rfl⟩
theorem D166_79 : rDec M166 79 (.iaload) 1 80 := ⟨by decide +kernel, rfl⟩
theorem D166_80 : rDec M166 80 (.istore 11) 2 82 := ⟨by decide +kernel, rfl⟩
theorem D166_82 : rDec M166 82 (.aload 6) 2 84 := ⟨by decide +kernel, rfl⟩
theorem D166_84 : rDec M166 84 (.getfield 70) 3 87 := ⟨by decide +kernel, rfl⟩
theorem D166_87 : rDec M166 87 (.iload 10) 2 89 := ⟨by decide +kernel, rfl⟩
theorem D166_89 : rDec M166 89 (.aload_n 0) 1 90 := ⟨by decide +kernel, rfl⟩
theorem D166_90 : rDec M166 90 (.aload_n 1) 1 91 := ⟨by decide +kernel, rfl⟩
theorem D166_91 : rDec M166 91 (.iload 11) 2 93 := ⟨by decide +kernel, rfl⟩
theorem D166_93 : rDec M166 93 (.laload) 1 94 := ⟨by decide +kernel, rfl⟩
theorem D166_94 : rDec M166 94 (.invokevirtual 52) 3 97 := ⟨by decide +kernel, rfl⟩
theorem D166_97 : rDec M166 97 (.bastore) 1 98 := ⟨by decide +kernel, rfl⟩
theorem D166_98 : rDec M166 98 (.iconst 0) 1 99 := ⟨by decide +kernel, rfl⟩
theorem D166_99 : rDec M166 99 (.istore 12) 2 101 := ⟨by decide +kernel, rfl⟩
theorem D166_101 : rDec M166 101 (.iload 12) 2 103 := ⟨by decide +kernel, rfl⟩
theorem D166_103 : rDec M166 103 (.iconst 4) 1 104 := ⟨by decide +kernel, rfl⟩
theorem D166_104 : rDec M166 104 (.if_icmp .ge 66) 3 107 := ⟨by decide +kernel, rfl⟩
theorem D166_107 : rDec M166 107 (.aload_n 3) 1 108 := ⟨by decide +kernel, rfl⟩
theorem D166_108 : rDec M166 108 (.aload_n 2) 1 109 := ⟨by decide +kernel, rfl⟩
theorem D166_109 : rDec M166 109 (.iload 11) 2 111 := ⟨by decide +kernel, rfl⟩
theorem D166_111 : rDec M166 111 (.iconst 4) 1 112 := ⟨by decide +kernel, rfl⟩
theorem D166_112 : rDec M166 112 (.imul) 1 113 := ⟨by decide +kernel, rfl⟩
theorem D166_113 : rDec M166 113 (.iload 12) 2 115 := ⟨by decide +kernel, rfl⟩
theorem D166_115 : rDec M166 115 (.iadd) 1 116 := ⟨by decide +kernel, rfl⟩
theorem D166_116 : rDec M166 116 (.iaload) 1 117 := ⟨by decide +kernel, rfl⟩
theorem D166_117 : rDec M166 117 (.iaload) 1 118 := ⟨by decide +kernel, rfl⟩
theorem D166_118 : rDec M166 118 (.istore 13) 2 120 := ⟨by decide +kernel, rfl⟩
theorem D166_120 : rDec M166 120 (.aload 7) 2 122 := ⟨by decide +kernel, rfl⟩
theorem D166_122 : rDec M166 122 (.iload 13) 2 124 := ⟨by decide +kernel, rfl⟩
theorem D166_124 : rDec M166 124 (.iaload) 1 125 := ⟨by decide +kernel, rfl⟩
theorem D166_125 : rDec M166 125 (.iconst (-1)) 1 126 := ⟨by decide +kernel, rfl⟩
theorem D166_126 : rDec M166 126 (.if_icmp .ne 20) 3 129 := ⟨by decide +kernel, rfl⟩
theorem D166_129 : rDec M166 129 (.aload 8) 2 131 := ⟨by decide +kernel, rfl⟩
theorem D166_131 : rDec M166 131 (.iload 9) 2 133 := ⟨by decide +kernel, rfl⟩
theorem D166_133 : rDec M166 133 (.iload 13) 2 135 := ⟨by decide +kernel, rfl⟩
theorem D166_135 : rDec M166 135 (.iastore) 1 136 := ⟨by decide +kernel, rfl⟩
theorem D166_136 : rDec M166 136 (.aload 7) 2 138 := ⟨by decide +kernel, rfl⟩
theorem D166_138 : rDec M166 138 (.iload 13) 2 140 := ⟨by decide +kernel, rfl⟩
theorem D166_140 : rDec M166 140 (.iload 9) 2 142 := ⟨by decide +kernel, rfl⟩
theorem D166_142 : rDec M166 142 (.iinc 9 1) 3 145 := ⟨by decide +kernel, rfl⟩
theorem D166_145 : rDec M166 145 (.iastore) 1 146 := ⟨by decide +kernel, rfl⟩
theorem D166_146 : rDec M166 146 (.aload 6) 2 148 := ⟨by decide +kernel, rfl⟩
theorem D166_148 : rDec M166 148 (.getfield 73) 3 151 := ⟨by decide +kernel, rfl⟩
theorem D166_151 : rDec M166 151 (.iload 10) 2 153 := ⟨by decide +kernel, rfl⟩
theorem D166_153 : rDec M166 153 (.iconst 4) 1 154 := ⟨by decide +kernel, rfl⟩
theorem D166_154 : rDec M166 154 (.imul) 1 155 := ⟨by decide +kernel, rfl⟩
theorem D166_155 : rDec M166 155 (.iload 12) 2 157 := ⟨by decide +kernel, rfl⟩
theorem D166_157 : rDec M166 157 (.iadd) 1 158 := ⟨by decide +kernel, rfl⟩
theorem D166_158 : rDec M166 158 (.aload 7) 2 160 := ⟨by decide +kernel, rfl⟩
theorem D166_160 : rDec M166 160 (.iload 13) 2 162 := ⟨by decide +kernel, rfl⟩
theorem D166_162 : rDec M166 162 (.iaload) 1 163 := ⟨by decide +kernel, rfl⟩
theorem D166_163 : rDec M166 163 (.iastore) 1 164 := ⟨by decide +kernel, rfl⟩
theorem D166_164 : rDec M166 164 (.iinc 12 1) 3 167 := ⟨by decide +kernel, rfl⟩
theorem D166_167 : rDec M166 167 (.goto (-66)) 3 170 := ⟨by decide +kernel, rfl⟩
theorem D166_170 : rDec M166 170 (.iinc 10 1) 3 173 := ⟨by decide +kernel, rfl⟩
theorem D166_173 : rDec M166 173 (.goto (-108)) 3 176 := ⟨by decide +kernel, rfl⟩
theorem D166_176 : rDec M166 176 (.aload 6) 2 178 := ⟨by decide +kernel, rfl⟩
theorem D166_178 : rDec M166 178 (.areturn) 1 179 := ⟨by decide +kernel, rfl⟩
theorem P166_176 : rSnd lab M166 176 B166_176 := by
  refine s_Al gk6 (Or.inl D166_176) ?_
  exact s_Ra (Or.inl ⟨_, rfl⟩) D166_178.1
theorem P166_170 : rSnd lab M166 170 B166_170 := by
  refine s_Inc gk10 sk10 (show 10 < 14 from by decide) kc_i_1 D166_170 ?_
  exact s_Go (pc' := 65) D166_173.1 (by decide) (s_Jb rfl)
theorem P166_146 : rSnd lab M166 146 B166_146 := by
  refine s_Al gk6 (Or.inl D166_146) ?_
  refine s_Gf (ci := 19) (r := ("WordWrightModel$Dfa", kT19, 3)) rfl (show 1 < 3 from by decide) rfl (Or.inl wd1820) (Or.inl rfl) rfl D166_148 ?_
  refine s_Il gk10 (Or.inl D166_151) ?_
  refine s_ic D166_153 kc_i_4 (by decide) ?_
  refine s_Bin q_imul n_mul rG2_x rE2_x D166_154 ?_
  refine s_Il gk12 (Or.inl D166_155) ?_
  refine s_Bin q_iadd n_add rG2_x e_add D166_157 ?_
  refine s_Al gk7 (Or.inl D166_158) ?_
  refine s_Il gk13 (Or.inl D166_160) ?_
  refine s_Ial D166_162 ?_
  refine s_Ast (t := 0) rfl q_iast rfl (by decide) D166_163 ?_
  refine s_Inc gk12 sk12 (show 12 < 14 from by decide) kc_i_1 D166_164 ?_
  exact s_Go (pc' := 101) D166_167.1 (by decide) (s_Jb rfl)
theorem P166_101 : rSnd lab M166 101 B166_101 := by
  refine s_Il gk12 (Or.inl D166_101) ?_
  refine s_ic D166_103 kc_i_4 (by decide) ?_
  refine s_Ic c_ge (i_ge (tg := 170) (by decide)) D166_104.1 P166_170 (?_ : rSnd _ _ 107 _)
  refine s_Al gk3 (Or.inr ⟨3, D166_107, rfl⟩) ?_
  refine s_Al gk2 (Or.inr ⟨2, D166_108, rfl⟩) ?_
  refine s_Il gk11 (Or.inl D166_109) ?_
  refine s_ic D166_111 kc_i_4 (by decide) ?_
  refine s_Bin q_imul n_mul rG2_x rE2_x D166_112 ?_
  refine s_Il gk12 (Or.inl D166_113) ?_
  refine s_Bin q_iadd n_add rG2_x e_add D166_115 ?_
  refine s_Ial D166_116 ?_
  refine s_Ial D166_117 ?_
  refine s_Is sk13 (show 13 < 14 from by decide) (Or.inl D166_118) ?_
  refine s_Al gk7 (Or.inl D166_120) ?_
  refine s_Il gk13 (Or.inl D166_122) ?_
  refine s_Ial D166_124 ?_
  refine s_ic D166_125 kc_i_m1 (by decide) ?_
  refine s_Ic c_ne (i_ne (tg := 146) (by decide)) D166_126.1 P166_146 (?_ : rSnd _ _ 129 _)
  refine s_Al gk8 (Or.inl D166_129) ?_
  refine s_Il gk9 (Or.inl D166_131) ?_
  refine s_Il gk13 (Or.inl D166_133) ?_
  refine s_Ast (t := 0) rfl q_iast rfl (by decide) D166_135 ?_
  refine s_Al gk7 (Or.inl D166_136) ?_
  refine s_Il gk13 (Or.inl D166_138) ?_
  refine s_Il gk9 (Or.inl D166_140) ?_
  refine s_Inc gk9 sk9 (show 9 < 14 from by decide) kc_i_1 D166_142 ?_
  refine s_Ast (t := 0) rfl q_iast rfl (by decide) D166_145 ?_
  exact P166_146
theorem P166_65 : rSnd lab M166 65 B166_65 := by
  refine s_Il gk10 (Or.inl D166_65) ?_
  refine s_Il gk9 (Or.inl D166_67) ?_
  refine s_Ic c_ge (i_ge (tg := 176) (by decide)) D166_69.1 P166_176 (?_ : rSnd _ _ 72 _)
  refine s_Al gk4 (Or.inl D166_72) ?_
  refine s_Al gk8 (Or.inl D166_74) ?_
  refine s_Il gk10 (Or.inl D166_76) ?_
  refine s_Ial D166_78 ?_
  refine s_Ial D166_79 ?_
  refine s_Is sk11 (show 11 < 14 from by decide) (Or.inl D166_80) ?_
  refine s_Al gk6 (Or.inl D166_82) ?_
  refine s_Gf (ci := 19) (r := ("WordWrightModel$Dfa", kT19, 3)) rfl (show 2 < 3 from by decide) rfl (Or.inl wd1829) (Or.inl rfl) rfl D166_84 ?_
  refine s_Il gk10 (Or.inl D166_87) ?_
  refine s_Al gk0 (Or.inr ⟨0, D166_89, rfl⟩) ?_
  refine s_Al gk1 (Or.inr ⟨1, D166_90, rfl⟩) ?_
  refine s_Il gk11 (Or.inl D166_91) ?_
  refine s_Ald (t := 2) (ty := .long) rfl q_lald rfl D166_93 ?_
  refine s_Cp (ln := 3) ⟨⟨M112, by decide, rfl, (l_A (C := "WordWrightModel$1") (owner := "WordWrightModel$Walk") (x := ({ cls := "WordWrightModel$Walk", name := "ends", desc := "(J)Z" } : Jvm.MethodName)) (j := 50) rfl ok112 rfl rfl (by decide) rfl wd1848 wd1850 wd1852 wd1851 D166_94.1)⟩, ⟨M116, by decide, rfl, (l_A (C := "WordWrightModel$2") (owner := "WordWrightModel$Walk") (x := ({ cls := "WordWrightModel$Walk", name := "ends", desc := "(J)Z" } : Jvm.MethodName)) (j := 50) rfl ok116 rfl rfl (by decide) rfl wd1848 wd1850 wd1855 wd1854 D166_94.1)⟩, ⟨M120, by decide, rfl, (l_A (C := "WordWrightModel$3") (owner := "WordWrightModel$Walk") (x := ({ cls := "WordWrightModel$Walk", name := "ends", desc := "(J)Z" } : Jvm.MethodName)) (j := 50) rfl ok120 rfl rfl (by decide) rfl wd1848 wd1850 wd1858 wd1857 D166_94.1)⟩, ⟨M125, by decide, rfl, (l_A (C := "WordWrightModel$4") (owner := "WordWrightModel$Walk") (x := ({ cls := "WordWrightModel$Walk", name := "ends", desc := "(J)Z" } : Jvm.MethodName)) (j := 50) rfl ok125 rfl rfl (by decide) rfl wd1848 wd1850 wd1862 wd1861 D166_94.1)⟩, ⟨M129, by decide, rfl, (l_A (C := "WordWrightModel$5") (owner := "WordWrightModel$Walk") (x := ({ cls := "WordWrightModel$Walk", name := "ends", desc := "(J)Z" } : Jvm.MethodName)) (j := 50) rfl ok129 rfl rfl (by decide) rfl wd1848 wd1850 wd1865 wd1864 D166_94.1)⟩, ⟨M133, by decide, rfl, (l_A (C := "WordWrightModel$6") (owner := "WordWrightModel$Walk") (x := ({ cls := "WordWrightModel$Walk", name := "ends", desc := "(J)Z" } : Jvm.MethodName)) (j := 50) rfl ok133 rfl rfl (by decide) rfl wd1848 wd1850 wd1868 wd1867 D166_94.1)⟩, trivial⟩ (?_ : rSnd _ _ 97 _)
  refine s_Ast (t := 1) rfl q_zast rfl (by decide) D166_97 ?_
  refine s_ic D166_98 kc_i_0 (by decide) ?_
  refine s_Is sk12 (show 12 < 14 from by decide) (Or.inl D166_99) ?_
  exact P166_101
theorem P166_45 : rSnd lab M166 45 B166_45 := by
  refine s_ic D166_45 kc_i_1 (by decide) ?_
  refine s_Is sk9 (show 9 < 14 from by decide) (Or.inl D166_46) ?_
  refine s_Al gk8 (Or.inl D166_48) ?_
  refine s_ic D166_50 kc_i_0 (by decide) ?_
  refine s_Al gk3 (Or.inr ⟨3, D166_51, rfl⟩) ?_
  refine s_ic D166_52 kc_i_0 (by decide) ?_
  refine s_Ial D166_53 ?_
  refine s_Ast (t := 0) rfl q_iast rfl (by decide) D166_54 ?_
  refine s_Al gk7 (Or.inl D166_55) ?_
  refine s_Al gk3 (Or.inr ⟨3, D166_57, rfl⟩) ?_
  refine s_ic D166_58 kc_i_0 (by decide) ?_
  refine s_Ial D166_59 ?_
  refine s_ic D166_60 kc_i_0 (by decide) ?_
  refine s_Ast (t := 0) rfl q_iast rfl (by decide) D166_61 ?_
  refine s_ic D166_62 kc_i_0 (by decide) ?_
  refine s_Is sk10 (show 10 < 14 from by decide) (Or.inl D166_63) ?_
  exact P166_65
theorem P166_26 : rSnd lab M166 26 B166_26 := by
  refine s_Il gk9 (Or.inl D166_26) ?_
  refine s_Il gk5 (Or.inl D166_28) ?_
  refine s_Ic c_ge (i_ge (tg := 45) (by decide)) D166_30.1 P166_45 (?_ : rSnd _ _ 33 _)
  refine s_Al gk7 (Or.inl D166_33) ?_
  refine s_Il gk9 (Or.inl D166_35) ?_
  refine s_ic D166_37 kc_i_m1 (by decide) ?_
  refine s_Ast (t := 0) rfl q_iast rfl (by decide) D166_38 ?_
  refine s_Inc gk9 sk9 (show 9 < 14 from by decide) kc_i_1 D166_39 ?_
  exact s_Go (pc' := 26) D166_42.1 (by decide) (s_Jb rfl)
theorem P166_0 : rSnd lab M166 0 B166_0 := by
  refine s_Ent ?_
  refine s_New (ci := 19) (r := ("WordWrightModel$Dfa", kT19, 3)) rfl rfl wd1806 wd1807 wd16 kr19 D166_0 ?_
  refine s_Dup D166_3 ?_
  refine s_Il gk5 (Or.inl D166_4) ?_
  refine s_Ci (id := 174) rfl (l_I rfl ok149 rfl rfl rfl wd1808 wd1809 D166_6.1) (?_ : rSnd _ _ 9 _)
  refine s_As sk6 (show 6 < 14 from by decide) (Or.inl D166_9) ?_
  refine s_Il gk5 (Or.inl D166_11) ?_
  refine s_Nwa (t := 0) rfl (q_newa (at_ := .int) (Or.inl rfl)) (fun ht _ => ht _ wd91) D166_13 ?_
  refine s_As sk7 (show 7 < 14 from by decide) (Or.inl D166_15) ?_
  refine s_Il gk5 (Or.inl D166_17) ?_
  refine s_Nwa (t := 0) rfl (q_newa (at_ := .int) (Or.inl rfl)) (fun ht _ => ht _ wd91) D166_19 ?_
  refine s_As sk8 (show 8 < 14 from by decide) (Or.inl D166_21) ?_
  refine s_ic D166_23 kc_i_0 (by decide) ?_
  refine s_Is sk9 (show 9 < 14 from by decide) (Or.inl D166_24) ?_
  exact P166_26
