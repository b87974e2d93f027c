-- ===== rows and blocks, 7 =====
theorem D167_0 : rDec M167 0 (.iload_n 3) 1 1 := ⟨by decide +kernel, rfl⟩
theorem D167_1 : rDec M167 1 (.newarray .int) 2 3 := ⟨by decide +kernel, rfl⟩
theorem D167_3 : rDec M167 3 (.astore 4) 2 5 := ⟨by decide +kernel, rfl⟩
theorem D167_5 : rDec M167 5 (.iconst 1) 1 6 := ⟨by decide +kernel, rfl⟩
theorem D167_6 : rDec M167 6 (.istore 5) 2 8 := ⟨by decide +kernel, rfl⟩
theorem D167_8 : rDec M167 8 (.iconst 0) 1 9 := ⟨by decide +kernel, rfl⟩
theorem D167_9 : rDec M167 9 (.istore 6) 2 11 := ⟨by decide +kernel, rfl⟩
theorem D167_11 : rDec M167 11 (.iload 6) 2 13 := ⟨by decide +kernel, rfl⟩
theorem D167_13 : rDec M167 13 (.iload_n 3) 1 14 := ⟨by decide +kernel, rfl⟩
theorem D167_14 : rDec M167 14 (.if_icmp .ge 37) 3 17 := ⟨by decide +kernel, rfl⟩
theorem D167_17 : rDec M167 17 (.aload 4) 2 19 := ⟨by decide +kernel, rfl⟩
theorem D167_19 : rDec M167 19 (.iload 6) 2 21 := ⟨by decide +kernel, rfl⟩
theorem D167_21 : rDec M167 21 (.aload_n 0) 1 22 := ⟨by decide +kernel, rfl⟩
theorem D167_22 : rDec M167 22 (.aload_n 1) 1 23 := ⟨by decide +kernel, rfl⟩
theorem D167_23 : rDec M167 23 (.iload 6) 2 25 := ⟨by decide +kernel, rfl⟩
theorem D167_25 : rDec M167 25 (.laload) 1 26 := ⟨by decide +kernel, rfl⟩
theorem D167_26 : rDec M167 26 (.invokevirtual 52) 3 29 := ⟨by decide +kernel, rfl⟩
theorem D167_29 : rDec M167 29 (.aload_n 0) 1 30 := ⟨by decide +kernel, rfl⟩
theorem D167_30 : rDec M167 30 (.aload_n 1) 1 31 := ⟨by decide +kernel, rfl⟩
theorem D167_31 : rDec M167 31 (.iconst 0) 1 32 := ⟨by decide +kernel, rfl⟩
theorem D167_32 : rDec M167 32 (.laload) 1 33 := ⟨by decide +kernel, rfl⟩
theorem D167_33 : rDec M167 33 (.invokevirtual 52) 3 36 := ⟨by decide +kernel, rfl⟩
theorem D167_36 : rDec M167 36 (.if_icmp .ne 7) 3 39 := ⟨by decide +kernel, rfl⟩
theorem D167_39 : rDec M167 39 (.iconst 0) 1 40 := ⟨by decide +kernel, rfl⟩
theorem D167_40 : rDec M167 40 (.goto 4) 3 43 := ⟨by decide +kernel, rfl⟩
theorem D167_43 : rDec M167 43 (.iconst 1) 1 44 := ⟨by decide +kernel, rfl⟩
theorem D167_44 : rDec M167 44 (.iastore) 1 45 := ⟨by decide +kernel, rfl⟩
theorem D167_45 : rDec M167 45 (.iinc 6 1) 3 48 := ⟨by decide +kernel, rfl⟩
theorem D167_48 : rDec M167 48 (.goto (-37)) 3 51 := ⟨by decide +kernel, rfl⟩
theorem D167_51 : rDec M167 51 (.iconst 0) 1 52 := ⟨by decide +kernel, rfl⟩
theorem D167_52 : rDec M167 52 (.istore 6) 2 54 := ⟨by decide +kernel, rfl⟩
theorem D167_54 : rDec M167 54 (.iload 6) 2 56 := ⟨by decide +kernel, rfl⟩
theorem D167_56 : rDec M167 56 (.iload_n 3) 1 57 := ⟨by decide +kernel, rfl⟩
theorem D167_57 : rDec M167 57 (.if_icmp .ge 23) 3 60 := ⟨by decide +kernel, rfl⟩
theorem D167_60 : rDec M167 60 (.iload 5) 2 62 := ⟨by decide +kernel, rfl⟩
theorem D167_62 : rDec M167 62 (.aload 4) 2 64 := ⟨by decide +kernel, rfl⟩
theorem D167_64 : rDec M167 64 (.iload 6) 2 66 := ⟨by decide +kernel, rfl⟩
theorem D167_66 : rDec M167 66 (.iaload) 1 67 := ⟨by decide +kernel, rfl⟩
theorem D167_67 : rDec M167 67 (.iconst 1) 1 68 := ⟨by decide +kernel, rfl⟩
theorem D167_68 : rDec M167 68 (.iadd) 1 69 := ⟨by decide +kernel, rfl⟩
theorem D167_69 : rDec M167 69 (.invokestatic 56) 3 72 := ⟨by decide +kernel, rfl⟩
theorem D167_72 : rDec M167 72 (.istore 5) 2 74 := ⟨by decide +kernel, rfl⟩
theorem D167_74 : rDec M167 74 (.iinc 6 1) 3 77 := ⟨by decide +kernel, rfl⟩
theorem D167_77 : rDec M167 77 (.goto (-23)) 3 80 := ⟨by decide +kernel, rfl⟩
theorem D167_80 : rDec M167 80 (.iload_n 3) 1 81 := ⟨by decide +kernel, rfl⟩
theorem D167_81 : rDec M167 81 (.newarray .int) 2 83 := ⟨by decide +kernel, rfl⟩
theorem D167_83 : rDec M167 83 (.astore 6) 2 85 := ⟨by decide +kernel, rfl⟩
theorem D167_85 : rDec M167 85 (.bipush 11) 2 87 := ⟨by decide +kernel, rfl⟩
theorem D167_87 : rDec M167 87 (.newarray .int) 2 89 := ⟨by decide +kernel, rfl⟩
theorem D167_89 : rDec M167 89 (.astore 7) 2 91 := ⟨by decide +kernel, rfl⟩
theorem D167_91 : rDec M167 91 (.iconst 0) 1 92 := ⟨by decide +kernel, rfl⟩
theorem D167_92 : rDec M167 92 (.istore 8) 2 94 := ⟨by decide +kernel, rfl⟩
theorem D167_94 : rDec M167 94 (.iconst 0) 1 95 := ⟨by decide +kernel, rfl⟩
theorem D167_95 : rDec M167 95 (.istore 9) 2 97 := ⟨by decide +kernel, rfl⟩
theorem D167_97 : rDec M167 97 (.iload 9) 2 99 := ⟨by decide +kernel, rfl⟩
theorem D167_99 : rDec M167 99 (.iload_n 3) 1 100 := ⟨by decide +kernel, rfl⟩
theorem D167_100 : rDec M167 100 (.if_icmp .ge 81) 3 103 := ⟨by decide +kernel, rfl⟩
theorem D167_103 : rDec M167 103 (.iconst 0) 1 104 := ⟨by decide +kernel, rfl⟩
theorem D167_104 : rDec M167 104 (.istore 10) 2 106 := ⟨by decide +kernel, rfl⟩
theorem D167_106 : rDec M167 106 (.iload 10) 2 108 := ⟨by decide +kernel, rfl⟩
theorem D167_108 : rDec M167 108 (.iload 8) 2 110 := ⟨by decide +kernel, rfl⟩
theorem D167_110 : rDec M167 110 (.if_icmp .ge 25) 3 113 := ⟨by decide +kernel, rfl⟩
theorem D167_113 : rDec M167 113 (.aload 4) 2 115 := ⟨by decide +kernel, rfl⟩
theorem D167_115 : rDec M167 115 (.aload_n 2) 1 116 := ⟨by decide +kernel, rfl⟩
theorem D167_116 : rDec M167 116 (.aload 7) 2 118 := ⟨by decide +kernel, rfl⟩
theorem D167_118 : rDec M167 118 (.iload 10) 2 120 := ⟨by decide +kernel, rfl⟩
theorem D167_120 : rDec M167 120 (.iaload) 1 121 := ⟨by decide +kernel, rfl⟩
theorem D167_121 : rDec M167 121 (.iload 9) 2 123 := ⟨by decide +kernel, rfl⟩
theorem D167_123 : rDec M167 123 (.invokestatic 62) 3 126 := ⟨by decide +kernel, rfl⟩
theorem D167_126 : rDec M167 126 (.ifCond .ne 9) 3 129 := ⟨by decide +kernel, rfl⟩
theorem D167_129 : rDec M167 129 (.iinc 10 1) 3 132 := ⟨by decide +kernel, rfl⟩
theorem D167_132 : rDec M167 132 (.goto (-26)) 3 135 := ⟨by decide +kernel, rfl⟩
theorem D167_135 : rDec M167 135 (.iload 10) 2 137 := ⟨by decide +kernel, rfl⟩
theorem D167_137 : rDec M167 137 (.iload 8) 2 139 := ⟨by decide +kernel, rfl⟩
theorem D167_139 : rDec M167 139 (.if_icmp .ne 29) 3 142 := ⟨by decide +kernel, rfl⟩
theorem D167_142 : rDec M167 142 (.iload 8) 2 144 := ⟨by decide +kernel, rfl⟩
theorem D167_144 : rDec M167 144 (.bipush 10) 2 146 := ⟨by decide +kernel, rfl⟩
theorem D167_146 : rDec M167 146 (.if_icmp .ne 12) 3 149 := ⟨by decide +kernel, rfl⟩
theorem D167_158 : rDec M167 158 (.aload 7) 2 160 := ⟨by decide +kernel, rfl⟩
theorem D167_160 : rDec M167 160 (.iload 8) 2 162 := ⟨by decide +kernel, rfl⟩
theorem D167_162 : rDec M167 162 (.iinc 8 1) 3 165 := ⟨by decide +kernel, rfl⟩
theorem D167_165 : rDec M167 165 (.iload 9) 2 167 := ⟨by decide +kernel, rfl⟩
theorem D167_167 : rDec M167 167 (.iastore) 1 168 := ⟨by decide +kernel, rfl⟩
theorem D167_168 : rDec M167 168 (.aload 6) 2 170 := ⟨by decide +kernel, rfl⟩
theorem D167_170 : rDec M167 170 (.iload 9) 2 172 := ⟨by decide +kernel, rfl⟩
theorem D167_172 : rDec M167 172 (.iload 10) 2 174 := ⟨by decide +kernel, rfl⟩
theorem D167_174 : rDec M167 174 (.iastore) 1 175 := ⟨by decide +kernel, rfl⟩
theorem D167_175 : rDec M167 175 (.iinc 9 1) 3 178 := ⟨by decide +kernel, rfl⟩
theorem D167_178 : rDec M167 178 (.goto (-81)) 3 181 := ⟨by decide +kernel, rfl⟩
theorem D167_181 : rDec M167 181 (.aload 6) 2 183 := ⟨by decide +kernel, rfl⟩
theorem D167_183 : rDec M167 183 (.astore 4) 2 185 := ⟨by decide +kernel, rfl⟩
theorem D167_185 : rDec M167 185 (.iload 8) 2 187 := ⟨by decide +kernel, rfl⟩
theorem D167_187 : rDec M167 187 (.iload 5) 2 189 := ⟨by decide +kernel, rfl⟩
theorem D167_189 : rDec M167 189 (.if_icmp .ne 16) 3 192 := ⟨by decide +kernel, rfl⟩
theorem D167_192 : rDec M167 192 (.aload_n 0) 1 193 := ⟨by decide +kernel, rfl⟩
theorem D167_193 : rDec M167 193 (.aload_n 1) 1 194 := ⟨by decide +kernel, rfl⟩
theorem D167_194 : rDec M167 194 (.aload_n 2) 1 195 := ⟨by decide +kernel, rfl⟩
theorem D167_195 : rDec M167 195 (.aload 4) 2 197 := ⟨by decide +kernel, rfl⟩
theorem D167_197 : rDec M167 197 (.aload 7) 2 199 := ⟨by decide +kernel, rfl⟩
theorem D167_199 : rDec M167 199 (.iload 8) 2 201 := ⟨by decide +kernel, rfl⟩
theorem D167_201 : rDec M167 201 (.invokevirtual 66) 3 204 := ⟨by decide +kernel, rfl⟩
theorem D167_204 : rDec M167 204 (.areturn) 1 205 := ⟨by decide +kernel, rfl⟩
theorem D167_205 : rDec M167 205 (.iload 8) 2 207 := ⟨by decide +kernel, rfl⟩
theorem D167_207 : rDec M167 207 (.istore 5) 2 209 := ⟨by decide +kernel, rfl⟩
theorem D167_209 : rDec M167 209 (.goto (-129)) 3 212 := ⟨by decide +kernel, rfl⟩
theorem P167_205 : rSnd lab M167 205 B167_205 := by
  refine s_Il gk8 (Or.inl D167_205) ?_
  refine s_Is sk5 (show 5 < 11 from by decide) (Or.inl D167_207) ?_
  exact s_Go (pc' := 80) D167_209.1 (by decide) (s_Jb rfl)
theorem P167_181 : rSnd lab M167 181 B167_181 := by
  refine s_Al gk6 (Or.inl D167_181) ?_
  refine s_As sk4 (show 4 < 11 from by decide) (Or.inl D167_183) ?_
  refine s_Il gk8 (Or.inl D167_185) ?_
  refine s_Il gk5 (Or.inl D167_187) ?_
  refine s_Ic c_ne (i_ne (tg := 205) (by decide)) D167_189.1 P167_205 (?_ : rSnd _ _ 192 _)
  refine s_Al gk0 (Or.inr ⟨0, D167_192, rfl⟩) ?_
  refine s_Al gk1 (Or.inr ⟨1, D167_193, rfl⟩) ?_
  refine s_Al gk2 (Or.inr ⟨2, D167_194, rfl⟩) ?_
  refine s_Al gk4 (Or.inl D167_195) ?_
  refine s_Al gk7 (Or.inl D167_197) ?_
  refine s_Il gk8 (Or.inl D167_199) ?_
  refine s_Cp (ln := 3) ⟨⟨M166, by decide, rfl, (l_P (C := "WordWrightModel$1") (x0 := ({ cls := "WordWrightModel$1", name := "smallest", desc := "()LWordWrightModel$Dfa;" } : Jvm.MethodName)) (y0 := ({ cls := "WordWrightModel$Walk", name := "smallest", desc := "()LWordWrightModel$Dfa;" } : Jvm.MethodName)) (j := 51) rfl ok166 rfl wd1884 wd1886 rfl wd1694 rfl D167_201.1)⟩, ⟨M166, by decide, rfl, (l_P (C := "WordWrightModel$2") (x0 := ({ cls := "WordWrightModel$Walk", name := "most", desc := "()I" } : Jvm.MethodName)) (y0 := ({ cls := "WordWrightModel$Walk", name := "most", desc := "()I" } : Jvm.MethodName)) (j := 51) rfl ok166 rfl wd1884 wd1886 rfl wd1795 rfl D167_201.1)⟩, ⟨M166, by decide, rfl, (l_P (C := "WordWrightModel$3") (x0 := ({ cls := "WordWrightModel$Walk", name := "most", desc := "()I" } : Jvm.MethodName)) (y0 := ({ cls := "WordWrightModel$Walk", name := "most", desc := "()I" } : Jvm.MethodName)) (j := 51) rfl ok166 rfl wd1884 wd1886 rfl wd1796 rfl D167_201.1)⟩, ⟨M166, by decide, rfl, (l_P (C := "WordWrightModel$4") (x0 := ({ cls := "WordWrightModel$Walk", name := "most", desc := "()I" } : Jvm.MethodName)) (y0 := ({ cls := "WordWrightModel$Walk", name := "most", desc := "()I" } : Jvm.MethodName)) (j := 51) rfl ok166 rfl wd1884 wd1886 rfl wd1797 rfl D167_201.1)⟩, ⟨M166, by decide, rfl, (l_P (C := "WordWrightModel$5") (x0 := ({ cls := "WordWrightModel$Walk", name := "most", desc := "()I" } : Jvm.MethodName)) (y0 := ({ cls := "WordWrightModel$Walk", name := "most", desc := "()I" } : Jvm.MethodName)) (j := 51) rfl ok166 rfl wd1884 wd1886 rfl wd1798 rfl D167_201.1)⟩, ⟨M166, by decide, rfl, (l_P (C := "WordWrightModel$6") (x0 := ({ cls := "WordWrightModel$Walk", name := "most", desc := "()I" } : Jvm.MethodName)) (y0 := ({ cls := "WordWrightModel$Walk", name := "most", desc := "()I" } : Jvm.MethodName)) (j := 51) rfl ok166 rfl wd1884 wd1886 rfl wd1799 rfl D167_201.1)⟩, trivial⟩ (?_ : rSnd _ _ 204 _)
  exact s_Ra (Or.inl ⟨_, rfl⟩) D167_204.1
theorem P167_168 : rSnd lab M167 168 B167_168 := by
  refine s_Al gk6 (Or.inl D167_168) ?_
  refine s_Il gk9 (Or.inl D167_170) ?_
  refine s_Il gk10 (Or.inl D167_172) ?_
  refine s_Ast (t := 0) rfl q_iast rfl (by decide) D167_174 ?_
  refine s_Inc gk9 sk9 (show 9 < 11 from by decide) kc_i_1 D167_175 ?_
  exact s_Go (pc' := 97) D167_178.1 (by decide) (s_Jb rfl)
theorem P167_158 : rSnd lab M167 158 B167_158 := by
  refine s_Al gk7 (Or.inl D167_158) ?_
  refine s_Il gk8 (Or.inl D167_160) ?_
  refine s_Inc gk8 sk8 (show 8 < 11 from by decide) kc_i_1 D167_162 ?_
  refine s_Il gk9 (Or.inl D167_165) ?_
  refine s_Ast (t := 0) rfl q_iast rfl (by decide) D167_167 ?_
  exact P167_168
theorem P167_135 : rSnd lab M167 135 B167_135 := by
  refine s_Il gk10 (Or.inl D167_135) ?_
  refine s_Il gk8 (Or.inl D167_137) ?_
  refine s_Ic c_ne (i_ne (tg := 168) (by decide)) D167_139.1 P167_168 (?_ : rSnd _ _ 142 _)
  refine s_Il gk8 (Or.inl D167_142) ?_
  refine s_bi D167_144 kc_b_10 (by decide) ?_
  refine s_Ic c_ne (i_ne (tg := 158) (by decide)) D167_146.1 P167_158 (?_ : rSnd _ _ 149 _)
  exact rSnd_none
theorem P167_106 : rSnd lab M167 106 B167_106 := by
  refine s_Il gk10 (Or.inl D167_106) ?_
  refine s_Il gk8 (Or.inl D167_108) ?_
  refine s_Ic c_ge (i_ge (tg := 135) (by decide)) D167_110.1 P167_135 (?_ : rSnd _ _ 113 _)
  refine s_Al gk4 (Or.inl D167_113) ?_
  refine s_Al gk2 (Or.inr ⟨2, D167_115, rfl⟩) ?_
  refine s_Al gk7 (Or.inl D167_116) ?_
  refine s_Il gk10 (Or.inl D167_118) ?_
  refine s_Ial D167_120 ?_
  refine s_Il gk9 (Or.inl D167_121) ?_
  refine s_Cs (id := 205) rfl (l_S rfl ok164 rfl wd1881 wd1882 D167_123.1) (?_ : rSnd _ _ 126 _)
  refine s_If c_ne (fun _ => rfl) (fun _ _ => rfl) (b_ne (tg := 135) (by decide)) D167_126.1 P167_135 (?_ : rSnd _ _ 129 _)
  refine s_Inc gk10 sk10 (show 10 < 11 from by decide) kc_i_1 D167_129 ?_
  exact s_Go (pc' := 106) D167_132.1 (by decide) (s_Jb rfl)
theorem P167_97 : rSnd lab M167 97 B167_97 := by
  refine s_Il gk9 (Or.inl D167_97) ?_
  refine s_Il gk3 (Or.inr ⟨3, D167_99, rfl⟩) ?_
  refine s_Ic c_ge (i_ge (tg := 181) (by decide)) D167_100.1 P167_181 (?_ : rSnd _ _ 103 _)
  refine s_ic D167_103 kc_i_0 (by decide) ?_
  refine s_Is sk10 (show 10 < 11 from by decide) (Or.inl D167_104) ?_
  exact P167_106
theorem P167_80 : rSnd lab M167 80 B167_80 := by
  refine s_Il gk3 (Or.inr ⟨3, D167_80, rfl⟩) ?_
  refine s_Nwa (t := 0) rfl (q_newa (at_ := .int) (Or.inl rfl)) (fun ht _ => ht _ wd91) D167_81 ?_
  refine s_As sk6 (show 6 < 11 from by decide) (Or.inl D167_83) ?_
  refine s_bi D167_85 kc_b_11 (by decide) ?_
  refine s_Nwa (t := 0) rfl (q_newa (at_ := .int) (Or.inl rfl)) (fun ht _ => ht _ wd91) D167_87 ?_
  refine s_As sk7 (show 7 < 11 from by decide) (Or.inl D167_89) ?_
  refine s_ic D167_91 kc_i_0 (by decide) ?_
  refine s_Is sk8 (show 8 < 11 from by decide) (Or.inl D167_92) ?_
  refine s_ic D167_94 kc_i_0 (by decide) ?_
  refine s_Is sk9 (show 9 < 11 from by decide) (Or.inl D167_95) ?_
  exact P167_97
theorem P167_54 : rSnd lab M167 54 B167_54 := by
  refine s_Il gk6 (Or.inl D167_54) ?_
  refine s_Il gk3 (Or.inr ⟨3, D167_56, rfl⟩) ?_
  refine s_Ic c_ge (i_ge (tg := 80) (by decide)) D167_57.1 P167_80 (?_ : rSnd _ _ 60 _)
  refine s_Il gk5 (Or.inl D167_60) ?_
  refine s_Al gk4 (Or.inl D167_62) ?_
  refine s_Il gk6 (Or.inl D167_64) ?_
  refine s_Ial D167_66 ?_
  refine s_ic D167_67 kc_i_1 (by decide) ?_
  refine s_Bin q_iadd n_add rG2_x e_add D167_68 ?_
  refine s_Max rfl wd1880 wd533 wd18 wd534 D167_69 ?_
  refine s_Is sk5 (show 5 < 11 from by decide) (Or.inl D167_72) ?_
  refine s_Inc gk6 sk6 (show 6 < 11 from by decide) kc_i_1 D167_74 ?_
  exact s_Go (pc' := 54) D167_77.1 (by decide) (s_Jb rfl)
theorem P167_51 : rSnd lab M167 51 B167_51 := by
  refine s_ic D167_51 kc_i_0 (by decide) ?_
  refine s_Is sk6 (show 6 < 11 from by decide) (Or.inl D167_52) ?_
  exact P167_54
theorem P167_44 : rSnd lab M167 44 B167_44 := by
  refine s_Ast (t := 0) rfl q_iast rfl (by decide) D167_44 ?_
  refine s_Inc gk6 sk6 (show 6 < 11 from by decide) kc_i_1 D167_45 ?_
  exact s_Go (pc' := 11) D167_48.1 (by decide) (s_Jb rfl)
theorem P167_43 : rSnd lab M167 43 B167_43 := by
  refine s_ic D167_43 kc_i_1 (by decide) ?_
  exact P167_44
theorem P167_11 : rSnd lab M167 11 B167_11 := by
  refine s_Il gk6 (Or.inl D167_11) ?_
  refine s_Il gk3 (Or.inr ⟨3, D167_13, rfl⟩) ?_
  refine s_Ic c_ge (i_ge (tg := 51) (by decide)) D167_14.1 P167_51 (?_ : rSnd _ _ 17 _)
  refine s_Al gk4 (Or.inl D167_17) ?_
  refine s_Il gk6 (Or.inl D167_19) ?_
  refine s_Al gk0 (Or.inr ⟨0, D167_21, rfl⟩) ?_
  refine s_Al gk1 (Or.inr ⟨1, D167_22, rfl⟩) ?_
  refine s_Il gk6 (Or.inl D167_23) ?_
  refine s_Ald (t := 2) (ty := .long) rfl q_lald rfl D167_25 ?_
  refine s_Cp (ln := 3) ⟨⟨M112, by decide, rfl, (l_A (C := "WordWrightModel$1") (owner := "WordWrightModel$Walk") (x := ({ cls := "WordWrightModel$Walk", name := "ends", desc := "(J)Z" } : Jvm.MethodName)) (j := 50) rfl ok112 rfl rfl (by decide) rfl wd1848 wd1850 wd1852 wd1851 D167_26.1)⟩, ⟨M116, by decide, rfl, (l_A (C := "WordWrightModel$2") (owner := "WordWrightModel$Walk") (x := ({ cls := "WordWrightModel$Walk", name := "ends", desc := "(J)Z" } : Jvm.MethodName)) (j := 50) rfl ok116 rfl rfl (by decide) rfl wd1848 wd1850 wd1855 wd1854 D167_26.1)⟩, ⟨M120, by decide, rfl, (l_A (C := "WordWrightModel$3") (owner := "WordWrightModel$Walk") (x := ({ cls := "WordWrightModel$Walk", name := "ends", desc := "(J)Z" } : Jvm.MethodName)) (j := 50) rfl ok120 rfl rfl (by decide) rfl wd1848 wd1850 wd1858 wd1857 D167_26.1)⟩, ⟨M125, by decide, rfl, (l_A (C := "WordWrightModel$4") (owner := "WordWrightModel$Walk") (x := ({ cls := "WordWrightModel$Walk", name := "ends", desc := "(J)Z" } : Jvm.MethodName)) (j := 50) rfl ok125 rfl rfl (by decide) rfl wd1848 wd1850 wd1862 wd1861 D167_26.1)⟩, ⟨M129, by decide, rfl, (l_A (C := "WordWrightModel$5") (owner := "WordWrightModel$Walk") (x := ({ cls := "WordWrightModel$Walk", name := "ends", desc := "(J)Z" } : Jvm.MethodName)) (j := 50) rfl ok129 rfl rfl (by decide) rfl wd1848 wd1850 wd1865 wd1864 D167_26.1)⟩, ⟨M133, by decide, rfl, (l_A (C := "WordWrightModel$6") (owner := "WordWrightModel$Walk") (x := ({ cls := "WordWrightModel$Walk", name := "ends", desc := "(J)Z" } : Jvm.MethodName)) (j := 50) rfl ok133 rfl rfl (by decide) rfl wd1848 wd1850 wd1868 wd1867 D167_26.1)⟩, trivial⟩ (?_ : rSnd _ _ 29 _)
  refine s_Al gk0 (Or.inr ⟨0, D167_29, rfl⟩) ?_
  refine s_Al gk1 (Or.inr ⟨1, D167_30, rfl⟩) ?_
  refine s_ic D167_31 kc_i_0 (by decide) ?_
  refine s_Ald (t := 2) (ty := .long) rfl q_lald rfl D167_32 ?_
  refine s_Cp (ln := 3) ⟨⟨M112, by decide, rfl, (l_A (C := "WordWrightModel$1") (owner := "WordWrightModel$Walk") (x := ({ cls := "WordWrightModel$Walk", name := "ends", desc := "(J)Z" } : Jvm.MethodName)) (j := 50) rfl ok112 rfl rfl (by decide) rfl wd1848 wd1850 wd1852 wd1851 D167_33.1)⟩, ⟨M116, by decide, rfl, (l_A (C := "WordWrightModel$2") (owner := "WordWrightModel$Walk") (x := ({ cls := "WordWrightModel$Walk", name := "ends", desc := "(J)Z" } : Jvm.MethodName)) (j := 50) rfl ok116 rfl rfl (by decide) rfl wd1848 wd1850 wd1855 wd1854 D167_33.1)⟩, ⟨M120, by decide, rfl, (l_A (C := "WordWrightModel$3") (owner := "WordWrightModel$Walk") (x := ({ cls := "WordWrightModel$Walk", name := "ends", desc := "(J)Z" } : Jvm.MethodName)) (j := 50) rfl ok120 rfl rfl (by decide) rfl wd1848 wd1850 wd1858 wd1857 D167_33.1)⟩, ⟨M125, by decide, rfl, (l_A (C := "WordWrightModel$4") (owner := "WordWrightModel$Walk") (x := ({ cls := "WordWrightModel$Walk", name := "ends", desc := "(J)Z" } : Jvm.MethodName)) (j := 50) rfl ok125 rfl rfl (by decide) rfl wd1848 wd1850 wd1862 wd1861 D167_33.1)⟩, ⟨M129, by decide, rfl, (l_A (C := "WordWrightModel$5") (owner := "WordWrightModel$Walk") (x := ({ cls := "WordWrightModel$Walk", name := "ends", desc := "(J)Z" } : Jvm.MethodName)) (j := 50) rfl ok129 rfl rfl (by decide) rfl wd1848 wd1850 wd1865 wd1864 D167_33.1)⟩, ⟨M133, by decide, rfl, (l_A (C := "WordWrightModel$6") (owner := "WordWrightModel$Walk") (x := ({ cls := "WordWrightModel$Walk", name := "ends", desc := "(J)Z" } : Jvm.MethodName)) (j := 50) rfl ok133 rfl rfl (by decide) rfl wd1848 wd1850 wd1868 wd1867 D167_33.1)⟩, trivial⟩ (?_ : rSnd _ _ 36 _)
  refine s_Ic c_ne (i_ne (tg := 43) (by decide)) D167_36.1 P167_43 (?_ : rSnd _ _ 39 _)
  refine s_ic D167_39 kc_i_0 (by decide) ?_
  exact s_Go (pc' := 44) D167_40.1 (by decide) P167_44
theorem P167_0 : rSnd lab M167 0 B167_0 := by
  refine s_Ent ?_
  refine s_Il gk3 (Or.inr ⟨3, D167_0, rfl⟩) ?_
  refine s_Nwa (t := 0) rfl (q_newa (at_ := .int) (Or.inl rfl)) (fun ht _ => ht _ wd91) D167_1 ?_
  refine s_As sk4 (show 4 < 11 from by decide) (Or.inl D167_3) ?_
  refine s_ic D167_5 kc_i_1 (by decide) ?_
  refine s_Is sk5 (show 5 < 11 from by decide) (Or.inl D167_6) ?_
  refine s_ic D167_8 kc_i_0 (by decide) ?_
  refine s_Is sk6 (show 6 < 11 from by decide) (Or.inl D167_9) ?_
  exact P167_11
theorem D168_0 : rDec M168 0 (.lload_n 0) 1 1 := ⟨by decide +kernel, rfl⟩
theorem D168_1 : rDec M168 1 (.ldc2_w 44) 3 4 := ⟨by decide +kernel, rfl⟩
theorem D168_4 : rDec M168 4 (.lmul) 1 5 := ⟨by decide +kernel, rfl⟩
theorem D168_5 : rDec M168 5 (.bipush 40) 2 7 := ⟨by decide +kernel, rfl⟩
theorem D168_7 : rDec M168 7 (.lushr) 1 8 := ⟨by decide +kernel, rfl⟩
theorem D168_8 : rDec M168 8 (.aload_n 2) 1 9 := ⟨by decide +kernel, rfl⟩
theorem D168_9 : rDec M168 9 (.arraylength) 1 10 := ⟨by decide +kernel, rfl⟩
theorem D168_10 : rDec M168 10 (.iconst 1) 1 11 := ⟨by decide +kernel, rfl⟩
theorem D168_11 : rDec M168 11 (.isub) 1 12 := ⟨by decide +kernel, rfl⟩
theorem D168_12 : rDec M168 12 (.i2l) 1 13 := ⟨by decide +kernel, rfl⟩
theorem D168_13 : rDec M168 13 (.land) 1 14 := ⟨by decide +kernel, rfl⟩
theorem D168_14 : rDec M168 14 (.l2i) 1 15 := ⟨by decide +kernel, rfl⟩
theorem D168_15 : rDec M168 15 (.istore 4) 2 17 := ⟨by decide +kernel, rfl⟩
theorem D168_17 : rDec M168 17 (.aload_n 2) 1 18 := ⟨by decide +kernel, rfl⟩
theorem D168_18 : rDec M168 18 (.iload 4) 2 20 := ⟨by decide +kernel, rfl⟩
theorem D168_20 : rDec M168 20 (.iaload) 1 21 := ⟨by decide +kernel, rfl⟩
theorem D168_21 : rDec M168 21 (.ifCond .le 30) 3 24 := ⟨by decide +kernel, rfl⟩
theorem D168_24 : rDec M168 24 (.aload_n 3) 1 25 := ⟨by decide +kernel, rfl⟩
theorem D168_25 : rDec M168 25 (.aload_n 2) 1 26 := ⟨by decide +kernel, rfl⟩
theorem D168_26 : rDec M168 26 (.iload 4) 2 28 := ⟨by decide +kernel, rfl⟩
theorem D168_28 : rDec M168 28 (.iaload) 1 29 := ⟨by decide +kernel, rfl⟩
theorem D168_29 : rDec M168 29 (.iconst 1) 1 30 := ⟨by decide +kernel, rfl⟩
theorem D168_30 : rDec M168 30 (.isub) 1 31 := ⟨by decide +kernel, rfl⟩
theorem D168_31 : rDec M168 31 (.laload) 1 32 := ⟨by decide +kernel, rfl⟩
theorem D168_32 : rDec M168 32 (.lload_n 0) 1 33 := ⟨by decide +kernel, rfl⟩
theorem D168_33 : rDec M168 33 (.lcmp) 1 34 := ⟨by decide +kernel, rfl⟩
theorem D168_34 : rDec M168 34 (.ifCond .eq 17) 3 37 := ⟨by decide +kernel, rfl⟩
theorem D168_51 : rDec M168 51 (.iload 4) 2 53 := ⟨by decide +kernel, rfl⟩
theorem D168_53 : rDec M168 53 (.ireturn) 1 54 := ⟨by decide +kernel, rfl⟩
theorem P168_51 : rSnd lab M168 51 B168_51 := by
  refine s_Il gk4 (Or.inl D168_51) ?_
  exact s_Ri (Or.inl rfl) D168_53.1
theorem P168_0 : rSnd lab M168 0 B168_0 := by
  refine s_Ent ?_
  refine s_Ll gk0 (Or.inr ⟨0, D168_0, rfl⟩) ?_
  refine s_ld2 rfl wd1748 D168_1 kc_J_m7046029254386353131 (by decide) ?_
  refine s_BinL q_lmul nl_mul D168_4 ?_
  refine s_bi D168_5 kc_b_40 (by decide) ?_
  refine s_ShL q_lushr nl_ush D168_7 ?_
  refine s_Al gk2 (Or.inr ⟨2, D168_8, rfl⟩) ?_
  refine s_Len D168_9 ?_
  refine s_ic D168_10 kc_i_1 (by decide) ?_
  refine s_Bin q_isub n_sub rG2_x rE2_x D168_11 ?_
  refine s_I2l D168_12 ?_
  refine s_BinL q_land nl_and D168_13 ?_
  refine s_L2i D168_14 ?_
  refine s_Is sk4 (show 4 < 5 from by decide) (Or.inl D168_15) ?_
  refine s_Al gk2 (Or.inr ⟨2, D168_17, rfl⟩) ?_
  refine s_Il gk4 (Or.inl D168_18) ?_
  refine s_Ial D168_20 ?_
  refine s_If c_le (fun _ => rfl) (fun _ _ => rfl) (b_le (tg := 51) (by decide)) D168_21.1 P168_51 (?_ : rSnd _ _ 24 _)
  refine s_Al gk3 (Or.inr ⟨3, D168_24, rfl⟩) ?_
  refine s_Al gk2 (Or.inr ⟨2, D168_25, rfl⟩) ?_
  refine s_Il gk4 (Or.inl D168_26) ?_
  refine s_Ial D168_28 ?_
  refine s_ic D168_29 kc_i_1 (by decide) ?_
  refine s_Bin q_isub n_sub rG2_x rE2_x D168_30 ?_
  refine s_Ald (t := 2) (ty := .long) rfl q_lald rfl D168_31 ?_
  refine s_Ll gk0 (Or.inr ⟨0, D168_32, rfl⟩) ?_
  refine s_Lcmp D168_33 ?_
  refine s_If c_eq (fun _ => rfl) (fun _ _ => rfl) (b_eq (tg := 51) (by decide)) D168_34.1 P168_51 (?_ : rSnd _ _ 37 _)
  exact rSnd_none
theorem D169_0 : rDec M169 0 (.sipush 4096) 3 3 := ⟨by decide +kernel, rfl⟩
theorem D169_3 : rDec M169 3 (.istore_n 1) 1 4 := ⟨by decide +kernel, rfl⟩
theorem D169_4 : rDec M169 4 (.bipush 64) 2 6 := ⟨by decide +kernel, rfl⟩
theorem D169_6 : rDec M169 6 (.newarray .long) 2 8 := ⟨by decide +kernel, rfl⟩
theorem D169_8 : rDec M169 8 (.astore_n 2) 1 9 := ⟨by decide +kernel, rfl⟩
theorem D169_9 : rDec M169 9 (.iload_n 1) 1 10 := ⟨by decide +kernel, rfl⟩
theorem D169_10 : rDec M169 10 (.newarray .int) 2 12 := ⟨by decide +kernel, rfl⟩
theorem D169_12 : rDec M169 12 (.astore_n 3) 1 13 := ⟨by decide +kernel, rfl⟩
theorem D169_13 : rDec M169 13 (.iconst 0) 1 14 := ⟨by decide +kernel, rfl⟩
theorem D169_14 : rDec M169 14 (.istore 4) 2 16 := ⟨by decide +kernel, rfl⟩
theorem D169_16 : rDec M169 16 (.sipush 256) 3 19 := ⟨by decide +kernel, rfl⟩
theorem D169_19 : rDec M169 19 (.newarray .int) 2 21 := ⟨by decide +kernel, rfl⟩
theorem D169_21 : rDec M169 21 (.astore 5) 2 23 := ⟨by decide +kernel, rfl⟩
theorem D169_23 : rDec M169 23 (.aload_n 2) 1 24 := ⟨by decide +kernel, rfl⟩
theorem D169_24 : rDec M169 24 (.iload 4) 2 26 := ⟨by decide +kernel, rfl⟩
theorem D169_26 : rDec M169 26 (.iinc 4 1) 3 29 := ⟨by decide +kernel, rfl⟩
theorem D169_29 : rDec M169 29 (.aload_n 0) 1 30 := ⟨by decide +kernel, rfl⟩
theorem D169_30 : rDec M169 30 (.invokevirtual 10) 3 33 := ⟨by decide +kernel, rfl⟩
theorem D169_33 : rDec M169 33 (.lastore) 1 34 := ⟨by decide +kernel, rfl⟩
theorem D169_34 : rDec M169 34 (.aload_n 3) 1 35 := ⟨by decide +kernel, rfl⟩
theorem D169_35 : rDec M169 35 (.aload_n 2) 1 36 := ⟨by decide +kernel, rfl⟩
theorem D169_36 : rDec M169 36 (.iconst 0) 1 37 := ⟨by decide +kernel, rfl⟩
theorem D169_37 : rDec M169 37 (.laload) 1 38 := ⟨by decide +kernel, rfl⟩
theorem D169_38 : rDec M169 38 (.aload_n 3) 1 39 := ⟨by decide +kernel, rfl⟩
theorem D169_39 : rDec M169 39 (.aload_n 2) 1 40 := ⟨by decide +kernel, rfl⟩
theorem D169_40 : rDec M169 40 (.invokestatic 16) 3 43 := ⟨by decide +kernel, rfl⟩
theorem D169_43 : rDec M169 43 (.iconst 1) 1 44 := ⟨by decide +kernel, rfl⟩
theorem D169_44 : rDec M169 44 (.iastore) 1 45 := ⟨by decide +kernel, rfl⟩
theorem D169_45 : rDec M169 45 (.iconst 0) 1 46 := ⟨by decide +kernel, rfl⟩
theorem D169_46 : rDec M169 46 (.istore 6) 2 48 := ⟨by decide +kernel, rfl⟩
theorem D169_48 : rDec M169 48 (.iload 6) 2 50 := ⟨by decide +kernel, rfl⟩
theorem D169_50 : rDec M169 50 (.iload 4) 2 52 := ⟨by decide +kernel, rfl⟩
theorem D169_52 : rDec M169 52 (.if_icmp .ge 176) 3 55 := ⟨by decide +kernel, rfl⟩
theorem D169_55 : rDec M169 55 (.iconst 0) 1 56 := ⟨by decide +kernel, rfl⟩
theorem D169_56 : rDec M169 56 (.istore 7) 2 58 := ⟨by decide +kernel, rfl⟩
theorem D169_58 : rDec M169 58 (.iload 7) 2 60 := ⟨by decide +kernel, rfl⟩
theorem D169_60 : rDec M169 60 (.iconst 4) 1 61 := ⟨by decide +kernel, rfl⟩
theorem D169_61 : rDec M169 61 (.if_icmp .ge 161) 3 64 := ⟨by decide +kernel, rfl⟩
theorem D169_64 : rDec M169 64 (.aload_n 0) 1 65 := ⟨by decide +kernel, rfl⟩
theorem D169_65 : rDec M169 65 (.aload_n 2) 1 66 := ⟨by decide +kernel, rfl⟩
theorem D169_66 : rDec M169 66 (.iload 6) 2 68 := ⟨by decide +kernel, rfl⟩
theorem D169_68 : rDec M169 68 (.laload) 1 69 := ⟨by decide +kernel, rfl⟩
theorem D169_69 : rDec M169 69 (.iload 7) 2 71 := ⟨by decide +kernel, rfl⟩
theorem D169_71 : rDec M169 71 (.invokevirtual 20) 3 74 := ⟨by decide +kernel, rfl⟩
theorem D169_74 : rDec M169 74 (.lstore 8) 2 76 := ⟨by decide +kernel, rfl⟩
theorem D169_76 : rDec M169 76 (.lload 8) 2 78 := ⟨by decide +kernel, rfl⟩
theorem D169_78 : rDec M169 78 (.aload_n 3) 1 79 := ⟨by decide +kernel, rfl⟩
theorem D169_79 : rDec M169 79 (.aload_n 2) 1 80 := ⟨by decide +kernel, rfl⟩
theorem D169_80 : rDec M169 80 (.invokestatic 16) 3 83 := ⟨by decide +kernel, rfl⟩
theorem D169_83 : rDec M169 83 (.istore 10) 2 85 := ⟨by decide +kernel, rfl⟩
theorem D169_85 : rDec M169 85 (.aload_n 3) 1 86 := ⟨by decide +kernel, rfl⟩
theorem D169_86 : rDec M169 86 (.iload 10) 2 88 := ⟨by decide +kernel, rfl⟩
theorem D169_88 : rDec M169 88 (.iaload) 1 89 := ⟨by decide +kernel, rfl⟩
theorem D169_89 : rDec M169 89 (.ifCond .ne 111) 3 92 := ⟨by decide +kernel, rfl⟩
theorem D169_92 : rDec M169 92 (.iload 4) 2 94 := ⟨by decide +kernel, rfl⟩
theorem D169_94 : rDec M169 94 (.aload_n 0) 1 95 := ⟨by decide +kernel, rfl⟩
theorem D169_95 : rDec M169 95 (.invokevirtual 24) 3 98 := ⟨by decide +kernel, rfl⟩
theorem D169_98 : rDec M169 98 (.if_icmp .ne 12) 3 101 := ⟨by decide +kernel, rfl⟩
theorem D169_110 : rDec M169 110 (.iload 4) 2 112 := ⟨by decide +kernel, rfl⟩
theorem D169_112 : rDec M169 112 (.aload_n 2) 1 113 := ⟨by decide +kernel, rfl⟩
theorem D169_113 : rDec M169 113 (.arraylength) 1 114 := ⟨by decide +kernel, rfl⟩
theorem D169_114 : rDec M169 114 (.if_icmp .ne 15) 3 117 := ⟨by decide +kernel, rfl⟩
theorem D169_129 : rDec M169 129 (.aload_n 2) 1 130 := ⟨by decide +kernel, rfl⟩
theorem D169_130 : rDec M169 130 (.iload 4) 2 132 := ⟨by decide +kernel, rfl⟩
theorem D169_132 : rDec M169 132 (.iinc 4 1) 3 135 := ⟨by decide +kernel, rfl⟩
theorem D169_135 : rDec M169 135 (.lload 8) 2 137 := ⟨by decide +kernel, rfl⟩
theorem D169_137 : rDec M169 137 (.lastore) 1 138 := ⟨by decide +kernel, rfl⟩
theorem D169_138 : rDec M169 138 (.aload_n 3) 1 139 := ⟨by decide +kernel, rfl⟩
theorem D169_139 : rDec M169 139 (.iload 10) 2 141 := ⟨by decide +kernel, rfl⟩
theorem D169_141 : rDec M169 141 (.iload 4) 2 143 := ⟨by decide +kernel, rfl⟩
theorem D169_143 : rDec M169 143 (.iastore) 1 144 := ⟨by decide +kernel, rfl⟩
theorem D169_144 : rDec M169 144 (.iconst 2) 1 145 := ⟨by decide +kernel, rfl⟩
theorem D169_145 : rDec M169 145 (.iload 4) 2 147 := ⟨by decide +kernel, rfl⟩
theorem D169_147 : rDec M169 147 (.imul) 1 148 := ⟨by decide +kernel, rfl⟩
theorem D169_148 : rDec M169 148 (.aload_n 3) 1 149 := ⟨by decide +kernel, rfl⟩
theorem D169_149 : rDec M169 149 (.arraylength) 1 150 := ⟨by decide +kernel, rfl⟩
theorem D169_150 : rDec M169 150 (.if_icmp .le 50) 3 153 := ⟨by decide +kernel, rfl⟩
theorem D169_200 : rDec M169 200 (.aload 5) 2 202 := ⟨by decide +kernel, rfl⟩
theorem D169_202 : rDec M169 202 (.iload 6) 2 204 := ⟨by decide +kernel, rfl⟩
theorem D169_204 : rDec M169 204 (.iconst 4) 1 205 := ⟨by decide +kernel, rfl⟩
theorem D169_205 : rDec M169 205 (.imul) 1 206 := ⟨by decide +kernel, rfl⟩
theorem D169_206 : rDec M169 206 (.iload 7) 2 208 := ⟨by decide +kernel, rfl⟩
theorem D169_208 : rDec M169 208 (.iadd) 1 209 := ⟨by decide +kernel, rfl⟩
theorem D169_209 : rDec M169 209 (.aload_n 3) 1 210 := ⟨by decide +kernel, rfl⟩
theorem D169_210 : rDec M169 210 (.iload 10) 2 212 := ⟨by decide +kernel, rfl⟩
theorem D169_212 : rDec M169 212 (.iaload) 1 213 := ⟨by decide +kernel, rfl⟩
theorem D169_213 : rDec M169 213 (.iconst 1) 1 214 := ⟨by decide +kernel, rfl⟩
theorem D169_214 : rDec M169 214 (.isub) 1 215 := ⟨by decide +kernel, rfl⟩
theorem D169_215 : rDec M169 215 (.iastore) 1 216 := ⟨by decide +kernel, rfl⟩
theorem D169_216 : rDec M169 216 (.iinc 7 1) 3 219 := ⟨by decide +kernel, rfl⟩
theorem D169_219 : rDec M169 219 (.goto (-161)) 3 222 := ⟨by decide +kernel, rfl⟩
theorem D169_222 : rDec M169 222 (.iinc 6 1) 3 225 := ⟨by decide +kernel, rfl⟩
theorem D169_225 : rDec M169 225 (.goto (-177)) 3 228 := ⟨by decide +kernel, rfl⟩
theorem D169_228 : rDec M169 228 (.aload_n 0) 1 229 := ⟨by decide +kernel, rfl⟩
theorem D169_229 : rDec M169 229 (.aload_n 2) 1 230 := ⟨by decide +kernel, rfl⟩
theorem D169_230 : rDec M169 230 (.aload 5) 2 232 := ⟨by decide +kernel, rfl⟩
theorem D169_232 : rDec M169 232 (.iload 4) 2 234 := ⟨by decide +kernel, rfl⟩
theorem D169_234 : rDec M169 234 (.invokevirtual 40) 3 237 := ⟨by decide +kernel, rfl⟩
theorem D169_237 : rDec M169 237 (.areturn) 1 238 := ⟨by decide +kernel, rfl⟩
theorem P169_228 : rSnd lab M169 228 B169_228 := by
  refine s_Al gk0 (Or.inr ⟨0, D169_228, rfl⟩) ?_
  refine s_Al gk2 (Or.inr ⟨2, D169_229, rfl⟩) ?_
  refine s_Al gk5 (Or.inl D169_230) ?_
  refine s_Il gk4 (Or.inl D169_232) ?_
  refine s_Cp (ln := 3) ⟨⟨M167, by decide, rfl, (l_P (C := "WordWrightModel$1") (x0 := ({ cls := "WordWrightModel$1", name := "smallest", desc := "()LWordWrightModel$Dfa;" } : Jvm.MethodName)) (y0 := ({ cls := "WordWrightModel$Walk", name := "smallest", desc := "()LWordWrightModel$Dfa;" } : Jvm.MethodName)) (j := 49) rfl ok167 rfl wd1844 wd1846 rfl wd1694 rfl D169_234.1)⟩, ⟨M167, by decide, rfl, (l_P (C := "WordWrightModel$2") (x0 := ({ cls := "WordWrightModel$Walk", name := "most", desc := "()I" } : Jvm.MethodName)) (y0 := ({ cls := "WordWrightModel$Walk", name := "most", desc := "()I" } : Jvm.MethodName)) (j := 49) rfl ok167 rfl wd1844 wd1846 rfl wd1795 rfl D169_234.1)⟩, ⟨M167, by decide, rfl, (l_P (C := "WordWrightModel$3") (x0 := ({ cls := "WordWrightModel$Walk", name := "most", desc := "()I" } : Jvm.MethodName)) (y0 := ({ cls := "WordWrightModel$Walk", name := "most", desc := "()I" } : Jvm.MethodName)) (j := 49) rfl ok167 rfl wd1844 wd1846 rfl wd1796 rfl D169_234.1)⟩, ⟨M167, by decide, rfl, (l_P (C := "WordWrightModel$4") (x0 := ({ cls := "WordWrightModel$Walk", name := "most", desc := "()I" } : Jvm.MethodName)) (y0 := ({ cls := "WordWrightModel$Walk", name := "most", desc := "()I" } : Jvm.MethodName)) (j := 49) rfl ok167 rfl wd1844 wd1846 rfl wd1797 rfl D169_234.1)⟩, ⟨M167, by decide, rfl, (l_P (C := "WordWrightModel$5") (x0 := ({ cls := "WordWrightModel$Walk", name := "most", desc := "()I" } : Jvm.MethodName)) (y0 := ({ cls := "WordWrightModel$Walk", name := "most", desc := "()I" } : Jvm.MethodName)) (j := 49) rfl ok167 rfl wd1844 wd1846 rfl wd1798 rfl D169_234.1)⟩, ⟨M167, by decide, rfl, (l_P (C := "WordWrightModel$6") (x0 := ({ cls := "WordWrightModel$Walk", name := "most", desc := "()I" } : Jvm.MethodName)) (y0 := ({ cls := "WordWrightModel$Walk", name := "most", desc := "()I" } : Jvm.MethodName)) (j := 49) rfl ok167 rfl wd1844 wd1846 rfl wd1799 rfl D169_234.1)⟩, trivial⟩ (?_ : rSnd _ _ 237 _)
  exact s_Ra (Or.inl ⟨_, rfl⟩) D169_237.1
theorem P169_222 : rSnd lab M169 222 B169_222 := by
  refine s_Inc gk6 sk6 (show 6 < 12 from by decide) kc_i_1 D169_222 ?_
  exact s_Go (pc' := 48) D169_225.1 (by decide) (s_Jb rfl)
theorem P169_200 : rSnd lab M169 200 B169_200 := by
  refine s_Al gk5 (Or.inl D169_200) ?_
  refine s_Il gk6 (Or.inl D169_202) ?_
  refine s_ic D169_204 kc_i_4 (by decide) ?_
  refine s_Bin q_imul n_mul rG2_x rE2_x D169_205 ?_
  refine s_Il gk7 (Or.inl D169_206) ?_
  refine s_Bin q_iadd n_add rG2_x e_add D169_208 ?_
  refine s_Al gk3 (Or.inr ⟨3, D169_209, rfl⟩) ?_
  refine s_Il gk10 (Or.inl D169_210) ?_
  refine s_Ial D169_212 ?_
  refine s_ic D169_213 kc_i_1 (by decide) ?_
  refine s_Bin q_isub n_sub rG2_x rE2_x D169_214 ?_
  refine s_Ast (t := 0) rfl q_iast rfl (by decide) D169_215 ?_
  refine s_Inc gk7 sk7 (show 7 < 12 from by decide) kc_i_1 D169_216 ?_
  exact s_Go (pc' := 58) D169_219.1 (by decide) (s_Jb rfl)
theorem P169_129 : rSnd lab M169 129 B169_129 := by
  refine s_Al gk2 (Or.inr ⟨2, D169_129, rfl⟩) ?_
  refine s_Il gk4 (Or.inl D169_130) ?_
  refine s_Inc gk4 sk4 (show 4 < 12 from by decide) kc_i_1 D169_132 ?_
  refine s_Ll gk8 (Or.inl D169_135) ?_
  refine s_Ast (t := 2) rfl q_last rfl (by decide) D169_137 ?_
  refine s_Al gk3 (Or.inr ⟨3, D169_138, rfl⟩) ?_
  refine s_Il gk10 (Or.inl D169_139) ?_
  refine s_Il gk4 (Or.inl D169_141) ?_
  refine s_Ast (t := 0) rfl q_iast rfl (by decide) D169_143 ?_
  refine s_ic D169_144 kc_i_2 (by decide) ?_
  refine s_Il gk4 (Or.inl D169_145) ?_
  refine s_Bin q_imul n_mul rG2_x rE2_x D169_147 ?_
  refine s_Al gk3 (Or.inr ⟨3, D169_148, rfl⟩) ?_
  refine s_Len D169_149 ?_
  refine s_Ic c_le (i_le (tg := 200) (by decide)) D169_150.1 P169_200 (?_ : rSnd _ _ 153 _)
  exact rSnd_none
theorem P169_110 : rSnd lab M169 110 B169_110 := by
  refine s_Il gk4 (Or.inl D169_110) ?_
  refine s_Al gk2 (Or.inr ⟨2, D169_112, rfl⟩) ?_
  refine s_Len D169_113 ?_
  refine s_Ic c_ne (i_ne (tg := 129) (by decide)) D169_114.1 P169_129 (?_ : rSnd _ _ 117 _)
  exact rSnd_none
theorem P169_58 : rSnd lab M169 58 B169_58 := by
  refine s_Il gk7 (Or.inl D169_58) ?_
  refine s_ic D169_60 kc_i_4 (by decide) ?_
  refine s_Ic c_ge (i_ge (tg := 222) (by decide)) D169_61.1 P169_222 (?_ : rSnd _ _ 64 _)
  refine s_Al gk0 (Or.inr ⟨0, D169_64, rfl⟩) ?_
  refine s_Al gk2 (Or.inr ⟨2, D169_65, rfl⟩) ?_
  refine s_Il gk6 (Or.inl D169_66) ?_
  refine s_Ald (t := 2) (ty := .long) rfl q_lald rfl D169_68 ?_
  refine s_Il gk7 (Or.inl D169_69) ?_
  refine s_Cp (ln := 3) ⟨⟨M114, by decide, rfl, (l_A (C := "WordWrightModel$1") (owner := "WordWrightModel$Walk") (x := ({ cls := "WordWrightModel$Walk", name := "go", desc := "(JI)J" } : Jvm.MethodName)) (j := 48) rfl ok114 rfl rfl (by decide) rfl wd1749 wd1751 wd1753 wd1752 D169_71.1)⟩, ⟨M118, by decide, rfl, (l_A (C := "WordWrightModel$2") (owner := "WordWrightModel$Walk") (x := ({ cls := "WordWrightModel$Walk", name := "go", desc := "(JI)J" } : Jvm.MethodName)) (j := 48) rfl ok118 rfl rfl (by decide) rfl wd1749 wd1751 wd1757 wd1756 D169_71.1)⟩, ⟨M122, by decide, rfl, (l_A (C := "WordWrightModel$3") (owner := "WordWrightModel$Walk") (x := ({ cls := "WordWrightModel$Walk", name := "go", desc := "(JI)J" } : Jvm.MethodName)) (j := 48) rfl ok122 rfl rfl (by decide) rfl wd1749 wd1751 wd1762 wd1761 D169_71.1)⟩, ⟨M127, by decide, rfl, (l_A (C := "WordWrightModel$4") (owner := "WordWrightModel$Walk") (x := ({ cls := "WordWrightModel$Walk", name := "go", desc := "(JI)J" } : Jvm.MethodName)) (j := 48) rfl ok127 rfl rfl (by decide) rfl wd1749 wd1751 wd1770 wd1769 D169_71.1)⟩, ⟨M131, by decide, rfl, (l_A (C := "WordWrightModel$5") (owner := "WordWrightModel$Walk") (x := ({ cls := "WordWrightModel$Walk", name := "go", desc := "(JI)J" } : Jvm.MethodName)) (j := 48) rfl ok131 rfl rfl (by decide) rfl wd1749 wd1751 wd1778 wd1777 D169_71.1)⟩, ⟨M135, by decide, rfl, (l_A (C := "WordWrightModel$6") (owner := "WordWrightModel$Walk") (x := ({ cls := "WordWrightModel$Walk", name := "go", desc := "(JI)J" } : Jvm.MethodName)) (j := 48) rfl ok135 rfl rfl (by decide) rfl wd1749 wd1751 wd1782 wd1781 D169_71.1)⟩, trivial⟩ (?_ : rSnd _ _ 74 _)
  refine s_Ls dk8 (show 9 < 12 from by decide) (Or.inl D169_74) ?_
  refine s_Ll gk8 (Or.inl D169_76) ?_
  refine s_Al gk3 (Or.inr ⟨3, D169_78, rfl⟩) ?_
  refine s_Al gk2 (Or.inr ⟨2, D169_79, rfl⟩) ?_
  refine s_Cs (id := 218) rfl (l_S rfl ok168 rfl wd1745 wd1746 D169_80.1) (?_ : rSnd _ _ 83 _)
  refine s_Is sk10 (show 10 < 12 from by decide) (Or.inl D169_83) ?_
  refine s_Al gk3 (Or.inr ⟨3, D169_85, rfl⟩) ?_
  refine s_Il gk10 (Or.inl D169_86) ?_
  refine s_Ial D169_88 ?_
  refine s_If c_ne (fun _ => rfl) (fun _ _ => rfl) (b_ne (tg := 200) (by decide)) D169_89.1 P169_200 (?_ : rSnd _ _ 92 _)
  refine s_Il gk4 (Or.inl D169_92) ?_
  refine s_Al gk0 (Or.inr ⟨0, D169_94, rfl⟩) ?_
  refine s_Cp (ln := 3) ⟨⟨M165, by decide, rfl, (l_U (C := "WordWrightModel$1") (owner := "WordWrightModel$Walk") (x := ({ cls := "WordWrightModel$Walk", name := "most", desc := "()I" } : Jvm.MethodName)) rfl ok165 rfl rfl wd1791 wd1793 wd1792 wd1794 D169_95.1)⟩, ⟨M165, by decide, rfl, (l_U (C := "WordWrightModel$4") (owner := "WordWrightModel$Walk") (x := ({ cls := "WordWrightModel$Walk", name := "most", desc := "()I" } : Jvm.MethodName)) rfl ok165 rfl rfl wd1791 wd1793 wd1792 wd1797 D169_95.1)⟩, trivial⟩ (?_ : rSnd _ _ 98 _)
  refine s_Ic c_ne (i_ne (tg := 110) (by decide)) D169_98.1 P169_110 (?_ : rSnd _ _ 101 _)
  exact rSnd_none
theorem P169_48 : rSnd lab M169 48 B169_48 := by
  refine s_Il gk6 (Or.inl D169_48) ?_
  refine s_Il gk4 (Or.inl D169_50) ?_
  refine s_Ic c_ge (i_ge (tg := 228) (by decide)) D169_52.1 P169_228 (?_ : rSnd _ _ 55 _)
  refine s_ic D169_55 kc_i_0 (by decide) ?_
  refine s_Is sk7 (show 7 < 12 from by decide) (Or.inl D169_56) ?_
  exact P169_58
theorem P169_0 : rSnd lab M169 0 B169_0 := by
  refine s_Ent ?_
  refine s_si D169_0 kc_s_4096 (by decide) ?_
  refine s_Is sk1 (show 1 < 12 from by decide) (Or.inr ⟨1, D169_3, rfl⟩) ?_
  refine s_bi D169_4 kc_b_64 (by decide) ?_
  refine s_Nwa (t := 2) rfl (q_newa (at_ := .long) (Or.inr (Or.inl rfl))) (fun ht _ => ht _ wd146) D169_6 ?_
  refine s_As sk2 (show 2 < 12 from by decide) (Or.inr ⟨2, D169_8, rfl⟩) ?_
  refine s_Il gk1 (Or.inr ⟨1, D169_9, rfl⟩) ?_
  refine s_Nwa (t := 0) rfl (q_newa (at_ := .int) (Or.inl rfl)) (fun ht _ => ht _ wd91) D169_10 ?_
  refine s_As sk3 (show 3 < 12 from by decide) (Or.inr ⟨3, D169_12, rfl⟩) ?_
  refine s_ic D169_13 kc_i_0 (by decide) ?_
  refine s_Is sk4 (show 4 < 12 from by decide) (Or.inl D169_14) ?_
  refine s_si D169_16 kc_s_256 (by decide) ?_
  refine s_Nwa (t := 0) rfl (q_newa (at_ := .int) (Or.inl rfl)) (fun ht _ => ht _ wd91) D169_19 ?_
  refine s_As sk5 (show 5 < 12 from by decide) (Or.inl D169_21) ?_
  refine s_Al gk2 (Or.inr ⟨2, D169_23, rfl⟩) ?_
  refine s_Il gk4 (Or.inl D169_24) ?_
  refine s_Inc gk4 sk4 (show 4 < 12 from by decide) kc_i_1 D169_26 ?_
  refine s_Al gk0 (Or.inr ⟨0, D169_29, rfl⟩) ?_
  refine s_Cp (ln := 3) ⟨⟨M113, by decide, rfl, (l_A (C := "WordWrightModel$1") (owner := "WordWrightModel$Walk") (x := ({ cls := "WordWrightModel$Walk", name := "first", desc := "()J" } : Jvm.MethodName)) (j := 47) rfl ok113 rfl rfl (by decide) rfl wd1697 wd1699 wd1701 wd1700 D169_30.1)⟩, ⟨M117, by decide, rfl, (l_A (C := "WordWrightModel$2") (owner := "WordWrightModel$Walk") (x := ({ cls := "WordWrightModel$Walk", name := "first", desc := "()J" } : Jvm.MethodName)) (j := 47) rfl ok117 rfl rfl (by decide) rfl wd1697 wd1699 wd1704 wd1703 D169_30.1)⟩, ⟨M121, by decide, rfl, (l_A (C := "WordWrightModel$3") (owner := "WordWrightModel$Walk") (x := ({ cls := "WordWrightModel$Walk", name := "first", desc := "()J" } : Jvm.MethodName)) (j := 47) rfl ok121 rfl rfl (by decide) rfl wd1697 wd1699 wd1707 wd1706 D169_30.1)⟩, ⟨M126, by decide, rfl, (l_A (C := "WordWrightModel$4") (owner := "WordWrightModel$Walk") (x := ({ cls := "WordWrightModel$Walk", name := "first", desc := "()J" } : Jvm.MethodName)) (j := 47) rfl ok126 rfl rfl (by decide) rfl wd1697 wd1699 wd1716 wd1715 D169_30.1)⟩, ⟨M130, by decide, rfl, (l_A (C := "WordWrightModel$5") (owner := "WordWrightModel$Walk") (x := ({ cls := "WordWrightModel$Walk", name := "first", desc := "()J" } : Jvm.MethodName)) (j := 47) rfl ok130 rfl rfl (by decide) rfl wd1697 wd1699 wd1720 wd1719 D169_30.1)⟩, ⟨M134, by decide, rfl, (l_A (C := "WordWrightModel$6") (owner := "WordWrightModel$Walk") (x := ({ cls := "WordWrightModel$Walk", name := "first", desc := "()J" } : Jvm.MethodName)) (j := 47) rfl ok134 rfl rfl (by decide) rfl wd1697 wd1699 wd1723 wd1722 D169_30.1)⟩, trivial⟩ (?_ : rSnd _ _ 33 _)
  refine s_Ast (t := 2) rfl q_last rfl (by decide) D169_33 ?_
  refine s_Al gk3 (Or.inr ⟨3, D169_34, rfl⟩) ?_
  refine s_Al gk2 (Or.inr ⟨2, D169_35, rfl⟩) ?_
  refine s_ic D169_36 kc_i_0 (by decide) ?_
  refine s_Ald (t := 2) (ty := .long) rfl q_lald rfl D169_37 ?_
  refine s_Al gk3 (Or.inr ⟨3, D169_38, rfl⟩) ?_
  refine s_Al gk2 (Or.inr ⟨2, D169_39, rfl⟩) ?_
  refine s_Cs (id := 218) rfl (l_S rfl ok168 rfl wd1745 wd1746 D169_40.1) (?_ : rSnd _ _ 43 _)
  refine s_ic D169_43 kc_i_1 (by decide) ?_
  refine s_Ast (t := 0) rfl q_iast rfl (by decide) D169_44 ?_
  refine s_ic D169_45 kc_i_0 (by decide) ?_
  refine s_Is sk6 (show 6 < 12 from by decide) (Or.inl D169_46) ?_
  exact P169_48
theorem D170_0 : rDec M170 0 (.aload_n 0) 1 1 := ⟨by decide +kernel, rfl⟩
theorem D170_1 : rDec M170 1 (.iconst 0) 1 2 := ⟨by decide +kernel, rfl⟩
theorem D170_2 : rDec M170 2 (.putfield 145) 3 5 := ⟨by decide +kernel, rfl⟩
theorem D170_5 : rDec M170 5 (.iload_n 1) 1 6 := ⟨by decide +kernel, rfl⟩
theorem D170_6 : rDec M170 6 (.ifCond .lt 16) 3 9 := ⟨by decide +kernel, rfl⟩
theorem D170_9 : rDec M170 9 (.iload_n 1) 1 10 := ⟨by decide +kernel, rfl⟩
theorem D170_10 : rDec M170 10 (.aload_n 0) 1 11 := ⟨by decide +kernel, rfl⟩
theorem D170_11 : rDec M170 11 (.getfield 110) 3 14 := ⟨by decide +kernel, rfl⟩
theorem D170_14 : rDec M170 14 (.invokeinterface 148 1) 5 19 := ⟨by decide +kernel, rfl⟩
theorem D170_19 : rDec M170 19 (.if_icmp .lt 9) 3 22 := ⟨by decide +kernel, rfl⟩
theorem D170_22 : rDec M170 22 (.aload_n 0) 1 23 := ⟨by decide +kernel, rfl⟩
theorem D170_23 : rDec M170 23 (.iconst 1) 1 24 := ⟨by decide +kernel, rfl⟩
theorem D170_24 : rDec M170 24 (.invokevirtual 191) 3 27 := ⟨by decide +kernel, rfl⟩
theorem D170_27 : rDec M170 27 (.ireturn) 1 28 := ⟨by decide +kernel, rfl⟩
theorem P170_22 : rSnd lab M170 22 B170_22 := by
  refine s_Al gk0 (Or.inr ⟨0, D170_22, rfl⟩) ?_
  refine s_ic D170_23 kc_i_1 (by decide) ?_
  refine s_Cv (ln := 3) (kd := 24) (C := "WordWrightModel") (by decide) (by decide +kernel) rfl (l_V rfl ok207 rfl wd2084 wd2086 ws65 D170_24.1) (?_ : rSnd _ _ 27 _)
  exact s_Ri (Or.inl rfl) D170_27.1
theorem P170_0 : rSnd lab M170 0 B170_0 := by
  refine s_Ent ?_
  refine s_Al gk0 (Or.inr ⟨0, D170_0, rfl⟩) ?_
  refine s_ic D170_1 kc_i_0 (by decide) ?_
  refine s_Pf (ci := 11) (r := ("WordWrightModel", kT11, 10)) rfl (show 0 < 10 from by decide) rfl (Or.inl ⟨rfl, Or.inl wd2025⟩) (Or.inl rfl) rfl (by decide) D170_2 ?_
  refine s_Il gk1 (Or.inr ⟨1, D170_5, rfl⟩) ?_
  refine s_If c_lt (fun _ => rfl) (fun _ _ => rfl) (b_lt (tg := 22) (by decide)) D170_6.1 P170_22 (?_ : rSnd _ _ 9 _)
  refine s_Il gk1 (Or.inr ⟨1, D170_9, rfl⟩) ?_
  refine s_Al gk0 (Or.inr ⟨0, D170_10, rfl⟩) ?_
  refine s_Gf (ci := 11) (r := ("WordWrightModel", kT11, 10)) rfl (show 3 < 10 from by decide) rfl (Or.inl wd2031) (Or.inl rfl) rfl D170_11 ?_
  refine s_Cv (ln := 5) (kd := 50) (C := "java/util/ArrayList") (by decide) (by decide +kernel) rfl (l_F (C := "java/util/ArrayList") (x := ({ cls := "java/util/List", name := "size", desc := "()I" } : Jvm.MethodName)) (ci := 24) (r := ("java/util/ArrayList", kT24, 3)) rfl rfl rfl ok15 rfl rfl (by decide) (List.mem_of_getElem? (i := 4) rfl) wd2073 wd2078 wd2076 D170_14.1) (?_ : rSnd _ _ 19 _)
  refine s_Ic c_lt (i_lt (tg := 28) (by decide)) D170_19.1 rSnd_none (?_ : rSnd _ _ 22 _)
  exact P170_22
theorem D171_0 : rDec M171 0 (.aload_n 0) 1 1 := ⟨by decide +kernel, rfl⟩
theorem D171_1 : rDec M171 1 (.iconst 0) 1 2 := ⟨by decide +kernel, rfl⟩
theorem D171_2 : rDec M171 2 (.putfield 145) 3 5 := ⟨by decide +kernel, rfl⟩
theorem D171_5 : rDec M171 5 (.iload_n 1) 1 6 := ⟨by decide +kernel, rfl⟩
theorem D171_6 : rDec M171 6 (.ifCond .lt 16) 3 9 := ⟨by decide +kernel, rfl⟩
theorem D171_9 : rDec M171 9 (.iload_n 1) 1 10 := ⟨by decide +kernel, rfl⟩
theorem D171_10 : rDec M171 10 (.aload_n 0) 1 11 := ⟨by decide +kernel, rfl⟩
theorem D171_11 : rDec M171 11 (.getfield 130) 3 14 := ⟨by decide +kernel, rfl⟩
theorem D171_14 : rDec M171 14 (.invokeinterface 148 1) 5 19 := ⟨by decide +kernel, rfl⟩
theorem D171_19 : rDec M171 19 (.if_icmp .lt 9) 3 22 := ⟨by decide +kernel, rfl⟩
theorem D171_22 : rDec M171 22 (.aload_n 0) 1 23 := ⟨by decide +kernel, rfl⟩
theorem D171_23 : rDec M171 23 (.iconst 1) 1 24 := ⟨by decide +kernel, rfl⟩
theorem D171_24 : rDec M171 24 (.invokevirtual 191) 3 27 := ⟨by decide +kernel, rfl⟩
theorem D171_27 : rDec M171 27 (.ireturn) 1 28 := ⟨by decide +kernel, rfl⟩
theorem P171_22 : rSnd lab M171 22 B171_22 := by
  refine s_Al gk0 (Or.inr ⟨0, D171_22, rfl⟩) ?_
  refine s_ic D171_23 kc_i_1 (by decide) ?_
  refine s_Cv (ln := 3) (kd := 24) (C := "WordWrightModel") (by decide) (by decide +kernel) rfl (l_V rfl ok207 rfl wd2084 wd2086 ws65 D171_24.1) (?_ : rSnd _ _ 27 _)
  exact s_Ri (Or.inl rfl) D171_27.1
theorem P171_0 : rSnd lab M171 0 B171_0 := by
  refine s_Ent ?_
  refine s_Al gk0 (Or.inr ⟨0, D171_0, rfl⟩) ?_
  refine s_ic D171_1 kc_i_0 (by decide) ?_
  refine s_Pf (ci := 11) (r := ("WordWrightModel", kT11, 10)) rfl (show 0 < 10 from by decide) rfl (Or.inl ⟨rfl, Or.inl wd2025⟩) (Or.inl rfl) rfl (by decide) D171_2 ?_
  refine s_Il gk1 (Or.inr ⟨1, D171_5, rfl⟩) ?_
  refine s_If c_lt (fun _ => rfl) (fun _ _ => rfl) (b_lt (tg := 22) (by decide)) D171_6.1 P171_22 (?_ : rSnd _ _ 9 _)
  refine s_Il gk1 (Or.inr ⟨1, D171_9, rfl⟩) ?_
  refine s_Al gk0 (Or.inr ⟨0, D171_10, rfl⟩) ?_
  refine s_Gf (ci := 11) (r := ("WordWrightModel", kT11, 10)) rfl (show 9 < 10 from by decide) rfl (Or.inl wd2038) (Or.inl rfl) rfl D171_11 ?_
  refine s_Cv (ln := 5) (kd := 50) (C := "java/util/ArrayList") (by decide) (by decide +kernel) rfl (l_F (C := "java/util/ArrayList") (x := ({ cls := "java/util/List", name := "size", desc := "()I" } : Jvm.MethodName)) (ci := 24) (r := ("java/util/ArrayList", kT24, 3)) rfl rfl rfl ok15 rfl rfl (by decide) (List.mem_of_getElem? (i := 4) rfl) wd2073 wd2078 wd2076 D171_14.1) (?_ : rSnd _ _ 19 _)
  refine s_Ic c_lt (i_lt (tg := 28) (by decide)) D171_19.1 rSnd_none (?_ : rSnd _ _ 22 _)
  exact P171_22
theorem D172_0 : rDec M172 0 (.aload_n 0) 1 1 := ⟨by decide +kernel, rfl⟩
theorem D172_1 : rDec M172 1 (.iconst 0) 1 2 := ⟨by decide +kernel, rfl⟩
theorem D172_2 : rDec M172 2 (.putfield 145) 3 5 := ⟨by decide +kernel, rfl⟩
theorem D172_5 : rDec M172 5 (.iload_n 1) 1 6 := ⟨by decide +kernel, rfl⟩
theorem D172_6 : rDec M172 6 (.ifCond .lt 16) 3 9 := ⟨by decide +kernel, rfl⟩
theorem D172_9 : rDec M172 9 (.iload_n 1) 1 10 := ⟨by decide +kernel, rfl⟩
theorem D172_10 : rDec M172 10 (.aload_n 0) 1 11 := ⟨by decide +kernel, rfl⟩
theorem D172_11 : rDec M172 11 (.getfield 120) 3 14 := ⟨by decide +kernel, rfl⟩
theorem D172_14 : rDec M172 14 (.invokeinterface 148 1) 5 19 := ⟨by decide +kernel, rfl⟩
theorem D172_19 : rDec M172 19 (.if_icmp .lt 9) 3 22 := ⟨by decide +kernel, rfl⟩
theorem D172_22 : rDec M172 22 (.aload_n 0) 1 23 := ⟨by decide +kernel, rfl⟩
theorem D172_23 : rDec M172 23 (.iconst 1) 1 24 := ⟨by decide +kernel, rfl⟩
theorem D172_24 : rDec M172 24 (.invokevirtual 191) 3 27 := ⟨by decide +kernel, rfl⟩
theorem D172_27 : rDec M172 27 (.ireturn) 1 28 := ⟨by decide +kernel, rfl⟩
theorem P172_22 : rSnd lab M172 22 B172_22 := by
  refine s_Al gk0 (Or.inr ⟨0, D172_22, rfl⟩) ?_
  refine s_ic D172_23 kc_i_1 (by decide) ?_
  refine s_Cv (ln := 3) (kd := 24) (C := "WordWrightModel") (by decide) (by decide +kernel) rfl (l_V rfl ok207 rfl wd2084 wd2086 ws65 D172_24.1) (?_ : rSnd _ _ 27 _)
  exact s_Ri (Or.inl rfl) D172_27.1
theorem P172_0 : rSnd lab M172 0 B172_0 := by
  refine s_Ent ?_
  refine s_Al gk0 (Or.inr ⟨0, D172_0, rfl⟩) ?_
  refine s_ic D172_1 kc_i_0 (by decide) ?_
  refine s_Pf (ci := 11) (r := ("WordWrightModel", kT11, 10)) rfl (show 0 < 10 from by decide) rfl (Or.inl ⟨rfl, Or.inl wd2025⟩) (Or.inl rfl) rfl (by decide) D172_2 ?_
  refine s_Il gk1 (Or.inr ⟨1, D172_5, rfl⟩) ?_
  refine s_If c_lt (fun _ => rfl) (fun _ _ => rfl) (b_lt (tg := 22) (by decide)) D172_6.1 P172_22 (?_ : rSnd _ _ 9 _)
  refine s_Il gk1 (Or.inr ⟨1, D172_9, rfl⟩) ?_
  refine s_Al gk0 (Or.inr ⟨0, D172_10, rfl⟩) ?_
  refine s_Gf (ci := 11) (r := ("WordWrightModel", kT11, 10)) rfl (show 5 < 10 from by decide) rfl (Or.inl wd2033) (Or.inl rfl) rfl D172_11 ?_
  refine s_Cv (ln := 5) (kd := 50) (C := "java/util/ArrayList") (by decide) (by decide +kernel) rfl (l_F (C := "java/util/ArrayList") (x := ({ cls := "java/util/List", name := "size", desc := "()I" } : Jvm.MethodName)) (ci := 24) (r := ("java/util/ArrayList", kT24, 3)) rfl rfl rfl ok15 rfl rfl (by decide) (List.mem_of_getElem? (i := 4) rfl) wd2073 wd2078 wd2076 D172_14.1) (?_ : rSnd _ _ 19 _)
  refine s_Ic c_lt (i_lt (tg := 28) (by decide)) D172_19.1 rSnd_none (?_ : rSnd _ _ 22 _)
  exact P172_22
theorem D173_0 : rDec M173 0 (.new 71) 3 3 := ⟨by decide +kernel, rfl⟩
theorem D173_3 : rDec M173 3 (.dup) 1 4 := ⟨by decide +kernel, rfl⟩
theorem D173_4 : rDec M173 4 (.aload_n 0) 1 5 := ⟨by decide +kernel, rfl⟩
theorem D173_5 : rDec M173 5 (.aload_n 1) 1 6 := ⟨by decide +kernel, rfl⟩
theorem D173_6 : rDec M173 6 (.invokespecial 73) 3 9 := ⟨by decide +kernel, rfl⟩
theorem D173_9 : rDec M173 9 (.invokevirtual 74) 3 12 := ⟨by decide +kernel, rfl⟩
theorem D173_12 : rDec M173 12 (.ireturn) 1 13 := ⟨by decide +kernel, rfl⟩
theorem P173_0 : rSnd lab M173 0 B173_0 := by
  refine s_Ent ?_
  refine s_New (ci := 18) (r := ("WordWrightModel$9", kT18, 2)) rfl rfl wd2269 wd2270 wd42 kr18 D173_0 ?_
  refine s_Dup D173_3 ?_
  refine s_Al gk0 (Or.inr ⟨0, D173_4, rfl⟩) ?_
  refine s_Al gk1 (Or.inr ⟨1, D173_5, rfl⟩) ?_
  refine s_Ci (id := 168) rfl (l_I rfl ok144 rfl rfl rfl wd2271 wd2272 D173_6.1) (?_ : rSnd _ _ 9 _)
  refine s_Cv (ln := 3) (kd := 38) (C := "WordWrightModel$9") (by decide) (by decide +kernel) rfl (l_U (C := "WordWrightModel$9") (owner := "WordWrightModel$Search") (x := ({ cls := "WordWrightModel$9", name := "least", desc := "()I" } : Jvm.MethodName)) rfl ok160 rfl rfl wd2285 wd2286 wd2289 wd2288 D173_9.1) (?_ : rSnd _ _ 12 _)
  exact s_Ri (Or.inl rfl) D173_12.1
theorem D174_0 : rDec M174 0 (.aload_n 0) 1 1 := ⟨by decide +kernel, rfl⟩
theorem D174_1 : rDec M174 1 (.iconst 0) 1 2 := ⟨by decide +kernel, rfl⟩
theorem D174_2 : rDec M174 2 (.putfield 145) 3 5 := ⟨by decide +kernel, rfl⟩
theorem D174_5 : rDec M174 5 (.iload_n 1) 1 6 := ⟨by decide +kernel, rfl⟩
theorem D174_6 : rDec M174 6 (.ifCond .lt 16) 3 9 := ⟨by decide +kernel, rfl⟩
theorem D174_9 : rDec M174 9 (.iload_n 1) 1 10 := ⟨by decide +kernel, rfl⟩
theorem D174_10 : rDec M174 10 (.aload_n 0) 1 11 := ⟨by decide +kernel, rfl⟩
theorem D174_11 : rDec M174 11 (.getfield 106) 3 14 := ⟨by decide +kernel, rfl⟩
theorem D174_14 : rDec M174 14 (.invokeinterface 148 1) 5 19 := ⟨by decide +kernel, rfl⟩
theorem D174_19 : rDec M174 19 (.if_icmp .lt 9) 3 22 := ⟨by decide +kernel, rfl⟩
theorem D174_22 : rDec M174 22 (.aload_n 0) 1 23 := ⟨by decide +kernel, rfl⟩
theorem D174_23 : rDec M174 23 (.iconst 1) 1 24 := ⟨by decide +kernel, rfl⟩
theorem D174_24 : rDec M174 24 (.invokevirtual 191) 3 27 := ⟨by decide +kernel, rfl⟩
theorem D174_27 : rDec M174 27 (.ireturn) 1 28 := ⟨by decide +kernel, rfl⟩
theorem D174_28 : rDec M174 28 (.aload_n 0) 1 29 := ⟨by decide +kernel, rfl⟩
theorem D174_29 : rDec M174 29 (.getfield 106) 3 32 := ⟨by decide +kernel, rfl⟩
theorem D174_32 : rDec M174 32 (.iload_n 1) 1 33 := ⟨by decide +kernel, rfl⟩
theorem D174_33 : rDec M174 33 (.invokeinterface 155 2) 5 38 := ⟨by decide +kernel, rfl⟩
theorem D174_38 : rDec M174 38 (.checkcast 26) 3 41 := ⟨by decide +kernel, rfl⟩
theorem D174_41 : rDec M174 41 (.astore_n 3) 1 42 := ⟨by decide +kernel, rfl⟩
theorem D174_42 : rDec M174 42 (.iload_n 2) 1 43 := ⟨by decide +kernel, rfl⟩
theorem D174_43 : rDec M174 43 (.ifCond .lt 16) 3 46 := ⟨by decide +kernel, rfl⟩
theorem D174_46 : rDec M174 46 (.iload_n 2) 1 47 := ⟨by decide +kernel, rfl⟩
theorem D174_47 : rDec M174 47 (.aload_n 0) 1 48 := ⟨by decide +kernel, rfl⟩
theorem D174_48 : rDec M174 48 (.getfield 106) 3 51 := ⟨by decide +kernel, rfl⟩
theorem D174_51 : rDec M174 51 (.invokeinterface 148 1) 5 56 := ⟨by decide +kernel, rfl⟩
theorem D174_56 : rDec M174 56 (.if_icmp .lt 9) 3 59 := ⟨by decide +kernel, rfl⟩
theorem D174_59 : rDec M174 59 (.aload_n 0) 1 60 := ⟨by decide +kernel, rfl⟩
theorem D174_60 : rDec M174 60 (.iconst 1) 1 61 := ⟨by decide +kernel, rfl⟩
theorem D174_61 : rDec M174 61 (.invokevirtual 191) 3 64 := ⟨by decide +kernel, rfl⟩
theorem D174_64 : rDec M174 64 (.ireturn) 1 65 := ⟨by decide +kernel, rfl⟩
theorem D174_65 : rDec M174 65 (.aload_n 0) 1 66 := ⟨by decide +kernel, rfl⟩
theorem D174_66 : rDec M174 66 (.getfield 106) 3 69 := ⟨by decide +kernel, rfl⟩
theorem D174_69 : rDec M174 69 (.iload_n 2) 1 70 := ⟨by decide +kernel, rfl⟩
theorem D174_70 : rDec M174 70 (.invokeinterface 155 2) 5 75 := ⟨by decide +kernel, rfl⟩
theorem D174_75 : rDec M174 75 (.checkcast 26) 3 78 := ⟨by decide +kernel, rfl⟩
theorem D174_78 : rDec M174 78 (.astore 4) 2 80 := ⟨by decide +kernel, rfl⟩
theorem D174_80 : rDec M174 80 (.aload_n 3) 1 81 := ⟨by decide +kernel, rfl⟩
theorem D174_81 : rDec M174 81 (.aload 4) 2 83 := ⟨by decide +kernel, rfl⟩
theorem D174_83 : rDec M174 83 (.invokestatic 206) 3 86 := ⟨by decide +kernel, rfl⟩
theorem D174_86 : rDec M174 86 (.istore 5) 2 88 := ⟨by decide +kernel, rfl⟩
theorem D174_88 : rDec M174 88 (.iload 5) 2 90 := ⟨by decide +kernel, rfl⟩
theorem D174_90 : rDec M174 90 (.iconst (-1)) 1 91 := ⟨by decide +kernel, rfl⟩
theorem D174_91 : rDec M174 91 (.if_icmp .ne 11) 3 94 := ⟨by decide +kernel, rfl⟩
theorem D174_102 : rDec M174 102 (.iload 5) 2 104 := ⟨by decide +kernel, rfl⟩
theorem D174_104 : rDec M174 104 (.ireturn) 1 105 := ⟨by decide +kernel, rfl⟩
theorem P174_102 : rSnd lab M174 102 B174_102 := by
  refine s_Il gk5 (Or.inl D174_102) ?_
  exact s_Ri (Or.inl rfl) D174_104.1
theorem P174_65 : rSnd lab M174 65 B174_65 := by
  refine s_Al gk0 (Or.inr ⟨0, D174_65, rfl⟩) ?_
  refine s_Gf (ci := 11) (r := ("WordWrightModel", kT11, 10)) rfl (show 2 < 10 from by decide) rfl (Or.inl wd2029) (Or.inl rfl) rfl D174_66 ?_
  refine s_Il gk2 (Or.inr ⟨2, D174_69, rfl⟩) ?_
  refine s_Cv (ln := 5) (kd := 50) (C := "java/util/ArrayList") (by decide) (by decide +kernel) rfl (l_F (C := "java/util/ArrayList") (x := ({ cls := "java/util/List", name := "get", desc := "(I)Ljava/lang/Object;" } : Jvm.MethodName)) (ci := 24) (r := ("java/util/ArrayList", kT24, 3)) rfl rfl rfl ok10 rfl rfl (by decide) (List.mem_of_getElem? (i := 2) rfl) wd2093 wd2098 wd2096 D174_70.1) (?_ : rSnd _ _ 75 _)
  refine s_Cst (C := "WordWrightModel$Dfa") (cst_ok (kd := 40) (by decide) (by decide +kernel)) rfl wd2111 D174_75 ?_
  refine s_As sk4 (show 4 < 6 from by decide) (Or.inl D174_78) ?_
  refine s_Al gk3 (Or.inr ⟨3, D174_80, rfl⟩) ?_
  refine s_Al gk4 (Or.inl D174_81) ?_
  refine s_Cs (id := 225) rfl (l_S rfl ok173 rfl wd2266 wd2267 D174_83.1) (?_ : rSnd _ _ 86 _)
  refine s_Is sk5 (show 5 < 6 from by decide) (Or.inl D174_86) ?_
  refine s_Il gk5 (Or.inl D174_88) ?_
  refine s_ic D174_90 kc_i_m1 (by decide) ?_
  refine s_Ic c_ne (i_ne (tg := 102) (by decide)) D174_91.1 P174_102 (?_ : rSnd _ _ 94 _)
  exact rSnd_none
theorem P174_59 : rSnd lab M174 59 B174_59 := by
  refine s_Al gk0 (Or.inr ⟨0, D174_59, rfl⟩) ?_
  refine s_ic D174_60 kc_i_1 (by decide) ?_
  refine s_Cv (ln := 3) (kd := 24) (C := "WordWrightModel") (by decide) (by decide +kernel) rfl (l_V rfl ok207 rfl wd2084 wd2086 ws65 D174_61.1) (?_ : rSnd _ _ 64 _)
  exact s_Ri (Or.inl rfl) D174_64.1
theorem P174_28 : rSnd lab M174 28 B174_28 := by
  refine s_Al gk0 (Or.inr ⟨0, D174_28, rfl⟩) ?_
  refine s_Gf (ci := 11) (r := ("WordWrightModel", kT11, 10)) rfl (show 2 < 10 from by decide) rfl (Or.inl wd2029) (Or.inl rfl) rfl D174_29 ?_
  refine s_Il gk1 (Or.inr ⟨1, D174_32, rfl⟩) ?_
  refine s_Cv (ln := 5) (kd := 50) (C := "java/util/ArrayList") (by decide) (by decide +kernel) rfl (l_F (C := "java/util/ArrayList") (x := ({ cls := "java/util/List", name := "get", desc := "(I)Ljava/lang/Object;" } : Jvm.MethodName)) (ci := 24) (r := ("java/util/ArrayList", kT24, 3)) rfl rfl rfl ok10 rfl rfl (by decide) (List.mem_of_getElem? (i := 2) rfl) wd2093 wd2098 wd2096 D174_33.1) (?_ : rSnd _ _ 38 _)
  refine s_Cst (C := "WordWrightModel$Dfa") (cst_ok (kd := 40) (by decide) (by decide +kernel)) rfl wd2111 D174_38 ?_
  refine s_As sk3 (show 3 < 6 from by decide) (Or.inr ⟨3, D174_41, rfl⟩) ?_
  refine s_Il gk2 (Or.inr ⟨2, D174_42, rfl⟩) ?_
  refine s_If c_lt (fun _ => rfl) (fun _ _ => rfl) (b_lt (tg := 59) (by decide)) D174_43.1 P174_59 (?_ : rSnd _ _ 46 _)
  refine s_Il gk2 (Or.inr ⟨2, D174_46, rfl⟩) ?_
  refine s_Al gk0 (Or.inr ⟨0, D174_47, rfl⟩) ?_
  refine s_Gf (ci := 11) (r := ("WordWrightModel", kT11, 10)) rfl (show 2 < 10 from by decide) rfl (Or.inl wd2029) (Or.inl rfl) rfl D174_48 ?_
  refine s_Cv (ln := 5) (kd := 50) (C := "java/util/ArrayList") (by decide) (by decide +kernel) rfl (l_F (C := "java/util/ArrayList") (x := ({ cls := "java/util/List", name := "size", desc := "()I" } : Jvm.MethodName)) (ci := 24) (r := ("java/util/ArrayList", kT24, 3)) rfl rfl rfl ok15 rfl rfl (by decide) (List.mem_of_getElem? (i := 4) rfl) wd2073 wd2078 wd2076 D174_51.1) (?_ : rSnd _ _ 56 _)
  refine s_Ic c_lt (i_lt (tg := 65) (by decide)) D174_56.1 P174_65 (?_ : rSnd _ _ 59 _)
  exact P174_59
theorem P174_22 : rSnd lab M174 22 B174_22 := by
  refine s_Al gk0 (Or.inr ⟨0, D174_22, rfl⟩) ?_
  refine s_ic D174_23 kc_i_1 (by decide) ?_
  refine s_Cv (ln := 3) (kd := 24) (C := "WordWrightModel") (by decide) (by decide +kernel) rfl (l_V rfl ok207 rfl wd2084 wd2086 ws65 D174_24.1) (?_ : rSnd _ _ 27 _)
  exact s_Ri (Or.inl rfl) D174_27.1
theorem P174_0 : rSnd lab M174 0 B174_0 := by
  refine s_Ent ?_
  refine s_Al gk0 (Or.inr ⟨0, D174_0, rfl⟩) ?_
  refine s_ic D174_1 kc_i_0 (by decide) ?_
  refine s_Pf (ci := 11) (r := ("WordWrightModel", kT11, 10)) rfl (show 0 < 10 from by decide) rfl (Or.inl ⟨rfl, Or.inl wd2025⟩) (Or.inl rfl) rfl (by decide) D174_2 ?_
  refine s_Il gk1 (Or.inr ⟨1, D174_5, rfl⟩) ?_
  refine s_If c_lt (fun _ => rfl) (fun _ _ => rfl) (b_lt (tg := 22) (by decide)) D174_6.1 P174_22 (?_ : rSnd _ _ 9 _)
  refine s_Il gk1 (Or.inr ⟨1, D174_9, rfl⟩) ?_
  refine s_Al gk0 (Or.inr ⟨0, D174_10, rfl⟩) ?_
  refine s_Gf (ci := 11) (r := ("WordWrightModel", kT11, 10)) rfl (show 2 < 10 from by decide) rfl (Or.inl wd2029) (Or.inl rfl) rfl D174_11 ?_
  refine s_Cv (ln := 5) (kd := 50) (C := "java/util/ArrayList") (by decide) (by decide +kernel) rfl (l_F (C := "java/util/ArrayList") (x := ({ cls := "java/util/List", name := "size", desc := "()I" } : Jvm.MethodName)) (ci := 24) (r := ("java/util/ArrayList", kT24, 3)) rfl rfl rfl ok15 rfl rfl (by decide) (List.mem_of_getElem? (i := 4) rfl) wd2073 wd2078 wd2076 D174_14.1) (?_ : rSnd _ _ 19 _)
  refine s_Ic c_lt (i_lt (tg := 28) (by decide)) D174_19.1 P174_28 (?_ : rSnd _ _ 22 _)
  exact P174_22
theorem D175_0 : rDec M175 0 (.aload_n 0) 1 1 := ⟨by decide +kernel, rfl⟩
theorem D175_1 : rDec M175 1 (.iconst 0) 1 2 := ⟨by decide +kernel, rfl⟩
theorem D175_2 : rDec M175 2 (.putfield 145) 3 5 := ⟨by decide +kernel, rfl⟩
theorem D175_5 : rDec M175 5 (.iload_n 1) 1 6 := ⟨by decide +kernel, rfl⟩
theorem D175_6 : rDec M175 6 (.ifCond .lt 16) 3 9 := ⟨by decide +kernel, rfl⟩
theorem D175_9 : rDec M175 9 (.iload_n 1) 1 10 := ⟨by decide +kernel, rfl⟩
theorem D175_10 : rDec M175 10 (.aload_n 0) 1 11 := ⟨by decide +kernel, rfl⟩
theorem D175_11 : rDec M175 11 (.getfield 110) 3 14 := ⟨by decide +kernel, rfl⟩
theorem D175_14 : rDec M175 14 (.invokeinterface 148 1) 5 19 := ⟨by decide +kernel, rfl⟩
theorem D175_19 : rDec M175 19 (.if_icmp .lt 9) 3 22 := ⟨by decide +kernel, rfl⟩
theorem D175_22 : rDec M175 22 (.aload_n 0) 1 23 := ⟨by decide +kernel, rfl⟩
theorem D175_23 : rDec M175 23 (.iconst 1) 1 24 := ⟨by decide +kernel, rfl⟩
theorem D175_24 : rDec M175 24 (.invokevirtual 191) 3 27 := ⟨by decide +kernel, rfl⟩
theorem D175_27 : rDec M175 27 (.ireturn) 1 28 := ⟨by decide +kernel, rfl⟩
theorem P175_22 : rSnd lab M175 22 B175_22 := by
  refine s_Al gk0 (Or.inr ⟨0, D175_22, rfl⟩) ?_
  refine s_ic D175_23 kc_i_1 (by decide) ?_
  refine s_Cv (ln := 3) (kd := 24) (C := "WordWrightModel") (by decide) (by decide +kernel) rfl (l_V rfl ok207 rfl wd2084 wd2086 ws65 D175_24.1) (?_ : rSnd _ _ 27 _)
  exact s_Ri (Or.inl rfl) D175_27.1
theorem P175_0 : rSnd lab M175 0 B175_0 := by
  refine s_Ent ?_
  refine s_Al gk0 (Or.inr ⟨0, D175_0, rfl⟩) ?_
  refine s_ic D175_1 kc_i_0 (by decide) ?_
  refine s_Pf (ci := 11) (r := ("WordWrightModel", kT11, 10)) rfl (show 0 < 10 from by decide) rfl (Or.inl ⟨rfl, Or.inl wd2025⟩) (Or.inl rfl) rfl (by decide) D175_2 ?_
  refine s_Il gk1 (Or.inr ⟨1, D175_5, rfl⟩) ?_
  refine s_If c_lt (fun _ => rfl) (fun _ _ => rfl) (b_lt (tg := 22) (by decide)) D175_6.1 P175_22 (?_ : rSnd _ _ 9 _)
  refine s_Il gk1 (Or.inr ⟨1, D175_9, rfl⟩) ?_
  refine s_Al gk0 (Or.inr ⟨0, D175_10, rfl⟩) ?_
  refine s_Gf (ci := 11) (r := ("WordWrightModel", kT11, 10)) rfl (show 3 < 10 from by decide) rfl (Or.inl wd2031) (Or.inl rfl) rfl D175_11 ?_
  refine s_Cv (ln := 5) (kd := 50) (C := "java/util/ArrayList") (by decide) (by decide +kernel) rfl (l_F (C := "java/util/ArrayList") (x := ({ cls := "java/util/List", name := "size", desc := "()I" } : Jvm.MethodName)) (ci := 24) (r := ("java/util/ArrayList", kT24, 3)) rfl rfl rfl ok15 rfl rfl (by decide) (List.mem_of_getElem? (i := 4) rfl) wd2073 wd2078 wd2076 D175_14.1) (?_ : rSnd _ _ 19 _)
  refine s_Ic c_lt (i_lt (tg := 28) (by decide)) D175_19.1 rSnd_none (?_ : rSnd _ _ 22 _)
  exact P175_22
theorem D176_0 : rDec M176 0 (.aload_n 0) 1 1 := ⟨by decide +kernel, rfl⟩
theorem D176_1 : rDec M176 1 (.iconst 0) 1 2 := ⟨by decide +kernel, rfl⟩
theorem D176_2 : rDec M176 2 (.putfield 145) 3 5 := ⟨by decide +kernel, rfl⟩
theorem D176_5 : rDec M176 5 (.aload_n 0) 1 6 := ⟨by decide +kernel, rfl⟩
theorem D176_6 : rDec M176 6 (.getfield 130) 3 9 := ⟨by decide +kernel, rfl⟩
theorem D176_9 : rDec M176 9 (.invokeinterface 148 1) 5 14 := ⟨by decide +kernel, rfl⟩
theorem D176_14 : rDec M176 14 (.istore_n 1) 1 15 := ⟨by decide +kernel, rfl⟩
theorem D176_15 : rDec M176 15 (.aload_n 0) 1 16 := ⟨by decide +kernel, rfl⟩
theorem D176_16 : rDec M176 16 (.getfield 130) 3 19 := ⟨by decide +kernel, rfl⟩
theorem D176_19 : rDec M176 19 (.invokeinterface 361 1) 5 24 := ⟨by decide +kernel, rfl⟩
theorem D176_24 : rDec M176 24 (.iload_n 1) 1 25 := ⟨by decide +kernel, rfl⟩
theorem D176_25 : rDec M176 25 (.ireturn) 1 26 := ⟨by decide +kernel, rfl⟩
theorem P176_0 : rSnd lab M176 0 B176_0 := by
  refine s_Ent ?_
  refine s_Al gk0 (Or.inr ⟨0, D176_0, rfl⟩) ?_
  refine s_ic D176_1 kc_i_0 (by decide) ?_
  refine s_Pf (ci := 11) (r := ("WordWrightModel", kT11, 10)) rfl (show 0 < 10 from by decide) rfl (Or.inl ⟨rfl, Or.inl wd2025⟩) (Or.inl rfl) rfl (by decide) D176_2 ?_
  refine s_Al gk0 (Or.inr ⟨0, D176_5, rfl⟩) ?_
  refine s_Gf (ci := 11) (r := ("WordWrightModel", kT11, 10)) rfl (show 9 < 10 from by decide) rfl (Or.inl wd2038) (Or.inl rfl) rfl D176_6 ?_
  refine s_Cv (ln := 5) (kd := 50) (C := "java/util/ArrayList") (by decide) (by decide +kernel) rfl (l_F (C := "java/util/ArrayList") (x := ({ cls := "java/util/List", name := "size", desc := "()I" } : Jvm.MethodName)) (ci := 24) (r := ("java/util/ArrayList", kT24, 3)) rfl rfl rfl ok15 rfl rfl (by decide) (List.mem_of_getElem? (i := 4) rfl) wd2073 wd2078 wd2076 D176_9.1) (?_ : rSnd _ _ 14 _)
  refine s_Is sk1 (show 1 < 2 from by decide) (Or.inr ⟨1, D176_14, rfl⟩) ?_
  refine s_Al gk0 (Or.inr ⟨0, D176_15, rfl⟩) ?_
  refine s_Gf (ci := 11) (r := ("WordWrightModel", kT11, 10)) rfl (show 9 < 10 from by decide) rfl (Or.inl wd2038) (Or.inl rfl) rfl D176_16 ?_
  refine s_Cv (ln := 5) (kd := 50) (C := "java/util/ArrayList") (by decide) (by decide +kernel) rfl (l_F (C := "java/util/ArrayList") (x := ({ cls := "java/util/List", name := "clear", desc := "()V" } : Jvm.MethodName)) (ci := 24) (r := ("java/util/ArrayList", kT24, 3)) rfl rfl rfl ok8 rfl rfl (by decide) (List.mem_of_getElem? (i := 1) rfl) wd2747 wd2752 wd2750 D176_19.1) (?_ : rSnd _ _ 24 _)
  refine s_Il gk1 (Or.inr ⟨1, D176_24, rfl⟩) ?_
  exact s_Ri (Or.inl rfl) D176_25.1
theorem D177_0 : rDec M177 0 (.aload_n 0) 1 1 := ⟨by decide +kernel, rfl⟩
theorem D177_1 : rDec M177 1 (.getfield 25) 3 4 := ⟨by decide +kernel, rfl⟩
theorem D177_4 : rDec M177 4 (.newarray .int) 2 6 := ⟨by decide +kernel, rfl⟩
theorem D177_6 : rDec M177 6 (.astore_n 2) 1 7 := ⟨by decide +kernel, rfl⟩
theorem D177_7 : rDec M177 7 (.iconst 0) 1 8 := ⟨by decide +kernel, rfl⟩
theorem D177_8 : rDec M177 8 (.istore_n 3) 1 9 := ⟨by decide +kernel, rfl⟩
theorem D177_9 : rDec M177 9 (.iload_n 3) 1 10 := ⟨by decide +kernel, rfl⟩
theorem D177_10 : rDec M177 10 (.aload_n 0) 1 11 := ⟨by decide +kernel, rfl⟩
theorem D177_11 : rDec M177 11 (.getfield 25) 3 14 := ⟨by decide +kernel, rfl⟩
theorem D177_14 : rDec M177 14 (.if_icmp .ge 26) 3 17 := ⟨by decide +kernel, rfl⟩
theorem D177_17 : rDec M177 17 (.aload_n 2) 1 18 := ⟨by decide +kernel, rfl⟩
theorem D177_18 : rDec M177 18 (.iload_n 3) 1 19 := ⟨by decide +kernel, rfl⟩
theorem D177_19 : rDec M177 19 (.aload_n 0) 1 20 := ⟨by decide +kernel, rfl⟩
theorem D177_20 : rDec M177 20 (.getfield 35) 3 23 := ⟨by decide +kernel, rfl⟩
theorem D177_23 : rDec M177 23 (.iload_n 3) 1 24 := ⟨by decide +kernel, rfl⟩
theorem D177_24 : rDec M177 24 (.baload) 1 25 := ⟨by decide +kernel, rfl⟩
theorem D177_25 : rDec M177 25 (.ifCond .eq 7) 3 28 := ⟨by decide +kernel, rfl⟩
theorem D177_28 : rDec M177 28 (.iconst 1) 1 29 := ⟨by decide +kernel, rfl⟩
theorem D177_29 : rDec M177 29 (.goto 4) 3 32 := ⟨by decide +kernel, rfl⟩
theorem D177_32 : rDec M177 32 (.iconst 0) 1 33 := ⟨by decide +kernel, rfl⟩
theorem D177_33 : rDec M177 33 (.iastore) 1 34 := ⟨by decide +kernel, rfl⟩
theorem D177_34 : rDec M177 34 (.iinc 3 1) 3 37 := ⟨by decide +kernel, rfl⟩
theorem D177_37 : rDec M177 37 (.goto (-28)) 3 40 := ⟨by decide +kernel, rfl⟩
theorem D177_40 : rDec M177 40 (.iconst 0) 1 41 := ⟨by decide +kernel, rfl⟩
theorem D177_41 : rDec M177 41 (.istore_n 3) 1 42 := ⟨by decide +kernel, rfl⟩
theorem D177_42 : rDec M177 42 (.iload_n 3) 1 43 := ⟨by decide +kernel, rfl⟩
theorem D177_43 : rDec M177 43 (.iload_n 1) 1 44 := ⟨by decide +kernel, rfl⟩
theorem D177_44 : rDec M177 44 (.if_icmp .ge 71) 3 47 := ⟨by decide +kernel, rfl⟩
theorem D177_47 : rDec M177 47 (.aload_n 0) 1 48 := ⟨by decide +kernel, rfl⟩
theorem D177_48 : rDec M177 48 (.getfield 25) 3 51 := ⟨by decide +kernel, rfl⟩
theorem D177_51 : rDec M177 51 (.newarray .int) 2 53 := ⟨by decide +kernel, rfl⟩
theorem D177_53 : rDec M177 53 (.astore 4) 2 55 := ⟨by decide +kernel, rfl⟩
theorem D177_55 : rDec M177 55 (.iconst 0) 1 56 := ⟨by decide +kernel, rfl⟩
theorem D177_56 : rDec M177 56 (.istore 5) 2 58 := ⟨by decide +kernel, rfl⟩
theorem D177_58 : rDec M177 58 (.iload 5) 2 60 := ⟨by decide +kernel, rfl⟩
theorem D177_60 : rDec M177 60 (.aload_n 0) 1 61 := ⟨by decide +kernel, rfl⟩
theorem D177_61 : rDec M177 61 (.getfield 25) 3 64 := ⟨by decide +kernel, rfl⟩
theorem D177_64 : rDec M177 64 (.if_icmp .ge 42) 3 67 := ⟨by decide +kernel, rfl⟩
theorem D177_67 : rDec M177 67 (.iconst 0) 1 68 := ⟨by decide +kernel, rfl⟩
theorem D177_68 : rDec M177 68 (.istore 6) 2 70 := ⟨by decide +kernel, rfl⟩
theorem D177_70 : rDec M177 70 (.iload 6) 2 72 := ⟨by decide +kernel, rfl⟩
theorem D177_72 : rDec M177 72 (.iconst 4) 1 73 := ⟨by decide +kernel, rfl⟩
theorem D177_73 : rDec M177 73 (.if_icmp .ge 27) 3 76 := ⟨by decide +kernel, rfl⟩
theorem D177_76 : rDec M177 76 (.aload 4) 2 78 := ⟨by decide +kernel, rfl⟩
theorem D177_78 : rDec M177 78 (.iload 5) 2 80 := ⟨by decide +kernel, rfl⟩
theorem D177_80 : rDec M177 80 (.dup2) 1 81 := ⟨by decide +kernel, rfl⟩
theorem D177_81 : rDec M177 81 (.iaload) 1 82 := ⟨by decide +kernel, rfl⟩
theorem D177_82 : rDec M177 82 (.aload_n 2) 1 83 := ⟨by decide +kernel, rfl⟩
theorem D177_83 : rDec M177 83 (.aload_n 0) 1 84 := ⟨by decide +kernel, rfl⟩
theorem D177_84 : rDec M177 84 (.iload 5) 2 86 := ⟨by decide +kernel, rfl⟩
theorem D177_86 : rDec M177 86 (.iload 6) 2 88 := ⟨by decide +kernel, rfl⟩
theorem D177_88 : rDec M177 88 (.invokevirtual 31) 3 91 := ⟨by decide +kernel, rfl⟩
theorem D177_91 : rDec M177 91 (.iaload) 1 92 := ⟨by decide +kernel, rfl⟩
theorem D177_92 : rDec M177 92 (.iadd) 1 93 := ⟨by decide +kernel, rfl⟩
theorem D177_93 : rDec M177 93 (.iastore) 1 94 := ⟨by decide +kernel, rfl⟩
theorem D177_94 : rDec M177 94 (.iinc 6 1) 3 97 := ⟨by decide +kernel, rfl⟩
theorem D177_97 : rDec M177 97 (.goto (-27)) 3 100 := ⟨by decide +kernel, rfl⟩
theorem D177_100 : rDec M177 100 (.iinc 5 1) 3 103 := ⟨by decide +kernel, rfl⟩
theorem D177_103 : rDec M177 103 (.goto (-45)) 3 106 := ⟨by decide +kernel, rfl⟩
theorem D177_106 : rDec M177 106 (.aload 4) 2 108 := ⟨by decide +kernel, rfl⟩
theorem D177_108 : rDec M177 108 (.astore_n 2) 1 109 := ⟨by decide +kernel, rfl⟩
theorem D177_109 : rDec M177 109 (.iinc 3 1) 3 112 := ⟨by decide +kernel, rfl⟩
theorem D177_112 : rDec M177 112 (.goto (-70)) 3 115 := ⟨by decide +kernel, rfl⟩
theorem D177_115 : rDec M177 115 (.aload_n 2) 1 116 := ⟨by decide +kernel, rfl⟩
theorem D177_116 : rDec M177 116 (.iconst 0) 1 117 := ⟨by decide +kernel, rfl⟩
theorem D177_117 : rDec M177 117 (.iaload) 1 118 := ⟨by decide +kernel, rfl⟩
theorem D177_118 : rDec M177 118 (.ireturn) 1 119 := ⟨by decide +kernel, rfl⟩
theorem P177_115 : rSnd lab M177 115 B177_115 := by
  refine s_Al gk2 (Or.inr ⟨2, D177_115, rfl⟩) ?_
  refine s_ic D177_116 kc_i_0 (by decide) ?_
  refine s_Ial D177_117 ?_
  exact s_Ri (Or.inl rfl) D177_118.1
theorem P177_106 : rSnd lab M177 106 B177_106 := by
  refine s_Al gk4 (Or.inl D177_106) ?_
  refine s_As sk2 (show 2 < 7 from by decide) (Or.inr ⟨2, D177_108, rfl⟩) ?_
  refine s_Inc gk3 sk3 (show 3 < 7 from by decide) kc_i_1 D177_109 ?_
  exact s_Go (pc' := 42) D177_112.1 (by decide) (s_Jb rfl)
theorem P177_100 : rSnd lab M177 100 B177_100 := by
  refine s_Inc gk5 sk5 (show 5 < 7 from by decide) kc_i_1 D177_100 ?_
  exact s_Go (pc' := 58) D177_103.1 (by decide) (s_Jb rfl)
theorem P177_70 : rSnd lab M177 70 B177_70 := by
  refine s_Il gk6 (Or.inl D177_70) ?_
  refine s_ic D177_72 kc_i_4 (by decide) ?_
  refine s_Ic c_ge (i_ge (tg := 100) (by decide)) D177_73.1 P177_100 (?_ : rSnd _ _ 76 _)
  refine s_Al gk4 (Or.inl D177_76) ?_
  refine s_Il gk5 (Or.inl D177_78) ?_
  refine s_Dup2 D177_80 ?_
  refine s_Ial D177_81 ?_
  refine s_Al gk2 (Or.inr ⟨2, D177_82, rfl⟩) ?_
  refine s_Al gk0 (Or.inr ⟨0, D177_83, rfl⟩) ?_
  refine s_Il gk5 (Or.inl D177_84) ?_
  refine s_Il gk6 (Or.inl D177_86) ?_
  refine s_Cv (ln := 3) (kd := 40) (C := "WordWrightModel$Dfa") (by decide) (by decide +kernel) rfl (l_V rfl ok147 rfl wd1768 wd1739 wd1740 D177_88.1) (?_ : rSnd _ _ 91 _)
  refine s_Ial D177_91 ?_
  refine s_Bin q_iadd n_add rG2_x e_add D177_92 ?_
  refine s_Ast (t := 0) rfl q_iast rfl (by decide) D177_93 ?_
  refine s_Inc gk6 sk6 (show 6 < 7 from by decide) kc_i_1 D177_94 ?_
  exact s_Go (pc' := 70) D177_97.1 (by decide) (s_Jb rfl)
theorem P177_58 : rSnd lab M177 58 B177_58 := by
  refine s_Il gk5 (Or.inl D177_58) ?_
  refine s_Al gk0 (Or.inr ⟨0, D177_60, rfl⟩) ?_
  refine s_Gf (ci := 19) (r := ("WordWrightModel$Dfa", kT19, 3)) rfl (show 0 < 3 from by decide) rfl (Or.inl wd1818) (Or.inl rfl) rfl D177_61 ?_
  refine s_Ic c_ge (i_ge (tg := 106) (by decide)) D177_64.1 P177_106 (?_ : rSnd _ _ 67 _)
  refine s_ic D177_67 kc_i_0 (by decide) ?_
  refine s_Is sk6 (show 6 < 7 from by decide) (Or.inl D177_68) ?_
  exact P177_70
theorem P177_42 : rSnd lab M177 42 B177_42 := by
  refine s_Il gk3 (Or.inr ⟨3, D177_42, rfl⟩) ?_
  refine s_Il gk1 (Or.inr ⟨1, D177_43, rfl⟩) ?_
  refine s_Ic c_ge (i_ge (tg := 115) (by decide)) D177_44.1 P177_115 (?_ : rSnd _ _ 47 _)
  refine s_Al gk0 (Or.inr ⟨0, D177_47, rfl⟩) ?_
  refine s_Gf (ci := 19) (r := ("WordWrightModel$Dfa", kT19, 3)) rfl (show 0 < 3 from by decide) rfl (Or.inl wd1818) (Or.inl rfl) rfl D177_48 ?_
  refine s_Nwa (t := 0) rfl (q_newa (at_ := .int) (Or.inl rfl)) (fun ht _ => ht _ wd91) D177_51 ?_
  refine s_As sk4 (show 4 < 7 from by decide) (Or.inl D177_53) ?_
  refine s_ic D177_55 kc_i_0 (by decide) ?_
  refine s_Is sk5 (show 5 < 7 from by decide) (Or.inl D177_56) ?_
  exact P177_58
theorem P177_40 : rSnd lab M177 40 B177_40 := by
  refine s_ic D177_40 kc_i_0 (by decide) ?_
  refine s_Is sk3 (show 3 < 7 from by decide) (Or.inr ⟨3, D177_41, rfl⟩) ?_
  exact P177_42
theorem P177_33 : rSnd lab M177 33 B177_33 := by
  refine s_Ast (t := 0) rfl q_iast rfl (by decide) D177_33 ?_
  refine s_Inc gk3 sk3 (show 3 < 7 from by decide) kc_i_1 D177_34 ?_
  exact s_Go (pc' := 9) D177_37.1 (by decide) (s_Jb rfl)
theorem P177_32 : rSnd lab M177 32 B177_32 := by
  refine s_ic D177_32 kc_i_0 (by decide) ?_
  exact P177_33
theorem P177_9 : rSnd lab M177 9 B177_9 := by
  refine s_Il gk3 (Or.inr ⟨3, D177_9, rfl⟩) ?_
  refine s_Al gk0 (Or.inr ⟨0, D177_10, rfl⟩) ?_
  refine s_Gf (ci := 19) (r := ("WordWrightModel$Dfa", kT19, 3)) rfl (show 0 < 3 from by decide) rfl (Or.inl wd1818) (Or.inl rfl) rfl D177_11 ?_
  refine s_Ic c_ge (i_ge (tg := 40) (by decide)) D177_14.1 P177_40 (?_ : rSnd _ _ 17 _)
  refine s_Al gk2 (Or.inr ⟨2, D177_17, rfl⟩) ?_
  refine s_Il gk3 (Or.inr ⟨3, D177_18, rfl⟩) ?_
  refine s_Al gk0 (Or.inr ⟨0, D177_19, rfl⟩) ?_
  refine s_Gf (ci := 19) (r := ("WordWrightModel$Dfa", kT19, 3)) rfl (show 2 < 3 from by decide) rfl (Or.inl wd1827) (Or.inl rfl) rfl D177_20 ?_
  refine s_Il gk3 (Or.inr ⟨3, D177_23, rfl⟩) ?_
  refine s_Ald (t := 1) (ty := .boolean) rfl q_zald rfl D177_24 ?_
  refine s_If c_eq (fun _ => rfl) (fun _ _ => rfl) (b_eq (tg := 32) (by decide)) D177_25.1 P177_32 (?_ : rSnd _ _ 28 _)
  refine s_ic D177_28 kc_i_1 (by decide) ?_
  exact s_Go (pc' := 33) D177_29.1 (by decide) P177_33
theorem P177_0 : rSnd lab M177 0 B177_0 := by
  refine s_Ent ?_
  refine s_Al gk0 (Or.inr ⟨0, D177_0, rfl⟩) ?_
  refine s_Gf (ci := 19) (r := ("WordWrightModel$Dfa", kT19, 3)) rfl (show 0 < 3 from by decide) rfl (Or.inl wd1818) (Or.inl rfl) rfl D177_1 ?_
  refine s_Nwa (t := 0) rfl (q_newa (at_ := .int) (Or.inl rfl)) (fun ht _ => ht _ wd91) D177_4 ?_
  refine s_As sk2 (show 2 < 7 from by decide) (Or.inr ⟨2, D177_6, rfl⟩) ?_
  refine s_ic D177_7 kc_i_0 (by decide) ?_
  refine s_Is sk3 (show 3 < 7 from by decide) (Or.inr ⟨3, D177_8, rfl⟩) ?_
  exact P177_9
theorem D178_0 : rDec M178 0 (.aload_n 0) 1 1 := ⟨by decide +kernel, rfl⟩
theorem D178_1 : rDec M178 1 (.iconst 0) 1 2 := ⟨by decide +kernel, rfl⟩
theorem D178_2 : rDec M178 2 (.putfield 145) 3 5 := ⟨by decide +kernel, rfl⟩
theorem D178_5 : rDec M178 5 (.ldc2_w 400) 3 8 := ⟨by decide +kernel, rfl⟩
theorem D178_8 : rDec M178 8 (.lstore_n 1) 1 9 := ⟨by decide +kernel, rfl⟩
theorem D178_9 : rDec M178 9 (.new 365) 3 12 := ⟨by decide +kernel, rfl⟩
theorem D178_12 : rDec M178 12 (.dup) 1 13 := ⟨by decide +kernel, rfl⟩
theorem D178_13 : rDec M178 13 (.aload_n 0) 1 14 := ⟨by decide +kernel, rfl⟩
theorem D178_14 : rDec M178 14 (.invokespecial 373) 3 17 := ⟨by decide +kernel, rfl⟩
theorem D178_17 : rDec M178 17 (.astore_n 3) 1 18 := ⟨by decide +kernel, rfl⟩
theorem D178_18 : rDec M178 18 (.iconst 0) 1 19 := ⟨by decide +kernel, rfl⟩
theorem D178_19 : rDec M178 19 (.istore 4) 2 21 := ⟨by decide +kernel, rfl⟩
theorem D178_21 : rDec M178 21 (.iload 4) 2 23 := ⟨by decide +kernel, rfl⟩
theorem D178_23 : rDec M178 23 (.bipush 9) 2 25 := ⟨by decide +kernel, rfl⟩
theorem D178_25 : rDec M178 25 (.if_icmp .gt 24) 3 28 := ⟨by decide +kernel, rfl⟩
theorem D178_28 : rDec M178 28 (.lload_n 1) 1 29 := ⟨by decide +kernel, rfl⟩
theorem D178_29 : rDec M178 29 (.ldc2_w 402) 3 32 := ⟨by decide +kernel, rfl⟩
theorem D178_32 : rDec M178 32 (.lmul) 1 33 := ⟨by decide +kernel, rfl⟩
theorem D178_33 : rDec M178 33 (.aload_n 0) 1 34 := ⟨by decide +kernel, rfl⟩
theorem D178_34 : rDec M178 34 (.iload 4) 2 36 := ⟨by decide +kernel, rfl⟩
theorem D178_36 : rDec M178 36 (.aload_n 3) 1 37 := ⟨by decide +kernel, rfl⟩
theorem D178_37 : rDec M178 37 (.invokevirtual 396) 3 40 := ⟨by decide +kernel, rfl⟩
theorem D178_40 : rDec M178 40 (.i2l) 1 41 := ⟨by decide +kernel, rfl⟩
theorem D178_41 : rDec M178 41 (.ladd) 1 42 := ⟨by decide +kernel, rfl⟩
theorem D178_42 : rDec M178 42 (.lstore_n 1) 1 43 := ⟨by decide +kernel, rfl⟩
theorem D178_43 : rDec M178 43 (.iinc 4 1) 3 46 := ⟨by decide +kernel, rfl⟩
theorem D178_46 : rDec M178 46 (.goto (-25)) 3 49 := ⟨by decide +kernel, rfl⟩
theorem D178_49 : rDec M178 49 (.iconst 0) 1 50 := ⟨by decide +kernel, rfl⟩
theorem D178_50 : rDec M178 50 (.istore 4) 2 52 := ⟨by decide +kernel, rfl⟩
theorem D178_52 : rDec M178 52 (.iload 4) 2 54 := ⟨by decide +kernel, rfl⟩
theorem D178_54 : rDec M178 54 (.aload_n 0) 1 55 := ⟨by decide +kernel, rfl⟩
theorem D178_55 : rDec M178 55 (.getfield 106) 3 58 := ⟨by decide +kernel, rfl⟩
theorem D178_58 : rDec M178 58 (.invokeinterface 148 1) 5 63 := ⟨by decide +kernel, rfl⟩
theorem D178_63 : rDec M178 63 (.if_icmp .ge 133) 3 66 := ⟨by decide +kernel, rfl⟩
theorem D178_66 : rDec M178 66 (.aload_n 0) 1 67 := ⟨by decide +kernel, rfl⟩
theorem D178_67 : rDec M178 67 (.getfield 106) 3 70 := ⟨by decide +kernel, rfl⟩
theorem D178_70 : rDec M178 70 (.iload 4) 2 72 := ⟨by decide +kernel, rfl⟩
theorem D178_72 : rDec M178 72 (.invokeinterface 155 2) 5 77 := ⟨by decide +kernel, rfl⟩
theorem D178_77 : rDec M178 77 (.checkcast 26) 3 80 := ⟨by decide +kernel, rfl⟩
theorem D178_80 : rDec M178 80 (.astore 5) 2 82 := ⟨by decide +kernel, rfl⟩
theorem D178_82 : rDec M178 82 (.iconst 0) 1 83 := ⟨by decide +kernel, rfl⟩
theorem D178_83 : rDec M178 83 (.istore 6) 2 85 := ⟨by decide +kernel, rfl⟩
theorem D178_85 : rDec M178 85 (.iload 6) 2 87 := ⟨by decide +kernel, rfl⟩
theorem D178_87 : rDec M178 87 (.iconst 5) 1 88 := ⟨by decide +kernel, rfl⟩
theorem D178_88 : rDec M178 88 (.if_icmp .gt 25) 3 91 := ⟨by decide +kernel, rfl⟩
theorem D178_91 : rDec M178 91 (.lload_n 1) 1 92 := ⟨by decide +kernel, rfl⟩
theorem D178_92 : rDec M178 92 (.ldc2_w 402) 3 95 := ⟨by decide +kernel, rfl⟩
theorem D178_95 : rDec M178 95 (.lmul) 1 96 := ⟨by decide +kernel, rfl⟩
theorem D178_96 : rDec M178 96 (.aload_n 0) 1 97 := ⟨by decide +kernel, rfl⟩
theorem D178_97 : rDec M178 97 (.aload 5) 2 99 := ⟨by decide +kernel, rfl⟩
theorem D178_99 : rDec M178 99 (.iload 6) 2 101 := ⟨by decide +kernel, rfl⟩
theorem D178_101 : rDec M178 101 (.invokevirtual 231) 3 104 := ⟨by decide +kernel, rfl⟩
theorem D178_104 : rDec M178 104 (.i2l) 1 105 := ⟨by decide +kernel, rfl⟩
theorem D178_105 : rDec M178 105 (.ladd) 1 106 := ⟨by decide +kernel, rfl⟩
theorem D178_106 : rDec M178 106 (.lstore_n 1) 1 107 := ⟨by decide +kernel, rfl⟩
theorem D178_107 : rDec M178 107 (.iinc 6 1) 3 110 := ⟨by decide +kernel, rfl⟩
theorem D178_110 : rDec M178 110 (.goto (-25)) 3 113 := ⟨by decide +kernel, rfl⟩
theorem D178_113 : rDec M178 113 (.lload_n 1) 1 114 := ⟨by decide +kernel, rfl⟩
theorem D178_114 : rDec M178 114 (.ldc2_w 402) 3 117 := ⟨by decide +kernel, rfl⟩
theorem D178_117 : rDec M178 117 (.lmul) 1 118 := ⟨by decide +kernel, rfl⟩
theorem D178_118 : rDec M178 118 (.aload 5) 2 120 := ⟨by decide +kernel, rfl⟩
theorem D178_120 : rDec M178 120 (.iconst 2) 1 121 := ⟨by decide +kernel, rfl⟩
theorem D178_121 : rDec M178 121 (.invokestatic 242) 3 124 := ⟨by decide +kernel, rfl⟩
theorem D178_124 : rDec M178 124 (.i2l) 1 125 := ⟨by decide +kernel, rfl⟩
theorem D178_125 : rDec M178 125 (.ladd) 1 126 := ⟨by decide +kernel, rfl⟩
theorem D178_126 : rDec M178 126 (.ldc2_w 402) 3 129 := ⟨by decide +kernel, rfl⟩
theorem D178_129 : rDec M178 129 (.lmul) 1 130 := ⟨by decide +kernel, rfl⟩
theorem D178_130 : rDec M178 130 (.aload 5) 2 132 := ⟨by decide +kernel, rfl⟩
theorem D178_132 : rDec M178 132 (.iconst 5) 1 133 := ⟨by decide +kernel, rfl⟩
theorem D178_133 : rDec M178 133 (.invokestatic 242) 3 136 := ⟨by decide +kernel, rfl⟩
theorem D178_136 : rDec M178 136 (.i2l) 1 137 := ⟨by decide +kernel, rfl⟩
theorem D178_137 : rDec M178 137 (.ladd) 1 138 := ⟨by decide +kernel, rfl⟩
theorem D178_138 : rDec M178 138 (.lstore_n 1) 1 139 := ⟨by decide +kernel, rfl⟩
theorem D178_139 : rDec M178 139 (.iconst 0) 1 140 := ⟨by decide +kernel, rfl⟩
theorem D178_140 : rDec M178 140 (.istore 6) 2 142 := ⟨by decide +kernel, rfl⟩
theorem D178_142 : rDec M178 142 (.iload 6) 2 144 := ⟨by decide +kernel, rfl⟩
theorem D178_144 : rDec M178 144 (.aload 5) 2 146 := ⟨by decide +kernel, rfl⟩
theorem D178_146 : rDec M178 146 (.getfield 25) 3 149 := ⟨by decide +kernel, rfl⟩
theorem D178_149 : rDec M178 149 (.if_icmp .ge 41) 3 152 := ⟨by decide +kernel, rfl⟩
theorem D178_152 : rDec M178 152 (.iconst 0) 1 153 := ⟨by decide +kernel, rfl⟩
theorem D178_153 : rDec M178 153 (.istore 7) 2 155 := ⟨by decide +kernel, rfl⟩
theorem D178_155 : rDec M178 155 (.iload 7) 2 157 := ⟨by decide +kernel, rfl⟩
theorem D178_157 : rDec M178 157 (.iconst 4) 1 158 := ⟨by decide +kernel, rfl⟩
theorem D178_158 : rDec M178 158 (.if_icmp .ge 26) 3 161 := ⟨by decide +kernel, rfl⟩
theorem D178_161 : rDec M178 161 (.lload_n 1) 1 162 := ⟨by decide +kernel, rfl⟩
theorem D178_162 : rDec M178 162 (.ldc2_w 402) 3 165 := ⟨by decide +kernel, rfl⟩
theorem D178_165 : rDec M178 165 (.lmul) 1 166 := ⟨by decide +kernel, rfl⟩
theorem D178_166 : rDec M178 166 (.aload 5) 2 168 := ⟨by decide +kernel, rfl⟩
theorem D178_168 : rDec M178 168 (.iload 6) 2 170 := ⟨by decide +kernel, rfl⟩
theorem D178_170 : rDec M178 170 (.iload 7) 2 172 := ⟨by decide +kernel, rfl⟩
theorem D178_172 : rDec M178 172 (.invokevirtual 31) 3 175 := ⟨by decide +kernel, rfl⟩
theorem D178_175 : rDec M178 175 (.i2l) 1 176 := ⟨by decide +kernel, rfl⟩
theorem D178_176 : rDec M178 176 (.ladd) 1 177 := ⟨by decide +kernel, rfl⟩
theorem D178_177 : rDec M178 177 (.lstore_n 1) 1 178 := ⟨by decide +kernel, rfl⟩
theorem D178_178 : rDec M178 178 (.iinc 7 1) 3 181 := ⟨by decide +kernel, rfl⟩
theorem D178_181 : rDec M178 181 (.goto (-26)) 3 184 := ⟨by decide +kernel, rfl⟩
theorem D178_184 : rDec M178 184 (.iinc 6 1) 3 187 := ⟨by decide +kernel, rfl⟩
theorem D178_187 : rDec M178 187 (.goto (-45)) 3 190 := ⟨by decide +kernel, rfl⟩
theorem D178_190 : rDec M178 190 (.iinc 4 1) 3 193 := ⟨by decide +kernel, rfl⟩
theorem D178_193 : rDec M178 193 (.goto (-141)) 3 196 := ⟨by decide +kernel, rfl⟩
theorem D178_196 : rDec M178 196 (.iconst 3) 1 197 := ⟨by decide +kernel, rfl⟩
theorem D178_197 : rDec M178 197 (.newarray .int) 2 199 := ⟨by decide +kernel, rfl⟩
theorem D178_199 : rDec M178 199 (.dup) 1 200 := ⟨by decide +kernel, rfl⟩
theorem D178_200 : rDec M178 200 (.iconst 0) 1 201 := ⟨by decide +kernel, rfl⟩
theorem D178_201 : rDec M178 201 (.iconst 1) 1 202 := ⟨by decide +kernel, rfl⟩
theorem D178_202 : rDec M178 202 (.iastore) 1 203 := ⟨by decide +kernel, rfl⟩
theorem D178_203 : rDec M178 203 (.dup) 1 204 := ⟨by decide +kernel, rfl⟩
theorem D178_204 : rDec M178 204 (.iconst 1) 1 205 := ⟨by decide +kernel, rfl⟩
theorem D178_205 : rDec M178 205 (.iconst 5) 1 206 := ⟨by decide +kernel, rfl⟩
theorem D178_206 : rDec M178 206 (.iastore) 1 207 := ⟨by decide +kernel, rfl⟩
theorem D178_207 : rDec M178 207 (.dup) 1 208 := ⟨by decide +kernel, rfl⟩
theorem D178_208 : rDec M178 208 (.iconst 2) 1 209 := ⟨by decide +kernel, rfl⟩
theorem D178_209 : rDec M178 209 (.bipush 22) 2 211 := ⟨by decide +kernel, rfl⟩
theorem D178_211 : rDec M178 211 (.iastore) 1 212 := ⟨by decide +kernel, rfl⟩
theorem D178_212 : rDec M178 212 (.astore 4) 2 214 := ⟨by decide +kernel, rfl⟩
theorem D178_214 : rDec M178 214 (.iconst 0) 1 215 := ⟨by decide +kernel, rfl⟩
theorem D178_215 : rDec M178 215 (.istore 5) 2 217 := ⟨by decide +kernel, rfl⟩
theorem D178_217 : rDec M178 217 (.iload 5) 2 219 := ⟨by decide +kernel, rfl⟩
theorem D178_219 : rDec M178 219 (.aload_n 0) 1 220 := ⟨by decide +kernel, rfl⟩
theorem D178_220 : rDec M178 220 (.getfield 110) 3 223 := ⟨by decide +kernel, rfl⟩
theorem D178_223 : rDec M178 223 (.invokeinterface 148 1) 5 228 := ⟨by decide +kernel, rfl⟩
theorem D178_228 : rDec M178 228 (.if_icmp .ge 127) 3 231 := ⟨by decide +kernel, rfl⟩
theorem D178_355 : rDec M178 355 (.aload_n 0) 1 356 := ⟨by decide +kernel, rfl⟩
theorem D178_356 : rDec M178 356 (.getfield 116) 3 359 := ⟨by decide +kernel, rfl⟩
theorem D178_359 : rDec M178 359 (.invokevirtual 318) 3 362 := ⟨by decide +kernel, rfl⟩
theorem D178_362 : rDec M178 362 (.iconst 0) 1 363 := ⟨by decide +kernel, rfl⟩
theorem D178_363 : rDec M178 363 (.istore 5) 2 365 := ⟨by decide +kernel, rfl⟩
theorem D178_365 : rDec M178 365 (.iload 5) 2 367 := ⟨by decide +kernel, rfl⟩
theorem D178_367 : rDec M178 367 (.iconst 4) 1 368 := ⟨by decide +kernel, rfl⟩
theorem D178_368 : rDec M178 368 (.if_icmp .ge 27) 3 371 := ⟨by decide +kernel, rfl⟩
theorem D178_371 : rDec M178 371 (.lload_n 1) 1 372 := ⟨by decide +kernel, rfl⟩
theorem D178_372 : rDec M178 372 (.ldc2_w 402) 3 375 := ⟨by decide +kernel, rfl⟩
theorem D178_375 : rDec M178 375 (.lmul) 1 376 := ⟨by decide +kernel, rfl⟩
theorem D178_376 : rDec M178 376 (.aload_n 0) 1 377 := ⟨by decide +kernel, rfl⟩
theorem D178_377 : rDec M178 377 (.getfield 116) 3 380 := ⟨by decide +kernel, rfl⟩
theorem D178_380 : rDec M178 380 (.getfield 321) 3 383 := ⟨by decide +kernel, rfl⟩
theorem D178_383 : rDec M178 383 (.iload 5) 2 385 := ⟨by decide +kernel, rfl⟩
theorem D178_385 : rDec M178 385 (.iaload) 1 386 := ⟨by decide +kernel, rfl⟩
theorem D178_386 : rDec M178 386 (.i2l) 1 387 := ⟨by decide +kernel, rfl⟩
theorem D178_387 : rDec M178 387 (.ladd) 1 388 := ⟨by decide +kernel, rfl⟩
theorem D178_388 : rDec M178 388 (.lstore_n 1) 1 389 := ⟨by decide +kernel, rfl⟩
theorem D178_389 : rDec M178 389 (.iinc 5 1) 3 392 := ⟨by decide +kernel, rfl⟩
theorem D178_392 : rDec M178 392 (.goto (-27)) 3 395 := ⟨by decide +kernel, rfl⟩
theorem D178_395 : rDec M178 395 (.iconst 0) 1 396 := ⟨by decide +kernel, rfl⟩
theorem D178_396 : rDec M178 396 (.istore 5) 2 398 := ⟨by decide +kernel, rfl⟩
theorem D178_398 : rDec M178 398 (.iload 5) 2 400 := ⟨by decide +kernel, rfl⟩
theorem D178_400 : rDec M178 400 (.aload_n 0) 1 401 := ⟨by decide +kernel, rfl⟩
theorem D178_401 : rDec M178 401 (.getfield 120) 3 404 := ⟨by decide +kernel, rfl⟩
theorem D178_404 : rDec M178 404 (.invokeinterface 148 1) 5 409 := ⟨by decide +kernel, rfl⟩
theorem D178_409 : rDec M178 409 (.if_icmp .ge 150) 3 412 := ⟨by decide +kernel, rfl⟩
theorem D178_559 : rDec M178 559 (.iconst 0) 1 560 := ⟨by decide +kernel, rfl⟩
theorem D178_560 : rDec M178 560 (.istore 5) 2 562 := ⟨by decide +kernel, rfl⟩
theorem D178_562 : rDec M178 562 (.iload 5) 2 564 := ⟨by decide +kernel, rfl⟩
theorem D178_564 : rDec M178 564 (.bipush 10) 2 566 := ⟨by decide +kernel, rfl⟩
theorem D178_566 : rDec M178 566 (.if_icmp .gt 58) 3 569 := ⟨by decide +kernel, rfl⟩
theorem D178_569 : rDec M178 569 (.iconst 0) 1 570 := ⟨by decide +kernel, rfl⟩
theorem D178_570 : rDec M178 570 (.istore 6) 2 572 := ⟨by decide +kernel, rfl⟩
theorem D178_572 : rDec M178 572 (.iload 6) 2 574 := ⟨by decide +kernel, rfl⟩
theorem D178_574 : rDec M178 574 (.iconst 3) 1 575 := ⟨by decide +kernel, rfl⟩
theorem D178_575 : rDec M178 575 (.if_icmp .ge 43) 3 578 := ⟨by decide +kernel, rfl⟩
theorem D178_578 : rDec M178 578 (.iconst 0) 1 579 := ⟨by decide +kernel, rfl⟩
theorem D178_579 : rDec M178 579 (.istore 7) 2 581 := ⟨by decide +kernel, rfl⟩
theorem D178_581 : rDec M178 581 (.iload 7) 2 583 := ⟨by decide +kernel, rfl⟩
theorem D178_583 : rDec M178 583 (.iconst 3) 1 584 := ⟨by decide +kernel, rfl⟩
theorem D178_584 : rDec M178 584 (.if_icmp .gt 28) 3 587 := ⟨by decide +kernel, rfl⟩
theorem D178_587 : rDec M178 587 (.lload_n 1) 1 588 := ⟨by decide +kernel, rfl⟩
theorem D178_588 : rDec M178 588 (.ldc2_w 402) 3 591 := ⟨by decide +kernel, rfl⟩
theorem D178_591 : rDec M178 591 (.lmul) 1 592 := ⟨by decide +kernel, rfl⟩
theorem D178_592 : rDec M178 592 (.aload_n 0) 1 593 := ⟨by decide +kernel, rfl⟩
theorem D178_593 : rDec M178 593 (.aload_n 3) 1 594 := ⟨by decide +kernel, rfl⟩
theorem D178_594 : rDec M178 594 (.iload 5) 2 596 := ⟨by decide +kernel, rfl⟩
theorem D178_596 : rDec M178 596 (.iload 6) 2 598 := ⟨by decide +kernel, rfl⟩
theorem D178_598 : rDec M178 598 (.iload 7) 2 600 := ⟨by decide +kernel, rfl⟩
theorem D178_600 : rDec M178 600 (.invokevirtual 376) 3 603 := ⟨by decide +kernel, rfl⟩
theorem D178_603 : rDec M178 603 (.i2l) 1 604 := ⟨by decide +kernel, rfl⟩
theorem D178_604 : rDec M178 604 (.ladd) 1 605 := ⟨by decide +kernel, rfl⟩
theorem D178_605 : rDec M178 605 (.lstore_n 1) 1 606 := ⟨by decide +kernel, rfl⟩
theorem D178_606 : rDec M178 606 (.iinc 7 1) 3 609 := ⟨by decide +kernel, rfl⟩
theorem D178_609 : rDec M178 609 (.goto (-28)) 3 612 := ⟨by decide +kernel, rfl⟩
theorem D178_612 : rDec M178 612 (.iinc 6 1) 3 615 := ⟨by decide +kernel, rfl⟩
theorem D178_615 : rDec M178 615 (.goto (-43)) 3 618 := ⟨by decide +kernel, rfl⟩
theorem D178_618 : rDec M178 618 (.iinc 5 1) 3 621 := ⟨by decide +kernel, rfl⟩
theorem D178_621 : rDec M178 621 (.goto (-59)) 3 624 := ⟨by decide +kernel, rfl⟩
theorem D178_624 : rDec M178 624 (.iconst 0) 1 625 := ⟨by decide +kernel, rfl⟩
theorem D178_625 : rDec M178 625 (.istore 5) 2 627 := ⟨by decide +kernel, rfl⟩
theorem D178_627 : rDec M178 627 (.iload 5) 2 629 := ⟨by decide +kernel, rfl⟩
theorem D178_629 : rDec M178 629 (.aload_n 0) 1 630 := ⟨by decide +kernel, rfl⟩
theorem D178_630 : rDec M178 630 (.getfield 130) 3 633 := ⟨by decide +kernel, rfl⟩
theorem D178_633 : rDec M178 633 (.invokeinterface 148 1) 5 638 := ⟨by decide +kernel, rfl⟩
theorem D178_638 : rDec M178 638 (.if_icmp .ge 24) 3 641 := ⟨by decide +kernel, rfl⟩
theorem D178_662 : rDec M178 662 (.lload_n 1) 1 663 := ⟨by decide +kernel, rfl⟩
theorem D178_663 : rDec M178 663 (.lreturn) 1 664 := ⟨by decide +kernel, rfl⟩
theorem P178_662 : rSnd lab M178 662 B178_662 := by
  refine s_Ll gk1 (Or.inr ⟨1, D178_662, rfl⟩) ?_
  exact s_Rl rfl D178_663.1
theorem P178_624 : rSnd lab M178 624 B178_624 := by
  refine s_ic D178_624 kc_i_0 (by decide) ?_
  refine s_Is sk5 (show 5 < 12 from by decide) (Or.inl D178_625) ?_
  refine s_Il gk5 (Or.inl D178_627) ?_
  refine s_Al gk0 (Or.inr ⟨0, D178_629, rfl⟩) ?_
  refine s_Gf (ci := 11) (r := ("WordWrightModel", kT11, 10)) rfl (show 9 < 10 from by decide) rfl (Or.inl wd2038) (Or.inl rfl) rfl D178_630 ?_
  refine s_Cv (ln := 5) (kd := 50) (C := "java/util/ArrayList") (by decide) (by decide +kernel) rfl (l_F (C := "java/util/ArrayList") (x := ({ cls := "java/util/List", name := "size", desc := "()I" } : Jvm.MethodName)) (ci := 24) (r := ("java/util/ArrayList", kT24, 3)) rfl rfl rfl ok15 rfl rfl (by decide) (List.mem_of_getElem? (i := 4) rfl) wd2073 wd2078 wd2076 D178_633.1) (?_ : rSnd _ _ 638 _)
  refine s_Ic c_ge (i_ge (tg := 662) (by decide)) D178_638.1 P178_662 (?_ : rSnd _ _ 641 _)
  exact rSnd_none
theorem P178_618 : rSnd lab M178 618 B178_618 := by
  refine s_Inc gk5 sk5 (show 5 < 12 from by decide) kc_i_1 D178_618 ?_
  exact s_Go (pc' := 562) D178_621.1 (by decide) (s_Jb rfl)
theorem P178_612 : rSnd lab M178 612 B178_612 := by
  refine s_Inc gk6 sk6 (show 6 < 12 from by decide) kc_i_1 D178_612 ?_
  exact s_Go (pc' := 572) D178_615.1 (by decide) (s_Jb rfl)
theorem P178_581 : rSnd lab M178 581 B178_581 := by
  refine s_Il gk7 (Or.inl D178_581) ?_
  refine s_ic D178_583 kc_i_3 (by decide) ?_
  refine s_Ic c_gt (i_gt (tg := 612) (by decide)) D178_584.1 P178_612 (?_ : rSnd _ _ 587 _)
  refine s_Ll gk1 (Or.inr ⟨1, D178_587, rfl⟩) ?_
  refine s_ld2 rfl wd2854 D178_588 kc_J_31 (by decide) ?_
  refine s_BinL q_lmul nl_mul D178_591 ?_
  refine s_Al gk0 (Or.inr ⟨0, D178_592, rfl⟩) ?_
  refine s_Al gk3 (Or.inr ⟨3, D178_593, rfl⟩) ?_
  refine s_Il gk5 (Or.inl D178_594) ?_
  refine s_Il gk6 (Or.inl D178_596) ?_
  refine s_Il gk7 (Or.inl D178_598) ?_
  refine s_Cv (ln := 3) (kd := 24) (C := "WordWrightModel") (by decide) (by decide +kernel) rfl (l_V rfl ok220 rfl wd2817 wd2819 ws82 D178_600.1) (?_ : rSnd _ _ 603 _)
  refine s_I2l D178_603 ?_
  refine s_BinL q_ladd nl_add D178_604 ?_
  refine s_Ls dk1 (show 2 < 12 from by decide) (Or.inr ⟨1, D178_605, rfl⟩) ?_
  refine s_Inc gk7 sk7 (show 7 < 12 from by decide) kc_i_1 D178_606 ?_
  exact s_Go (pc' := 581) D178_609.1 (by decide) (s_Jb rfl)
theorem P178_572 : rSnd lab M178 572 B178_572 := by
  refine s_Il gk6 (Or.inl D178_572) ?_
  refine s_ic D178_574 kc_i_3 (by decide) ?_
  refine s_Ic c_ge (i_ge (tg := 618) (by decide)) D178_575.1 P178_618 (?_ : rSnd _ _ 578 _)
  refine s_ic D178_578 kc_i_0 (by decide) ?_
  refine s_Is sk7 (show 7 < 12 from by decide) (Or.inl D178_579) ?_
  exact P178_581
theorem P178_562 : rSnd lab M178 562 B178_562 := by
  refine s_Il gk5 (Or.inl D178_562) ?_
  refine s_bi D178_564 kc_b_10 (by decide) ?_
  refine s_Ic c_gt (i_gt (tg := 624) (by decide)) D178_566.1 P178_624 (?_ : rSnd _ _ 569 _)
  refine s_ic D178_569 kc_i_0 (by decide) ?_
  refine s_Is sk6 (show 6 < 12 from by decide) (Or.inl D178_570) ?_
  exact P178_572
theorem P178_559 : rSnd lab M178 559 B178_559 := by
  refine s_ic D178_559 kc_i_0 (by decide) ?_
  refine s_Is sk5 (show 5 < 12 from by decide) (Or.inl D178_560) ?_
  exact P178_562
theorem P178_395 : rSnd lab M178 395 B178_395 := by
  refine s_ic D178_395 kc_i_0 (by decide) ?_
  refine s_Is sk5 (show 5 < 12 from by decide) (Or.inl D178_396) ?_
  refine s_Il gk5 (Or.inl D178_398) ?_
  refine s_Al gk0 (Or.inr ⟨0, D178_400, rfl⟩) ?_
  refine s_Gf (ci := 11) (r := ("WordWrightModel", kT11, 10)) rfl (show 5 < 10 from by decide) rfl (Or.inl wd2033) (Or.inl rfl) rfl D178_401 ?_
  refine s_Cv (ln := 5) (kd := 50) (C := "java/util/ArrayList") (by decide) (by decide +kernel) rfl (l_F (C := "java/util/ArrayList") (x := ({ cls := "java/util/List", name := "size", desc := "()I" } : Jvm.MethodName)) (ci := 24) (r := ("java/util/ArrayList", kT24, 3)) rfl rfl rfl ok15 rfl rfl (by decide) (List.mem_of_getElem? (i := 4) rfl) wd2073 wd2078 wd2076 D178_404.1) (?_ : rSnd _ _ 409 _)
  refine s_Ic c_ge (i_ge (tg := 559) (by decide)) D178_409.1 P178_559 (?_ : rSnd _ _ 412 _)
  exact rSnd_none
theorem P178_365 : rSnd lab M178 365 B178_365 := by
  refine s_Il gk5 (Or.inl D178_365) ?_
  refine s_ic D178_367 kc_i_4 (by decide) ?_
  refine s_Ic c_ge (i_ge (tg := 395) (by decide)) D178_368.1 P178_395 (?_ : rSnd _ _ 371 _)
  refine s_Ll gk1 (Or.inr ⟨1, D178_371, rfl⟩) ?_
  refine s_ld2 rfl wd2854 D178_372 kc_J_31 (by decide) ?_
  refine s_BinL q_lmul nl_mul D178_375 ?_
  refine s_Al gk0 (Or.inr ⟨0, D178_376, rfl⟩) ?_
  refine s_Gf (ci := 11) (r := ("WordWrightModel", kT11, 10)) rfl (show 4 < 10 from by decide) rfl (Or.inl wd2032) (Or.inl rfl) rfl D178_377 ?_
  refine s_Gf (ci := 20) (r := ("WordWrightModel$Equations", kT20, 6)) rfl (show 4 < 6 from by decide) rfl (Or.inl wd1934) (Or.inl rfl) rfl D178_380 ?_
  refine s_Il gk5 (Or.inl D178_383) ?_
  refine s_Ial D178_385 ?_
  refine s_I2l D178_386 ?_
  refine s_BinL q_ladd nl_add D178_387 ?_
  refine s_Ls dk1 (show 2 < 12 from by decide) (Or.inr ⟨1, D178_388, rfl⟩) ?_
  refine s_Inc gk5 sk5 (show 5 < 12 from by decide) kc_i_1 D178_389 ?_
  exact s_Go (pc' := 365) D178_392.1 (by decide) (s_Jb rfl)
theorem P178_355 : rSnd lab M178 355 B178_355 := by
  refine s_Al gk0 (Or.inr ⟨0, D178_355, rfl⟩) ?_
  refine s_Gf (ci := 11) (r := ("WordWrightModel", kT11, 10)) rfl (show 4 < 10 from by decide) rfl (Or.inl wd2032) (Or.inl rfl) rfl D178_356 ?_
  refine s_Cv (ln := 3) (kd := 42) (C := "WordWrightModel$Equations") (by decide) (by decide +kernel) rfl (l_V rfl ok155 rfl wd2618 wd2619 wd2620 D178_359.1) (?_ : rSnd _ _ 362 _)
  refine s_ic D178_362 kc_i_0 (by decide) ?_
  refine s_Is sk5 (show 5 < 12 from by decide) (Or.inl D178_363) ?_
  exact P178_365
theorem P178_196 : rSnd lab M178 196 B178_196 := by
  refine s_ic D178_196 kc_i_3 (by decide) ?_
  refine s_Nwa (t := 0) rfl (q_newa (at_ := .int) (Or.inl rfl)) (fun ht _ => ht _ wd91) D178_197 ?_
  refine s_Dup D178_199 ?_
  refine s_ic D178_200 kc_i_0 (by decide) ?_
  refine s_ic D178_201 kc_i_1 (by decide) ?_
  refine s_Ast (t := 0) rfl q_iast rfl (by decide) D178_202 ?_
  refine s_Dup D178_203 ?_
  refine s_ic D178_204 kc_i_1 (by decide) ?_
  refine s_ic D178_205 kc_i_5 (by decide) ?_
  refine s_Ast (t := 0) rfl q_iast rfl (by decide) D178_206 ?_
  refine s_Dup D178_207 ?_
  refine s_ic D178_208 kc_i_2 (by decide) ?_
  refine s_bi D178_209 kc_b_22 (by decide) ?_
  refine s_Ast (t := 0) rfl q_iast rfl (by decide) D178_211 ?_
  refine s_As sk4 (show 4 < 12 from by decide) (Or.inl D178_212) ?_
  refine s_ic D178_214 kc_i_0 (by decide) ?_
  refine s_Is sk5 (show 5 < 12 from by decide) (Or.inl D178_215) ?_
  refine s_Il gk5 (Or.inl D178_217) ?_
  refine s_Al gk0 (Or.inr ⟨0, D178_219, rfl⟩) ?_
  refine s_Gf (ci := 11) (r := ("WordWrightModel", kT11, 10)) rfl (show 3 < 10 from by decide) rfl (Or.inl wd2031) (Or.inl rfl) rfl D178_220 ?_
  refine s_Cv (ln := 5) (kd := 50) (C := "java/util/ArrayList") (by decide) (by decide +kernel) rfl (l_F (C := "java/util/ArrayList") (x := ({ cls := "java/util/List", name := "size", desc := "()I" } : Jvm.MethodName)) (ci := 24) (r := ("java/util/ArrayList", kT24, 3)) rfl rfl rfl ok15 rfl rfl (by decide) (List.mem_of_getElem? (i := 4) rfl) wd2073 wd2078 wd2076 D178_223.1) (?_ : rSnd _ _ 228 _)
  refine s_Ic c_ge (i_ge (tg := 355) (by decide)) D178_228.1 P178_355 (?_ : rSnd _ _ 231 _)
  exact rSnd_none
theorem P178_190 : rSnd lab M178 190 B178_190 := by
  refine s_Inc gk4 sk4 (show 4 < 12 from by decide) kc_i_1 D178_190 ?_
  exact s_Go (pc' := 52) D178_193.1 (by decide) (s_Jb rfl)
theorem P178_184 : rSnd lab M178 184 B178_184 := by
  refine s_Inc gk6 sk6 (show 6 < 12 from by decide) kc_i_1 D178_184 ?_
  exact s_Go (pc' := 142) D178_187.1 (by decide) (s_Jb rfl)
theorem P178_155 : rSnd lab M178 155 B178_155 := by
  refine s_Il gk7 (Or.inl D178_155) ?_
  refine s_ic D178_157 kc_i_4 (by decide) ?_
  refine s_Ic c_ge (i_ge (tg := 184) (by decide)) D178_158.1 P178_184 (?_ : rSnd _ _ 161 _)
  refine s_Ll gk1 (Or.inr ⟨1, D178_161, rfl⟩) ?_
  refine s_ld2 rfl wd2854 D178_162 kc_J_31 (by decide) ?_
  refine s_BinL q_lmul nl_mul D178_165 ?_
  refine s_Al gk5 (Or.inl D178_166) ?_
  refine s_Il gk6 (Or.inl D178_168) ?_
  refine s_Il gk7 (Or.inl D178_170) ?_
  refine s_Cv (ln := 3) (kd := 40) (C := "WordWrightModel$Dfa") (by decide) (by decide +kernel) rfl (l_V rfl ok147 rfl wd1768 wd1739 wd1740 D178_172.1) (?_ : rSnd _ _ 175 _)
  refine s_I2l D178_175 ?_
  refine s_BinL q_ladd nl_add D178_176 ?_
  refine s_Ls dk1 (show 2 < 12 from by decide) (Or.inr ⟨1, D178_177, rfl⟩) ?_
  refine s_Inc gk7 sk7 (show 7 < 12 from by decide) kc_i_1 D178_178 ?_
  exact s_Go (pc' := 155) D178_181.1 (by decide) (s_Jb rfl)
theorem P178_142 : rSnd lab M178 142 B178_142 := by
  refine s_Il gk6 (Or.inl D178_142) ?_
  refine s_Al gk5 (Or.inl D178_144) ?_
  refine s_Gf (ci := 19) (r := ("WordWrightModel$Dfa", kT19, 3)) rfl (show 0 < 3 from by decide) rfl (Or.inl wd1818) (Or.inl rfl) rfl D178_146 ?_
  refine s_Ic c_ge (i_ge (tg := 190) (by decide)) D178_149.1 P178_190 (?_ : rSnd _ _ 152 _)
  refine s_ic D178_152 kc_i_0 (by decide) ?_
  refine s_Is sk7 (show 7 < 12 from by decide) (Or.inl D178_153) ?_
  exact P178_155
theorem P178_113 : rSnd lab M178 113 B178_113 := by
  refine s_Ll gk1 (Or.inr ⟨1, D178_113, rfl⟩) ?_
  refine s_ld2 rfl wd2854 D178_114 kc_J_31 (by decide) ?_
  refine s_BinL q_lmul nl_mul D178_117 ?_
  refine s_Al gk5 (Or.inl D178_118) ?_
  refine s_ic D178_120 kc_i_2 (by decide) ?_
  refine s_Cs (id := 229) rfl (l_S rfl ok177 rfl wd2407 wd2408 D178_121.1) (?_ : rSnd _ _ 124 _)
  refine s_I2l D178_124 ?_
  refine s_BinL q_ladd nl_add D178_125 ?_
  refine s_ld2 rfl wd2854 D178_126 kc_J_31 (by decide) ?_
  refine s_BinL q_lmul nl_mul D178_129 ?_
  refine s_Al gk5 (Or.inl D178_130) ?_
  refine s_ic D178_132 kc_i_5 (by decide) ?_
  refine s_Cs (id := 229) rfl (l_S rfl ok177 rfl wd2407 wd2408 D178_133.1) (?_ : rSnd _ _ 136 _)
  refine s_I2l D178_136 ?_
  refine s_BinL q_ladd nl_add D178_137 ?_
  refine s_Ls dk1 (show 2 < 12 from by decide) (Or.inr ⟨1, D178_138, rfl⟩) ?_
  refine s_ic D178_139 kc_i_0 (by decide) ?_
  refine s_Is sk6 (show 6 < 12 from by decide) (Or.inl D178_140) ?_
  exact P178_142
theorem P178_85 : rSnd lab M178 85 B178_85 := by
  refine s_Il gk6 (Or.inl D178_85) ?_
  refine s_ic D178_87 kc_i_5 (by decide) ?_
  refine s_Ic c_gt (i_gt (tg := 113) (by decide)) D178_88.1 P178_113 (?_ : rSnd _ _ 91 _)
  refine s_Ll gk1 (Or.inr ⟨1, D178_91, rfl⟩) ?_
  refine s_ld2 rfl wd2854 D178_92 kc_J_31 (by decide) ?_
  refine s_BinL q_lmul nl_mul D178_95 ?_
  refine s_Al gk0 (Or.inr ⟨0, D178_96, rfl⟩) ?_
  refine s_Al gk5 (Or.inl D178_97) ?_
  refine s_Il gk6 (Or.inl D178_99) ?_
  refine s_Cv (ln := 3) (kd := 24) (C := "WordWrightModel") (by decide) (by decide +kernel) rfl (l_V rfl ok191 rfl wd2254 wd2256 ws67 D178_101.1) (?_ : rSnd _ _ 104 _)
  refine s_I2l D178_104 ?_
  refine s_BinL q_ladd nl_add D178_105 ?_
  refine s_Ls dk1 (show 2 < 12 from by decide) (Or.inr ⟨1, D178_106, rfl⟩) ?_
  refine s_Inc gk6 sk6 (show 6 < 12 from by decide) kc_i_1 D178_107 ?_
  exact s_Go (pc' := 85) D178_110.1 (by decide) (s_Jb rfl)
theorem P178_52 : rSnd lab M178 52 B178_52 := by
  refine s_Il gk4 (Or.inl D178_52) ?_
  refine s_Al gk0 (Or.inr ⟨0, D178_54, rfl⟩) ?_
  refine s_Gf (ci := 11) (r := ("WordWrightModel", kT11, 10)) rfl (show 2 < 10 from by decide) rfl (Or.inl wd2029) (Or.inl rfl) rfl D178_55 ?_
  refine s_Cv (ln := 5) (kd := 50) (C := "java/util/ArrayList") (by decide) (by decide +kernel) rfl (l_F (C := "java/util/ArrayList") (x := ({ cls := "java/util/List", name := "size", desc := "()I" } : Jvm.MethodName)) (ci := 24) (r := ("java/util/ArrayList", kT24, 3)) rfl rfl rfl ok15 rfl rfl (by decide) (List.mem_of_getElem? (i := 4) rfl) wd2073 wd2078 wd2076 D178_58.1) (?_ : rSnd _ _ 63 _)
  refine s_Ic c_ge (i_ge (tg := 196) (by decide)) D178_63.1 P178_196 (?_ : rSnd _ _ 66 _)
  refine s_Al gk0 (Or.inr ⟨0, D178_66, rfl⟩) ?_
  refine s_Gf (ci := 11) (r := ("WordWrightModel", kT11, 10)) rfl (show 2 < 10 from by decide) rfl (Or.inl wd2029) (Or.inl rfl) rfl D178_67 ?_
  refine s_Il gk4 (Or.inl D178_70) ?_
  refine s_Cv (ln := 5) (kd := 50) (C := "java/util/ArrayList") (by decide) (by decide +kernel) rfl (l_F (C := "java/util/ArrayList") (x := ({ cls := "java/util/List", name := "get", desc := "(I)Ljava/lang/Object;" } : Jvm.MethodName)) (ci := 24) (r := ("java/util/ArrayList", kT24, 3)) rfl rfl rfl ok10 rfl rfl (by decide) (List.mem_of_getElem? (i := 2) rfl) wd2093 wd2098 wd2096 D178_72.1) (?_ : rSnd _ _ 77 _)
  refine s_Cst (C := "WordWrightModel$Dfa") (cst_ok (kd := 40) (by decide) (by decide +kernel)) rfl wd2111 D178_77 ?_
  refine s_As sk5 (show 5 < 12 from by decide) (Or.inl D178_80) ?_
  refine s_ic D178_82 kc_i_0 (by decide) ?_
  refine s_Is sk6 (show 6 < 12 from by decide) (Or.inl D178_83) ?_
  exact P178_85
theorem P178_49 : rSnd lab M178 49 B178_49 := by
  refine s_ic D178_49 kc_i_0 (by decide) ?_
  refine s_Is sk4 (show 4 < 12 from by decide) (Or.inl D178_50) ?_
  exact P178_52
theorem P178_21 : rSnd lab M178 21 B178_21 := by
  refine s_Il gk4 (Or.inl D178_21) ?_
  refine s_bi D178_23 kc_b_9 (by decide) ?_
  refine s_Ic c_gt (i_gt (tg := 49) (by decide)) D178_25.1 P178_49 (?_ : rSnd _ _ 28 _)
  refine s_Ll gk1 (Or.inr ⟨1, D178_28, rfl⟩) ?_
  refine s_ld2 rfl wd2854 D178_29 kc_J_31 (by decide) ?_
  refine s_BinL q_lmul nl_mul D178_32 ?_
  refine s_Al gk0 (Or.inr ⟨0, D178_33, rfl⟩) ?_
  refine s_Il gk4 (Or.inl D178_34) ?_
  refine s_Al gk3 (Or.inr ⟨3, D178_36, rfl⟩) ?_
  refine s_Cv (ln := 3) (kd := 24) (C := "WordWrightModel") (by decide) (by decide +kernel) rfl (l_V rfl ok202 rfl wd2833 wd2835 ws84 D178_37.1) (?_ : rSnd _ _ 40 _)
  refine s_I2l D178_40 ?_
  refine s_BinL q_ladd nl_add D178_41 ?_
  refine s_Ls dk1 (show 2 < 12 from by decide) (Or.inr ⟨1, D178_42, rfl⟩) ?_
  refine s_Inc gk4 sk4 (show 4 < 12 from by decide) kc_i_1 D178_43 ?_
  exact s_Go (pc' := 21) D178_46.1 (by decide) (s_Jb rfl)
theorem P178_0 : rSnd lab M178 0 B178_0 := by
  refine s_Ent ?_
  refine s_Al gk0 (Or.inr ⟨0, D178_0, rfl⟩) ?_
  refine s_ic D178_1 kc_i_0 (by decide) ?_
  refine s_Pf (ci := 11) (r := ("WordWrightModel", kT11, 10)) rfl (show 0 < 10 from by decide) rfl (Or.inl ⟨rfl, Or.inl wd2025⟩) (Or.inl rfl) rfl (by decide) D178_2 ?_
  refine s_ld2 rfl wd2853 D178_5 kc_J_58152 (by decide) ?_
  refine s_Ls dk1 (show 2 < 12 from by decide) (Or.inr ⟨1, D178_8, rfl⟩) ?_
  refine s_New (ci := 22) (r := ("WordWrightModel$Spans", kT22, 5)) rfl rfl wd2759 wd2760 wd55 kr22 D178_9 ?_
  refine s_Dup D178_12 ?_
  refine s_Al gk0 (Or.inr ⟨0, D178_13, rfl⟩) ?_
  refine s_Ci (id := 202) rfl (l_I rfl ok161 rfl rfl rfl wd2761 wd2762 D178_14.1) (?_ : rSnd _ _ 17 _)
  refine s_As sk3 (show 3 < 12 from by decide) (Or.inr ⟨3, D178_17, rfl⟩) ?_
  refine s_ic D178_18 kc_i_0 (by decide) ?_
  refine s_Is sk4 (show 4 < 12 from by decide) (Or.inl D178_19) ?_
  exact P178_21
theorem D179_0 : rDec M179 0 (.aload_n 0) 1 1 := ⟨by decide +kernel, rfl⟩
theorem D179_1 : rDec M179 1 (.iconst 0) 1 2 := ⟨by decide +kernel, rfl⟩
theorem D179_2 : rDec M179 2 (.putfield 145) 3 5 := ⟨by decide +kernel, rfl⟩
theorem D179_5 : rDec M179 5 (.iload_n 1) 1 6 := ⟨by decide +kernel, rfl⟩
theorem D179_6 : rDec M179 6 (.ifCond .lt 8) 3 9 := ⟨by decide +kernel, rfl⟩
theorem D179_9 : rDec M179 9 (.iload_n 1) 1 10 := ⟨by decide +kernel, rfl⟩
theorem D179_10 : rDec M179 10 (.iconst 4) 1 11 := ⟨by decide +kernel, rfl⟩
theorem D179_11 : rDec M179 11 (.if_icmp .lt 9) 3 14 := ⟨by decide +kernel, rfl⟩
theorem D179_14 : rDec M179 14 (.aload_n 0) 1 15 := ⟨by decide +kernel, rfl⟩
theorem D179_15 : rDec M179 15 (.iconst 1) 1 16 := ⟨by decide +kernel, rfl⟩
theorem D179_16 : rDec M179 16 (.invokevirtual 191) 3 19 := ⟨by decide +kernel, rfl⟩
theorem D179_19 : rDec M179 19 (.ireturn) 1 20 := ⟨by decide +kernel, rfl⟩
theorem D179_20 : rDec M179 20 (.iload_n 2) 1 21 := ⟨by decide +kernel, rfl⟩
theorem D179_21 : rDec M179 21 (.aload_n 0) 1 22 := ⟨by decide +kernel, rfl⟩
theorem D179_22 : rDec M179 22 (.getfield 106) 3 25 := ⟨by decide +kernel, rfl⟩
theorem D179_25 : rDec M179 25 (.invokeinterface 148 1) 5 30 := ⟨by decide +kernel, rfl⟩
theorem D179_30 : rDec M179 30 (.invokestatic 151) 3 33 := ⟨by decide +kernel, rfl⟩
theorem D179_33 : rDec M179 33 (.ifCond .eq 11) 3 36 := ⟨by decide +kernel, rfl⟩
theorem D179_36 : rDec M179 36 (.iload_n 3) 1 37 := ⟨by decide +kernel, rfl⟩
theorem D179_37 : rDec M179 37 (.iconst 3) 1 38 := ⟨by decide +kernel, rfl⟩
theorem D179_38 : rDec M179 38 (.invokestatic 151) 3 41 := ⟨by decide +kernel, rfl⟩
theorem D179_41 : rDec M179 41 (.ifCond .ne 9) 3 44 := ⟨by decide +kernel, rfl⟩
theorem D179_44 : rDec M179 44 (.aload_n 0) 1 45 := ⟨by decide +kernel, rfl⟩
theorem D179_45 : rDec M179 45 (.iconst 2) 1 46 := ⟨by decide +kernel, rfl⟩
theorem D179_46 : rDec M179 46 (.invokevirtual 191) 3 49 := ⟨by decide +kernel, rfl⟩
theorem D179_49 : rDec M179 49 (.ireturn) 1 50 := ⟨by decide +kernel, rfl⟩
theorem D179_50 : rDec M179 50 (.aload_n 0) 1 51 := ⟨by decide +kernel, rfl⟩
theorem D179_51 : rDec M179 51 (.getfield 116) 3 54 := ⟨by decide +kernel, rfl⟩
theorem D179_54 : rDec M179 54 (.getfield 142) 3 57 := ⟨by decide +kernel, rfl⟩
theorem D179_57 : rDec M179 57 (.iload_n 1) 1 58 := ⟨by decide +kernel, rfl⟩
theorem D179_58 : rDec M179 58 (.iaload) 1 59 := ⟨by decide +kernel, rfl⟩
theorem D179_59 : rDec M179 59 (.istore 4) 2 61 := ⟨by decide +kernel, rfl⟩
theorem D179_61 : rDec M179 61 (.aload_n 0) 1 62 := ⟨by decide +kernel, rfl⟩
theorem D179_62 : rDec M179 62 (.getfield 116) 3 65 := ⟨by decide +kernel, rfl⟩
theorem D179_65 : rDec M179 65 (.getfield 142) 3 68 := ⟨by decide +kernel, rfl⟩
theorem D179_68 : rDec M179 68 (.iload_n 1) 1 69 := ⟨by decide +kernel, rfl⟩
theorem D179_69 : rDec M179 69 (.iload_n 3) 1 70 := ⟨by decide +kernel, rfl⟩
theorem D179_70 : rDec M179 70 (.iastore) 1 71 := ⟨by decide +kernel, rfl⟩
theorem D179_71 : rDec M179 71 (.aload_n 0) 1 72 := ⟨by decide +kernel, rfl⟩
theorem D179_72 : rDec M179 72 (.getfield 116) 3 75 := ⟨by decide +kernel, rfl⟩
theorem D179_75 : rDec M179 75 (.getfield 139) 3 78 := ⟨by decide +kernel, rfl⟩
theorem D179_78 : rDec M179 78 (.iload_n 1) 1 79 := ⟨by decide +kernel, rfl⟩
theorem D179_79 : rDec M179 79 (.aload_n 0) 1 80 := ⟨by decide +kernel, rfl⟩
theorem D179_80 : rDec M179 80 (.getfield 106) 3 83 := ⟨by decide +kernel, rfl⟩
theorem D179_83 : rDec M179 83 (.iload_n 2) 1 84 := ⟨by decide +kernel, rfl⟩
theorem D179_84 : rDec M179 84 (.invokeinterface 155 2) 5 89 := ⟨by decide +kernel, rfl⟩
theorem D179_89 : rDec M179 89 (.checkcast 26) 3 92 := ⟨by decide +kernel, rfl⟩
theorem D179_92 : rDec M179 92 (.aastore) 1 93 := ⟨by decide +kernel, rfl⟩
theorem D179_93 : rDec M179 93 (.iload 4) 2 95 := ⟨by decide +kernel, rfl⟩
theorem D179_95 : rDec M179 95 (.ireturn) 1 96 := ⟨by decide +kernel, rfl⟩
theorem P179_50 : rSnd lab M179 50 B179_50 := by
  refine s_Al gk0 (Or.inr ⟨0, D179_50, rfl⟩) ?_
  refine s_Gf (ci := 11) (r := ("WordWrightModel", kT11, 10)) rfl (show 4 < 10 from by decide) rfl (Or.inl wd2032) (Or.inl rfl) rfl D179_51 ?_
  refine s_Gf (ci := 20) (r := ("WordWrightModel$Equations", kT20, 6)) rfl (show 2 < 6 from by decide) rfl (Or.inl wd1931) (Or.inl rfl) rfl D179_54 ?_
  refine s_Il gk1 (Or.inr ⟨1, D179_57, rfl⟩) ?_
  refine s_Ial D179_58 ?_
  refine s_Is sk4 (show 4 < 5 from by decide) (Or.inl D179_59) ?_
  refine s_Al gk0 (Or.inr ⟨0, D179_61, rfl⟩) ?_
  refine s_Gf (ci := 11) (r := ("WordWrightModel", kT11, 10)) rfl (show 4 < 10 from by decide) rfl (Or.inl wd2032) (Or.inl rfl) rfl D179_62 ?_
  refine s_Gf (ci := 20) (r := ("WordWrightModel$Equations", kT20, 6)) rfl (show 2 < 6 from by decide) rfl (Or.inl wd1931) (Or.inl rfl) rfl D179_65 ?_
  refine s_Il gk1 (Or.inr ⟨1, D179_68, rfl⟩) ?_
  refine s_Il gk3 (Or.inr ⟨3, D179_69, rfl⟩) ?_
  refine s_Ast (t := 0) rfl q_iast rfl (by decide) D179_70 ?_
  refine s_Al gk0 (Or.inr ⟨0, D179_71, rfl⟩) ?_
  refine s_Gf (ci := 11) (r := ("WordWrightModel", kT11, 10)) rfl (show 4 < 10 from by decide) rfl (Or.inl wd2032) (Or.inl rfl) rfl D179_72 ?_
  refine s_Gf (ci := 20) (r := ("WordWrightModel$Equations", kT20, 6)) rfl (show 1 < 6 from by decide) rfl (Or.inl wd1929) (Or.inl rfl) rfl D179_75 ?_
  refine s_Il gk1 (Or.inr ⟨1, D179_78, rfl⟩) ?_
  refine s_Al gk0 (Or.inr ⟨0, D179_79, rfl⟩) ?_
  refine s_Gf (ci := 11) (r := ("WordWrightModel", kT11, 10)) rfl (show 2 < 10 from by decide) rfl (Or.inl wd2029) (Or.inl rfl) rfl D179_80 ?_
  refine s_Il gk2 (Or.inr ⟨2, D179_83, rfl⟩) ?_
  refine s_Cv (ln := 5) (kd := 50) (C := "java/util/ArrayList") (by decide) (by decide +kernel) rfl (l_F (C := "java/util/ArrayList") (x := ({ cls := "java/util/List", name := "get", desc := "(I)Ljava/lang/Object;" } : Jvm.MethodName)) (ci := 24) (r := ("java/util/ArrayList", kT24, 3)) rfl rfl rfl ok10 rfl rfl (by decide) (List.mem_of_getElem? (i := 2) rfl) wd2093 wd2098 wd2096 D179_84.1) (?_ : rSnd _ _ 89 _)
  refine s_Cst (C := "WordWrightModel$Dfa") (cst_ok (kd := 40) (by decide) (by decide +kernel)) rfl wd2111 D179_89 ?_
  refine s_Aas okAs_ok D179_92 ?_
  refine s_Il gk4 (Or.inl D179_93) ?_
  exact s_Ri (Or.inl rfl) D179_95.1
theorem P179_44 : rSnd lab M179 44 B179_44 := by
  refine s_Al gk0 (Or.inr ⟨0, D179_44, rfl⟩) ?_
  refine s_ic D179_45 kc_i_2 (by decide) ?_
  refine s_Cv (ln := 3) (kd := 24) (C := "WordWrightModel") (by decide) (by decide +kernel) rfl (l_V rfl ok207 rfl wd2084 wd2086 ws65 D179_46.1) (?_ : rSnd _ _ 49 _)
  exact s_Ri (Or.inl rfl) D179_49.1
theorem P179_20 : rSnd lab M179 20 B179_20 := by
  refine s_Il gk2 (Or.inr ⟨2, D179_20, rfl⟩) ?_
  refine s_Al gk0 (Or.inr ⟨0, D179_21, rfl⟩) ?_
  refine s_Gf (ci := 11) (r := ("WordWrightModel", kT11, 10)) rfl (show 2 < 10 from by decide) rfl (Or.inl wd2029) (Or.inl rfl) rfl D179_22 ?_
  refine s_Cv (ln := 5) (kd := 50) (C := "java/util/ArrayList") (by decide) (by decide +kernel) rfl (l_F (C := "java/util/ArrayList") (x := ({ cls := "java/util/List", name := "size", desc := "()I" } : Jvm.MethodName)) (ci := 24) (r := ("java/util/ArrayList", kT24, 3)) rfl rfl rfl ok15 rfl rfl (by decide) (List.mem_of_getElem? (i := 4) rfl) wd2073 wd2078 wd2076 D179_25.1) (?_ : rSnd _ _ 30 _)
  refine s_Cs (id := 250) rfl (l_S rfl ok185 rfl wd2081 wd2082 D179_30.1) (?_ : rSnd _ _ 33 _)
  refine s_If c_eq (fun _ => rfl) (fun _ _ => rfl) (b_eq (tg := 44) (by decide)) D179_33.1 P179_44 (?_ : rSnd _ _ 36 _)
  refine s_Il gk3 (Or.inr ⟨3, D179_36, rfl⟩) ?_
  refine s_ic D179_37 kc_i_3 (by decide) ?_
  refine s_Cs (id := 250) rfl (l_S rfl ok185 rfl wd2081 wd2082 D179_38.1) (?_ : rSnd _ _ 41 _)
  refine s_If c_ne (fun _ => rfl) (fun _ _ => rfl) (b_ne (tg := 50) (by decide)) D179_41.1 P179_50 (?_ : rSnd _ _ 44 _)
  exact P179_44
theorem P179_14 : rSnd lab M179 14 B179_14 := by
  refine s_Al gk0 (Or.inr ⟨0, D179_14, rfl⟩) ?_
  refine s_ic D179_15 kc_i_1 (by decide) ?_
  refine s_Cv (ln := 3) (kd := 24) (C := "WordWrightModel") (by decide) (by decide +kernel) rfl (l_V rfl ok207 rfl wd2084 wd2086 ws65 D179_16.1) (?_ : rSnd _ _ 19 _)
  exact s_Ri (Or.inl rfl) D179_19.1
theorem P179_0 : rSnd lab M179 0 B179_0 := by
  refine s_Ent ?_
  refine s_Al gk0 (Or.inr ⟨0, D179_0, rfl⟩) ?_
  refine s_ic D179_1 kc_i_0 (by decide) ?_
  refine s_Pf (ci := 11) (r := ("WordWrightModel", kT11, 10)) rfl (show 0 < 10 from by decide) rfl (Or.inl ⟨rfl, Or.inl wd2025⟩) (Or.inl rfl) rfl (by decide) D179_2 ?_
  refine s_Il gk1 (Or.inr ⟨1, D179_5, rfl⟩) ?_
  refine s_If c_lt (fun _ => rfl) (fun _ _ => rfl) (b_lt (tg := 14) (by decide)) D179_6.1 P179_14 (?_ : rSnd _ _ 9 _)
  refine s_Il gk1 (Or.inr ⟨1, D179_9, rfl⟩) ?_
  refine s_ic D179_10 kc_i_4 (by decide) ?_
  refine s_Ic c_lt (i_lt (tg := 20) (by decide)) D179_11.1 P179_20 (?_ : rSnd _ _ 14 _)
  exact P179_14
