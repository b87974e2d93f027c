-- ===== rows and blocks, 9 =====
theorem D199_0 : rDec M199 0 (.iload_n 1) 1 1 := ⟨by decide +kernel, rfl⟩
theorem D199_1 : rDec M199 1 (.tableswitch 206 0 13 #[71, 71, 71, 71, 77, 107, 107, 107, 138, 155, 172, 206, 206, 189]) 71 72 := ⟨by decide +kernel, rfl⟩
theorem D199_72 : rDec M199 72 (.iload_n 1) 1 73 := ⟨by decide +kernel, rfl⟩
theorem D199_73 : rDec M199 73 (.iload_n 2) 1 74 := ⟨by decide +kernel, rfl⟩
theorem D199_74 : rDec M199 74 (.invokestatic 95) 3 77 := ⟨by decide +kernel, rfl⟩
theorem D199_77 : rDec M199 77 (.areturn) 1 78 := ⟨by decide +kernel, rfl⟩
theorem D199_78 : rDec M199 78 (.aload_n 0) 1 79 := ⟨by decide +kernel, rfl⟩
theorem D199_79 : rDec M199 79 (.getfield 106) 3 82 := ⟨by decide +kernel, rfl⟩
theorem D199_82 : rDec M199 82 (.iload_n 2) 1 83 := ⟨by decide +kernel, rfl⟩
theorem D199_83 : rDec M199 83 (.invokeinterface 155 2) 5 88 := ⟨by decide +kernel, rfl⟩
theorem D199_88 : rDec M199 88 (.checkcast 26) 3 91 := ⟨by decide +kernel, rfl⟩
theorem D199_91 : rDec M199 91 (.aload_n 0) 1 92 := ⟨by decide +kernel, rfl⟩
theorem D199_92 : rDec M199 92 (.getfield 106) 3 95 := ⟨by decide +kernel, rfl⟩
theorem D199_95 : rDec M199 95 (.iload_n 3) 1 96 := ⟨by decide +kernel, rfl⟩
theorem D199_96 : rDec M199 96 (.invokeinterface 155 2) 5 101 := ⟨by decide +kernel, rfl⟩
theorem D199_101 : rDec M199 101 (.checkcast 26) 3 104 := ⟨by decide +kernel, rfl⟩
theorem D199_104 : rDec M199 104 (.invokestatic 159) 3 107 := ⟨by decide +kernel, rfl⟩
theorem D199_107 : rDec M199 107 (.areturn) 1 108 := ⟨by decide +kernel, rfl⟩
theorem D199_108 : rDec M199 108 (.iload_n 1) 1 109 := ⟨by decide +kernel, rfl⟩
theorem D199_109 : rDec M199 109 (.aload_n 0) 1 110 := ⟨by decide +kernel, rfl⟩
theorem D199_110 : rDec M199 110 (.getfield 106) 3 113 := ⟨by decide +kernel, rfl⟩
theorem D199_113 : rDec M199 113 (.iload_n 2) 1 114 := ⟨by decide +kernel, rfl⟩
theorem D199_114 : rDec M199 114 (.invokeinterface 155 2) 5 119 := ⟨by decide +kernel, rfl⟩
theorem D199_119 : rDec M199 119 (.checkcast 26) 3 122 := ⟨by decide +kernel, rfl⟩
theorem D199_122 : rDec M199 122 (.aload_n 0) 1 123 := ⟨by decide +kernel, rfl⟩
theorem D199_123 : rDec M199 123 (.getfield 106) 3 126 := ⟨by decide +kernel, rfl⟩
theorem D199_126 : rDec M199 126 (.iload_n 3) 1 127 := ⟨by decide +kernel, rfl⟩
theorem D199_127 : rDec M199 127 (.invokeinterface 155 2) 5 132 := ⟨by decide +kernel, rfl⟩
theorem D199_132 : rDec M199 132 (.checkcast 26) 3 135 := ⟨by decide +kernel, rfl⟩
theorem D199_135 : rDec M199 135 (.invokestatic 163) 3 138 := ⟨by decide +kernel, rfl⟩
theorem D199_138 : rDec M199 138 (.areturn) 1 139 := ⟨by decide +kernel, rfl⟩
theorem D199_139 : rDec M199 139 (.aload_n 0) 1 140 := ⟨by decide +kernel, rfl⟩
theorem D199_140 : rDec M199 140 (.getfield 106) 3 143 := ⟨by decide +kernel, rfl⟩
theorem D199_143 : rDec M199 143 (.iload_n 2) 1 144 := ⟨by decide +kernel, rfl⟩
theorem D199_144 : rDec M199 144 (.invokeinterface 155 2) 5 149 := ⟨by decide +kernel, rfl⟩
theorem D199_149 : rDec M199 149 (.checkcast 26) 3 152 := ⟨by decide +kernel, rfl⟩
theorem D199_152 : rDec M199 152 (.invokestatic 167) 3 155 := ⟨by decide +kernel, rfl⟩
theorem D199_155 : rDec M199 155 (.areturn) 1 156 := ⟨by decide +kernel, rfl⟩
theorem D199_156 : rDec M199 156 (.aload_n 0) 1 157 := ⟨by decide +kernel, rfl⟩
theorem D199_157 : rDec M199 157 (.getfield 106) 3 160 := ⟨by decide +kernel, rfl⟩
theorem D199_160 : rDec M199 160 (.iload_n 2) 1 161 := ⟨by decide +kernel, rfl⟩
theorem D199_161 : rDec M199 161 (.invokeinterface 155 2) 5 166 := ⟨by decide +kernel, rfl⟩
theorem D199_166 : rDec M199 166 (.checkcast 26) 3 169 := ⟨by decide +kernel, rfl⟩
theorem D199_169 : rDec M199 169 (.invokestatic 171) 3 172 := ⟨by decide +kernel, rfl⟩
theorem D199_172 : rDec M199 172 (.areturn) 1 173 := ⟨by decide +kernel, rfl⟩
theorem D199_173 : rDec M199 173 (.aload_n 0) 1 174 := ⟨by decide +kernel, rfl⟩
theorem D199_174 : rDec M199 174 (.getfield 106) 3 177 := ⟨by decide +kernel, rfl⟩
theorem D199_177 : rDec M199 177 (.iload_n 2) 1 178 := ⟨by decide +kernel, rfl⟩
theorem D199_178 : rDec M199 178 (.invokeinterface 155 2) 5 183 := ⟨by decide +kernel, rfl⟩
theorem D199_183 : rDec M199 183 (.checkcast 26) 3 186 := ⟨by decide +kernel, rfl⟩
theorem D199_186 : rDec M199 186 (.invokestatic 174) 3 189 := ⟨by decide +kernel, rfl⟩
theorem D199_189 : rDec M199 189 (.areturn) 1 190 := ⟨by decide +kernel, rfl⟩
theorem P199_173 : rSnd lab M199 173 B199_173 := by
  refine s_Al gk0 (Or.inr ⟨0, D199_173, rfl⟩) ?_
  refine s_Gf (ci := 11) (r := ("WordWrightModel", kT11, 10)) rfl (show 2 < 10 from by decide) rfl (Or.inl wd2029) (Or.inl rfl) rfl D199_174 ?_
  refine s_Il gk2 (Or.inr ⟨2, D199_177, rfl⟩) ?_
  refine s_Cv (ln := 5) (kd := 50) (C := "java/util/ArrayList") (by decide) (by decide +kernel) rfl (l_F (C := "java/util/ArrayList") (x := ({ cls := "java/util/List", name := "get", desc := "(I)Ljava/lang/Object;" } : Jvm.MethodName)) (ci := 24) (r := ("java/util/ArrayList", kT24, 3)) rfl rfl rfl ok10 rfl rfl (by decide) (List.mem_of_getElem? (i := 2) rfl) wd2093 wd2098 wd2096 D199_178.1) (?_ : rSnd _ _ 183 _)
  refine s_Cst (C := "WordWrightModel$Dfa") (cst_ok (kd := 40) (by decide) (by decide +kernel)) rfl wd2111 D199_183 ?_
  refine s_Cs (id := 248) rfl (l_S rfl ok183 rfl wd2184 wd2185 D199_186.1) (?_ : rSnd _ _ 189 _)
  exact s_Ra (Or.inl ⟨_, rfl⟩) D199_189.1
theorem P199_156 : rSnd lab M199 156 B199_156 := by
  refine s_Al gk0 (Or.inr ⟨0, D199_156, rfl⟩) ?_
  refine s_Gf (ci := 11) (r := ("WordWrightModel", kT11, 10)) rfl (show 2 < 10 from by decide) rfl (Or.inl wd2029) (Or.inl rfl) rfl D199_157 ?_
  refine s_Il gk2 (Or.inr ⟨2, D199_160, rfl⟩) ?_
  refine s_Cv (ln := 5) (kd := 50) (C := "java/util/ArrayList") (by decide) (by decide +kernel) rfl (l_F (C := "java/util/ArrayList") (x := ({ cls := "java/util/List", name := "get", desc := "(I)Ljava/lang/Object;" } : Jvm.MethodName)) (ci := 24) (r := ("java/util/ArrayList", kT24, 3)) rfl rfl rfl ok10 rfl rfl (by decide) (List.mem_of_getElem? (i := 2) rfl) wd2093 wd2098 wd2096 D199_161.1) (?_ : rSnd _ _ 166 _)
  refine s_Cst (C := "WordWrightModel$Dfa") (cst_ok (kd := 40) (by decide) (by decide +kernel)) rfl wd2111 D199_166 ?_
  refine s_Cs (id := 307) rfl (l_S rfl ok226 rfl wd2168 wd2169 D199_169.1) (?_ : rSnd _ _ 172 _)
  exact s_Ra (Or.inl ⟨_, rfl⟩) D199_172.1
theorem P199_139 : rSnd lab M199 139 B199_139 := by
  refine s_Al gk0 (Or.inr ⟨0, D199_139, rfl⟩) ?_
  refine s_Gf (ci := 11) (r := ("WordWrightModel", kT11, 10)) rfl (show 2 < 10 from by decide) rfl (Or.inl wd2029) (Or.inl rfl) rfl D199_140 ?_
  refine s_Il gk2 (Or.inr ⟨2, D199_143, rfl⟩) ?_
  refine s_Cv (ln := 5) (kd := 50) (C := "java/util/ArrayList") (by decide) (by decide +kernel) rfl (l_F (C := "java/util/ArrayList") (x := ({ cls := "java/util/List", name := "get", desc := "(I)Ljava/lang/Object;" } : Jvm.MethodName)) (ci := 24) (r := ("java/util/ArrayList", kT24, 3)) rfl rfl rfl ok10 rfl rfl (by decide) (List.mem_of_getElem? (i := 2) rfl) wd2093 wd2098 wd2096 D199_144.1) (?_ : rSnd _ _ 149 _)
  refine s_Cst (C := "WordWrightModel$Dfa") (cst_ok (kd := 40) (by decide) (by decide +kernel)) rfl wd2111 D199_149 ?_
  refine s_Cs (id := 301) rfl (l_S rfl ok221 rfl wd2152 wd2153 D199_152.1) (?_ : rSnd _ _ 155 _)
  exact s_Ra (Or.inl ⟨_, rfl⟩) D199_155.1
theorem P199_108 : rSnd lab M199 108 B199_108 := by
  refine s_Il gk1 (Or.inr ⟨1, D199_108, rfl⟩) ?_
  refine s_Al gk0 (Or.inr ⟨0, D199_109, rfl⟩) ?_
  refine s_Gf (ci := 11) (r := ("WordWrightModel", kT11, 10)) rfl (show 2 < 10 from by decide) rfl (Or.inl wd2029) (Or.inl rfl) rfl D199_110 ?_
  refine s_Il gk2 (Or.inr ⟨2, D199_113, rfl⟩) ?_
  refine s_Cv (ln := 5) (kd := 50) (C := "java/util/ArrayList") (by decide) (by decide +kernel) rfl (l_F (C := "java/util/ArrayList") (x := ({ cls := "java/util/List", name := "get", desc := "(I)Ljava/lang/Object;" } : Jvm.MethodName)) (ci := 24) (r := ("java/util/ArrayList", kT24, 3)) rfl rfl rfl ok10 rfl rfl (by decide) (List.mem_of_getElem? (i := 2) rfl) wd2093 wd2098 wd2096 D199_114.1) (?_ : rSnd _ _ 119 _)
  refine s_Cst (C := "WordWrightModel$Dfa") (cst_ok (kd := 40) (by decide) (by decide +kernel)) rfl wd2111 D199_119 ?_
  refine s_Al gk0 (Or.inr ⟨0, D199_122, rfl⟩) ?_
  refine s_Gf (ci := 11) (r := ("WordWrightModel", kT11, 10)) rfl (show 2 < 10 from by decide) rfl (Or.inl wd2029) (Or.inl rfl) rfl D199_123 ?_
  refine s_Il gk3 (Or.inr ⟨3, D199_126, rfl⟩) ?_
  refine s_Cv (ln := 5) (kd := 50) (C := "java/util/ArrayList") (by decide) (by decide +kernel) rfl (l_F (C := "java/util/ArrayList") (x := ({ cls := "java/util/List", name := "get", desc := "(I)Ljava/lang/Object;" } : Jvm.MethodName)) (ci := 24) (r := ("java/util/ArrayList", kT24, 3)) rfl rfl rfl ok10 rfl rfl (by decide) (List.mem_of_getElem? (i := 2) rfl) wd2093 wd2098 wd2096 D199_127.1) (?_ : rSnd _ _ 132 _)
  refine s_Cst (C := "WordWrightModel$Dfa") (cst_ok (kd := 40) (by decide) (by decide +kernel)) rfl wd2111 D199_132 ?_
  refine s_Cs (id := 292) rfl (l_S rfl ok212 rfl wd2130 wd2131 D199_135.1) (?_ : rSnd _ _ 138 _)
  exact s_Ra (Or.inl ⟨_, rfl⟩) D199_138.1
theorem P199_78 : rSnd lab M199 78 B199_78 := by
  refine s_Al gk0 (Or.inr ⟨0, D199_78, rfl⟩) ?_
  refine s_Gf (ci := 11) (r := ("WordWrightModel", kT11, 10)) rfl (show 2 < 10 from by decide) rfl (Or.inl wd2029) (Or.inl rfl) rfl D199_79 ?_
  refine s_Il gk2 (Or.inr ⟨2, D199_82, rfl⟩) ?_
  refine s_Cv (ln := 5) (kd := 50) (C := "java/util/ArrayList") (by decide) (by decide +kernel) rfl (l_F (C := "java/util/ArrayList") (x := ({ cls := "java/util/List", name := "get", desc := "(I)Ljava/lang/Object;" } : Jvm.MethodName)) (ci := 24) (r := ("java/util/ArrayList", kT24, 3)) rfl rfl rfl ok10 rfl rfl (by decide) (List.mem_of_getElem? (i := 2) rfl) wd2093 wd2098 wd2096 D199_83.1) (?_ : rSnd _ _ 88 _)
  refine s_Cst (C := "WordWrightModel$Dfa") (cst_ok (kd := 40) (by decide) (by decide +kernel)) rfl wd2111 D199_88 ?_
  refine s_Al gk0 (Or.inr ⟨0, D199_91, rfl⟩) ?_
  refine s_Gf (ci := 11) (r := ("WordWrightModel", kT11, 10)) rfl (show 2 < 10 from by decide) rfl (Or.inl wd2029) (Or.inl rfl) rfl D199_92 ?_
  refine s_Il gk3 (Or.inr ⟨3, D199_95, rfl⟩) ?_
  refine s_Cv (ln := 5) (kd := 50) (C := "java/util/ArrayList") (by decide) (by decide +kernel) rfl (l_F (C := "java/util/ArrayList") (x := ({ cls := "java/util/List", name := "get", desc := "(I)Ljava/lang/Object;" } : Jvm.MethodName)) (ci := 24) (r := ("java/util/ArrayList", kT24, 3)) rfl rfl rfl ok10 rfl rfl (by decide) (List.mem_of_getElem? (i := 2) rfl) wd2093 wd2098 wd2096 D199_96.1) (?_ : rSnd _ _ 101 _)
  refine s_Cst (C := "WordWrightModel$Dfa") (cst_ok (kd := 40) (by decide) (by decide +kernel)) rfl wd2111 D199_101 ?_
  refine s_Cs (id := 257) rfl (l_S rfl ok190 rfl wd2112 wd2113 D199_104.1) (?_ : rSnd _ _ 107 _)
  exact s_Ra (Or.inl ⟨_, rfl⟩) D199_107.1
theorem P199_72 : rSnd lab M199 72 B199_72 := by
  refine s_Il gk1 (Or.inr ⟨1, D199_72, rfl⟩) ?_
  refine s_Il gk2 (Or.inr ⟨2, D199_73, rfl⟩) ?_
  refine s_Cs (id := 295) rfl (l_S rfl ok215 rfl wd1672 wd1673 D199_74.1) (?_ : rSnd _ _ 77 _)
  exact s_Ra (Or.inl ⟨_, rfl⟩) D199_77.1
theorem P199_0 : rSnd lab M199 0 B199_0 := by
  refine s_Ent ?_
  refine s_Il gk1 (Or.inr ⟨1, D199_0, rfl⟩) ?_
  exact s_Tsw (tgd := 207) D199_1.1 rfl (by decide) (by decide) ⟨⟨72, by decide, P199_72⟩, ⟨72, by decide, P199_72⟩, ⟨72, by decide, P199_72⟩, ⟨72, by decide, P199_72⟩, ⟨78, by decide, P199_78⟩, ⟨108, by decide, P199_108⟩, ⟨108, by decide, P199_108⟩, ⟨108, by decide, P199_108⟩, ⟨139, by decide, P199_139⟩, ⟨156, by decide, P199_156⟩, ⟨173, by decide, P199_173⟩, ⟨207, by decide, rSnd_none⟩, ⟨207, by decide, rSnd_none⟩, ⟨190, by decide, rSnd_none⟩, trivial⟩ (by decide) rSnd_none
theorem D200_0 : rDec M200 0 (.aload_n 0) 1 1 := ⟨by decide +kernel, rfl⟩
theorem D200_1 : rDec M200 1 (.iconst 0) 1 2 := ⟨by decide +kernel, rfl⟩
theorem D200_2 : rDec M200 2 (.putfield 145) 3 5 := ⟨by decide +kernel, rfl⟩
theorem D200_5 : rDec M200 5 (.aload_n 0) 1 6 := ⟨by decide +kernel, rfl⟩
theorem D200_6 : rDec M200 6 (.iload_n 1) 1 7 := ⟨by decide +kernel, rfl⟩
theorem D200_7 : rDec M200 7 (.iload_n 2) 1 8 := ⟨by decide +kernel, rfl⟩
theorem D200_8 : rDec M200 8 (.iload_n 3) 1 9 := ⟨by decide +kernel, rfl⟩
theorem D200_9 : rDec M200 9 (.invokevirtual 187) 3 12 := ⟨by decide +kernel, rfl⟩
theorem D200_12 : rDec M200 12 (.ifCond .ne 9) 3 15 := ⟨by decide +kernel, rfl⟩
theorem D200_15 : rDec M200 15 (.aload_n 0) 1 16 := ⟨by decide +kernel, rfl⟩
theorem D200_16 : rDec M200 16 (.iconst 1) 1 17 := ⟨by decide +kernel, rfl⟩
theorem D200_17 : rDec M200 17 (.invokevirtual 191) 3 20 := ⟨by decide +kernel, rfl⟩
theorem D200_20 : rDec M200 20 (.ireturn) 1 21 := ⟨by decide +kernel, rfl⟩
theorem D200_21 : rDec M200 21 (.aload_n 0) 1 22 := ⟨by decide +kernel, rfl⟩
theorem D200_22 : rDec M200 22 (.iload_n 1) 1 23 := ⟨by decide +kernel, rfl⟩
theorem D200_23 : rDec M200 23 (.iload_n 2) 1 24 := ⟨by decide +kernel, rfl⟩
theorem D200_24 : rDec M200 24 (.iload_n 3) 1 25 := ⟨by decide +kernel, rfl⟩
theorem D200_25 : rDec M200 25 (.invokevirtual 195) 3 28 := ⟨by decide +kernel, rfl⟩
theorem D200_28 : rDec M200 28 (.astore 4) 2 30 := ⟨by decide +kernel, rfl⟩
theorem D200_30 : rDec M200 30 (.aload 4) 2 32 := ⟨by decide +kernel, rfl⟩
theorem D200_32 : rDec M200 32 (.getfield 25) 3 35 := ⟨by decide +kernel, rfl⟩
theorem D200_35 : rDec M200 35 (.ifCond .gt 9) 3 38 := ⟨by decide +kernel, rfl⟩
theorem D200_44 : rDec M200 44 (.iconst 0) 1 45 := ⟨by decide +kernel, rfl⟩
theorem D200_45 : rDec M200 45 (.istore 5) 2 47 := ⟨by decide +kernel, rfl⟩
theorem D200_47 : rDec M200 47 (.iload 5) 2 49 := ⟨by decide +kernel, rfl⟩
theorem D200_49 : rDec M200 49 (.aload_n 0) 1 50 := ⟨by decide +kernel, rfl⟩
theorem D200_50 : rDec M200 50 (.getfield 106) 3 53 := ⟨by decide +kernel, rfl⟩
theorem D200_53 : rDec M200 53 (.invokeinterface 148 1) 5 58 := ⟨by decide +kernel, rfl⟩
theorem D200_58 : rDec M200 58 (.if_icmp .ge 34) 3 61 := ⟨by decide +kernel, rfl⟩
theorem D200_61 : rDec M200 61 (.aload_n 0) 1 62 := ⟨by decide +kernel, rfl⟩
theorem D200_62 : rDec M200 62 (.getfield 106) 3 65 := ⟨by decide +kernel, rfl⟩
theorem D200_65 : rDec M200 65 (.iload 5) 2 67 := ⟨by decide +kernel, rfl⟩
theorem D200_67 : rDec M200 67 (.invokeinterface 155 2) 5 72 := ⟨by decide +kernel, rfl⟩
theorem D200_72 : rDec M200 72 (.checkcast 26) 3 75 := ⟨by decide +kernel, rfl⟩
theorem D200_75 : rDec M200 75 (.aload 4) 2 77 := ⟨by decide +kernel, rfl⟩
theorem D200_77 : rDec M200 77 (.invokevirtual 199) 3 80 := ⟨by decide +kernel, rfl⟩
theorem D200_80 : rDec M200 80 (.ifCond .eq 6) 3 83 := ⟨by decide +kernel, rfl⟩
theorem D200_83 : rDec M200 83 (.iload 5) 2 85 := ⟨by decide +kernel, rfl⟩
theorem D200_85 : rDec M200 85 (.ireturn) 1 86 := ⟨by decide +kernel, rfl⟩
theorem D200_86 : rDec M200 86 (.iinc 5 1) 3 89 := ⟨by decide +kernel, rfl⟩
theorem D200_89 : rDec M200 89 (.goto (-42)) 3 92 := ⟨by decide +kernel, rfl⟩
theorem D200_92 : rDec M200 92 (.aload_n 0) 1 93 := ⟨by decide +kernel, rfl⟩
theorem D200_93 : rDec M200 93 (.getfield 106) 3 96 := ⟨by decide +kernel, rfl⟩
theorem D200_96 : rDec M200 96 (.invokeinterface 148 1) 5 101 := ⟨by decide +kernel, rfl⟩
theorem D200_101 : rDec M200 101 (.bipush 40) 2 103 := ⟨by decide +kernel, rfl⟩
theorem D200_103 : rDec M200 103 (.if_icmp .lt 9) 3 106 := ⟨by decide +kernel, rfl⟩
theorem D200_112 : rDec M200 112 (.aload_n 0) 1 113 := ⟨by decide +kernel, rfl⟩
theorem D200_113 : rDec M200 113 (.getfield 106) 3 116 := ⟨by decide +kernel, rfl⟩
theorem D200_116 : rDec M200 116 (.aload 4) 2 118 := ⟨by decide +kernel, rfl⟩
theorem D200_118 : rDec M200 118 (.invokeinterface 133 2) 5 123 := ⟨by decide +kernel, rfl⟩
theorem D200_123 : rDec M200 123 (.pop) 1 124 := ⟨by decide +kernel, rfl⟩
theorem D200_124 : rDec M200 124 (.aload_n 0) 1 125 := ⟨by decide +kernel, rfl⟩
theorem D200_125 : rDec M200 125 (.getfield 106) 3 128 := ⟨by decide +kernel, rfl⟩
theorem D200_128 : rDec M200 128 (.invokeinterface 148 1) 5 133 := ⟨by decide +kernel, rfl⟩
theorem D200_133 : rDec M200 133 (.iconst 1) 1 134 := ⟨by decide +kernel, rfl⟩
theorem D200_134 : rDec M200 134 (.isub) 1 135 := ⟨by decide +kernel, rfl⟩
theorem D200_135 : rDec M200 135 (.ireturn) 1 136 := ⟨by decide +kernel, rfl⟩
theorem P200_112 : rSnd lab M200 112 B200_112 := by
  refine s_Al gk0 (Or.inr ⟨0, D200_112, rfl⟩) ?_
  refine s_Gf (ci := 11) (r := ("WordWrightModel", kT11, 10)) rfl (show 2 < 10 from by decide) rfl (Or.inl wd2029) (Or.inl rfl) rfl D200_113 ?_
  refine s_Al gk4 (Or.inl D200_116) ?_
  refine s_Cv (ln := 5) (kd := 50) (C := "java/util/ArrayList") (by decide) (by decide +kernel) rfl (l_F (C := "java/util/ArrayList") (x := ({ cls := "java/util/List", name := "add", desc := "(Ljava/lang/Object;)Z" } : Jvm.MethodName)) (ci := 24) (r := ("java/util/ArrayList", kT24, 3)) rfl rfl rfl ok7 rfl rfl (by decide) (List.mem_of_getElem? (i := 0) rfl) wd1951 wd1957 wd1955 D200_118.1) (?_ : rSnd _ _ 123 _)
  refine s_Pop D200_123 ?_
  refine s_Al gk0 (Or.inr ⟨0, D200_124, rfl⟩) ?_
  refine s_Gf (ci := 11) (r := ("WordWrightModel", kT11, 10)) rfl (show 2 < 10 from by decide) rfl (Or.inl wd2029) (Or.inl rfl) rfl D200_125 ?_
  refine s_Cv (ln := 5) (kd := 50) (C := "java/util/ArrayList") (by decide) (by decide +kernel) rfl (l_F (C := "java/util/ArrayList") (x := ({ cls := "java/util/List", name := "size", desc := "()I" } : Jvm.MethodName)) (ci := 24) (r := ("java/util/ArrayList", kT24, 3)) rfl rfl rfl ok15 rfl rfl (by decide) (List.mem_of_getElem? (i := 4) rfl) wd2073 wd2078 wd2076 D200_128.1) (?_ : rSnd _ _ 133 _)
  refine s_ic D200_133 kc_i_1 (by decide) ?_
  refine s_Bin q_isub n_sub rG2_x rE2_x D200_134 ?_
  exact s_Ri (Or.inl rfl) D200_135.1
theorem P200_92 : rSnd lab M200 92 B200_92 := by
  refine s_Al gk0 (Or.inr ⟨0, D200_92, rfl⟩) ?_
  refine s_Gf (ci := 11) (r := ("WordWrightModel", kT11, 10)) rfl (show 2 < 10 from by decide) rfl (Or.inl wd2029) (Or.inl rfl) rfl D200_93 ?_
  refine s_Cv (ln := 5) (kd := 50) (C := "java/util/ArrayList") (by decide) (by decide +kernel) rfl (l_F (C := "java/util/ArrayList") (x := ({ cls := "java/util/List", name := "size", desc := "()I" } : Jvm.MethodName)) (ci := 24) (r := ("java/util/ArrayList", kT24, 3)) rfl rfl rfl ok15 rfl rfl (by decide) (List.mem_of_getElem? (i := 4) rfl) wd2073 wd2078 wd2076 D200_96.1) (?_ : rSnd _ _ 101 _)
  refine s_bi D200_101 kc_b_40 (by decide) ?_
  refine s_Ic c_lt (i_lt (tg := 112) (by decide)) D200_103.1 P200_112 (?_ : rSnd _ _ 106 _)
  exact rSnd_none
theorem P200_86 : rSnd lab M200 86 B200_86 := by
  refine s_Inc gk5 sk5 (show 5 < 6 from by decide) kc_i_1 D200_86 ?_
  exact s_Go (pc' := 47) D200_89.1 (by decide) (s_Jb rfl)
theorem P200_47 : rSnd lab M200 47 B200_47 := by
  refine s_Il gk5 (Or.inl D200_47) ?_
  refine s_Al gk0 (Or.inr ⟨0, D200_49, rfl⟩) ?_
  refine s_Gf (ci := 11) (r := ("WordWrightModel", kT11, 10)) rfl (show 2 < 10 from by decide) rfl (Or.inl wd2029) (Or.inl rfl) rfl D200_50 ?_
  refine s_Cv (ln := 5) (kd := 50) (C := "java/util/ArrayList") (by decide) (by decide +kernel) rfl (l_F (C := "java/util/ArrayList") (x := ({ cls := "java/util/List", name := "size", desc := "()I" } : Jvm.MethodName)) (ci := 24) (r := ("java/util/ArrayList", kT24, 3)) rfl rfl rfl ok15 rfl rfl (by decide) (List.mem_of_getElem? (i := 4) rfl) wd2073 wd2078 wd2076 D200_53.1) (?_ : rSnd _ _ 58 _)
  refine s_Ic c_ge (i_ge (tg := 92) (by decide)) D200_58.1 P200_92 (?_ : rSnd _ _ 61 _)
  refine s_Al gk0 (Or.inr ⟨0, D200_61, rfl⟩) ?_
  refine s_Gf (ci := 11) (r := ("WordWrightModel", kT11, 10)) rfl (show 2 < 10 from by decide) rfl (Or.inl wd2029) (Or.inl rfl) rfl D200_62 ?_
  refine s_Il gk5 (Or.inl D200_65) ?_
  refine s_Cv (ln := 5) (kd := 50) (C := "java/util/ArrayList") (by decide) (by decide +kernel) rfl (l_F (C := "java/util/ArrayList") (x := ({ cls := "java/util/List", name := "get", desc := "(I)Ljava/lang/Object;" } : Jvm.MethodName)) (ci := 24) (r := ("java/util/ArrayList", kT24, 3)) rfl rfl rfl ok10 rfl rfl (by decide) (List.mem_of_getElem? (i := 2) rfl) wd2093 wd2098 wd2096 D200_67.1) (?_ : rSnd _ _ 72 _)
  refine s_Cst (C := "WordWrightModel$Dfa") (cst_ok (kd := 40) (by decide) (by decide +kernel)) rfl wd2111 D200_72 ?_
  refine s_Al gk4 (Or.inl D200_75) ?_
  refine s_Cv (ln := 3) (kd := 40) (C := "WordWrightModel$Dfa") (by decide) (by decide +kernel) rfl (l_V rfl ok152 rfl wd2246 wd2247 wd2248 D200_77.1) (?_ : rSnd _ _ 80 _)
  refine s_If c_eq (fun _ => rfl) (fun _ _ => rfl) (b_eq (tg := 86) (by decide)) D200_80.1 P200_86 (?_ : rSnd _ _ 83 _)
  refine s_Il gk5 (Or.inl D200_83) ?_
  exact s_Ri (Or.inl rfl) D200_85.1
theorem P200_44 : rSnd lab M200 44 B200_44 := by
  refine s_ic D200_44 kc_i_0 (by decide) ?_
  refine s_Is sk5 (show 5 < 6 from by decide) (Or.inl D200_45) ?_
  exact P200_47
theorem P200_21 : rSnd lab M200 21 B200_21 := by
  refine s_Al gk0 (Or.inr ⟨0, D200_21, rfl⟩) ?_
  refine s_Il gk1 (Or.inr ⟨1, D200_22, rfl⟩) ?_
  refine s_Il gk2 (Or.inr ⟨2, D200_23, rfl⟩) ?_
  refine s_Il gk3 (Or.inr ⟨3, D200_24, rfl⟩) ?_
  refine s_Cv (ln := 3) (kd := 24) (C := "WordWrightModel") (by decide) (by decide +kernel) rfl (l_V rfl ok199 rfl wd2088 wd2090 ws66 D200_25.1) (?_ : rSnd _ _ 28 _)
  refine s_As sk4 (show 4 < 6 from by decide) (Or.inl D200_28) ?_
  refine s_Al gk4 (Or.inl D200_30) ?_
  refine s_Gf (ci := 19) (r := ("WordWrightModel$Dfa", kT19, 3)) rfl (show 0 < 3 from by decide) rfl (Or.inl wd1818) (Or.inl rfl) rfl D200_32 ?_
  refine s_If c_gt (fun _ => rfl) (fun _ _ => rfl) (b_gt (tg := 44) (by decide)) D200_35.1 P200_44 (?_ : rSnd _ _ 38 _)
  exact rSnd_none
theorem P200_0 : rSnd lab M200 0 B200_0 := by
  refine s_Ent ?_
  refine s_Al gk0 (Or.inr ⟨0, D200_0, rfl⟩) ?_
  refine s_ic D200_1 kc_i_0 (by decide) ?_
  refine s_Pf (ci := 11) (r := ("WordWrightModel", kT11, 10)) rfl (show 0 < 10 from by decide) rfl (Or.inl ⟨rfl, Or.inl wd2025⟩) (Or.inl rfl) rfl (by decide) D200_2 ?_
  refine s_Al gk0 (Or.inr ⟨0, D200_5, rfl⟩) ?_
  refine s_Il gk1 (Or.inr ⟨1, D200_6, rfl⟩) ?_
  refine s_Il gk2 (Or.inr ⟨2, D200_7, rfl⟩) ?_
  refine s_Il gk3 (Or.inr ⟨3, D200_8, rfl⟩) ?_
  refine s_Cv (ln := 3) (kd := 24) (C := "WordWrightModel") (by decide) (by decide +kernel) rfl (l_V rfl ok188 rfl wd2068 wd2070 ws64 D200_9.1) (?_ : rSnd _ _ 12 _)
  refine s_If c_ne (fun _ => rfl) (fun _ _ => rfl) (b_ne (tg := 21) (by decide)) D200_12.1 P200_21 (?_ : rSnd _ _ 15 _)
  refine s_Al gk0 (Or.inr ⟨0, D200_15, rfl⟩) ?_
  refine s_ic D200_16 kc_i_1 (by decide) ?_
  refine s_Cv (ln := 3) (kd := 24) (C := "WordWrightModel") (by decide) (by decide +kernel) rfl (l_V rfl ok207 rfl wd2084 wd2086 ws65 D200_17.1) (?_ : rSnd _ _ 20 _)
  exact s_Ri (Or.inl rfl) D200_20.1
theorem D201_0 : rDec M201 0 (.aload_n 0) 1 1 := ⟨by decide +kernel, rfl⟩
theorem D201_1 : rDec M201 1 (.iconst 0) 1 2 := ⟨by decide +kernel, rfl⟩
theorem D201_2 : rDec M201 2 (.putfield 145) 3 5 := ⟨by decide +kernel, rfl⟩
theorem D201_5 : rDec M201 5 (.iload_n 1) 1 6 := ⟨by decide +kernel, rfl⟩
theorem D201_6 : rDec M201 6 (.bipush 10) 2 8 := ⟨by decide +kernel, rfl⟩
theorem D201_8 : rDec M201 8 (.invokestatic 151) 3 11 := ⟨by decide +kernel, rfl⟩
theorem D201_11 : rDec M201 11 (.ifCond .ne 9) 3 14 := ⟨by decide +kernel, rfl⟩
theorem D201_14 : rDec M201 14 (.aload_n 0) 1 15 := ⟨by decide +kernel, rfl⟩
theorem D201_15 : rDec M201 15 (.iconst 1) 1 16 := ⟨by decide +kernel, rfl⟩
theorem D201_16 : rDec M201 16 (.invokevirtual 191) 3 19 := ⟨by decide +kernel, rfl⟩
theorem D201_19 : rDec M201 19 (.ireturn) 1 20 := ⟨by decide +kernel, rfl⟩
theorem D201_20 : rDec M201 20 (.aload_n 0) 1 21 := ⟨by decide +kernel, rfl⟩
theorem D201_21 : rDec M201 21 (.iload_n 1) 1 22 := ⟨by decide +kernel, rfl⟩
theorem D201_22 : rDec M201 22 (.new 365) 3 25 := ⟨by decide +kernel, rfl⟩
theorem D201_25 : rDec M201 25 (.dup) 1 26 := ⟨by decide +kernel, rfl⟩
theorem D201_26 : rDec M201 26 (.aload_n 0) 1 27 := ⟨by decide +kernel, rfl⟩
theorem D201_27 : rDec M201 27 (.invokespecial 373) 3 30 := ⟨by decide +kernel, rfl⟩
theorem D201_30 : rDec M201 30 (.invokevirtual 396) 3 33 := ⟨by decide +kernel, rfl⟩
theorem D201_33 : rDec M201 33 (.ireturn) 1 34 := ⟨by decide +kernel, rfl⟩
theorem P201_20 : rSnd lab M201 20 B201_20 := by
  refine s_Al gk0 (Or.inr ⟨0, D201_20, rfl⟩) ?_
  refine s_Il gk1 (Or.inr ⟨1, D201_21, rfl⟩) ?_
  refine s_New (ci := 22) (r := ("WordWrightModel$Spans", kT22, 5)) rfl rfl wd2759 wd2760 wd55 kr22 D201_22 ?_
  refine s_Dup D201_25 ?_
  refine s_Al gk0 (Or.inr ⟨0, D201_26, rfl⟩) ?_
  refine s_Ci (id := 202) rfl (l_I rfl ok161 rfl rfl rfl wd2761 wd2762 D201_27.1) (?_ : rSnd _ _ 30 _)
  refine s_Cv (ln := 3) (kd := 24) (C := "WordWrightModel") (by decide) (by decide +kernel) rfl (l_V rfl ok202 rfl wd2833 wd2835 ws84 D201_30.1) (?_ : rSnd _ _ 33 _)
  exact s_Ri (Or.inl rfl) D201_33.1
theorem P201_0 : rSnd lab M201 0 B201_0 := by
  refine s_Ent ?_
  refine s_Al gk0 (Or.inr ⟨0, D201_0, rfl⟩) ?_
  refine s_ic D201_1 kc_i_0 (by decide) ?_
  refine s_Pf (ci := 11) (r := ("WordWrightModel", kT11, 10)) rfl (show 0 < 10 from by decide) rfl (Or.inl ⟨rfl, Or.inl wd2025⟩) (Or.inl rfl) rfl (by decide) D201_2 ?_
  refine s_Il gk1 (Or.inr ⟨1, D201_5, rfl⟩) ?_
  refine s_bi D201_6 kc_b_10 (by decide) ?_
  refine s_Cs (id := 250) rfl (l_S rfl ok185 rfl wd2081 wd2082 D201_8.1) (?_ : rSnd _ _ 11 _)
  refine s_If c_ne (fun _ => rfl) (fun _ _ => rfl) (b_ne (tg := 20) (by decide)) D201_11.1 P201_20 (?_ : rSnd _ _ 14 _)
  refine s_Al gk0 (Or.inr ⟨0, D201_14, rfl⟩) ?_
  refine s_ic D201_15 kc_i_1 (by decide) ?_
  refine s_Cv (ln := 3) (kd := 24) (C := "WordWrightModel") (by decide) (by decide +kernel) rfl (l_V rfl ok207 rfl wd2084 wd2086 ws65 D201_16.1) (?_ : rSnd _ _ 19 _)
  exact s_Ri (Or.inl rfl) D201_19.1
theorem D202_0 : rDec M202 0 (.iconst 0) 1 1 := ⟨by decide +kernel, rfl⟩
theorem D202_1 : rDec M202 1 (.istore_n 3) 1 2 := ⟨by decide +kernel, rfl⟩
theorem D202_2 : rDec M202 2 (.iload_n 1) 1 3 := ⟨by decide +kernel, rfl⟩
theorem D202_3 : rDec M202 3 (.tableswitch 251 0 8 #[49, 59, 69, 114, 127, 221, 231, 236, 246]) 49 52 := ⟨by decide +kernel, rfl⟩
theorem D202_52 : rDec M202 52 (.aload_n 0) 1 53 := ⟨by decide +kernel, rfl⟩
theorem D202_53 : rDec M202 53 (.getfield 106) 3 56 := ⟨by decide +kernel, rfl⟩
theorem D202_56 : rDec M202 56 (.invokeinterface 148 1) 5 61 := ⟨by decide +kernel, rfl⟩
theorem D202_61 : rDec M202 61 (.ireturn) 1 62 := ⟨by decide +kernel, rfl⟩
theorem D202_62 : rDec M202 62 (.aload_n 0) 1 63 := ⟨by decide +kernel, rfl⟩
theorem D202_63 : rDec M202 63 (.getfield 110) 3 66 := ⟨by decide +kernel, rfl⟩
theorem D202_66 : rDec M202 66 (.invokeinterface 148 1) 5 71 := ⟨by decide +kernel, rfl⟩
theorem D202_71 : rDec M202 71 (.ireturn) 1 72 := ⟨by decide +kernel, rfl⟩
theorem D202_72 : rDec M202 72 (.iconst 0) 1 73 := ⟨by decide +kernel, rfl⟩
theorem D202_73 : rDec M202 73 (.istore 4) 2 75 := ⟨by decide +kernel, rfl⟩
theorem D202_75 : rDec M202 75 (.iload 4) 2 77 := ⟨by decide +kernel, rfl⟩
theorem D202_77 : rDec M202 77 (.aload_n 0) 1 78 := ⟨by decide +kernel, rfl⟩
theorem D202_78 : rDec M202 78 (.getfield 110) 3 81 := ⟨by decide +kernel, rfl⟩
theorem D202_81 : rDec M202 81 (.invokeinterface 148 1) 5 86 := ⟨by decide +kernel, rfl⟩
theorem D202_86 : rDec M202 86 (.if_icmp .ge 29) 3 89 := ⟨by decide +kernel, rfl⟩
theorem D202_115 : rDec M202 115 (.iload_n 3) 1 116 := ⟨by decide +kernel, rfl⟩
theorem D202_116 : rDec M202 116 (.ireturn) 1 117 := ⟨by decide +kernel, rfl⟩
theorem D202_117 : rDec M202 117 (.aload_n 0) 1 118 := ⟨by decide +kernel, rfl⟩
theorem D202_118 : rDec M202 118 (.getfield 116) 3 121 := ⟨by decide +kernel, rfl⟩
theorem D202_121 : rDec M202 121 (.getfield 304) 3 124 := ⟨by decide +kernel, rfl⟩
theorem D202_124 : rDec M202 124 (.invokeinterface 148 1) 5 129 := ⟨by decide +kernel, rfl⟩
theorem D202_129 : rDec M202 129 (.ireturn) 1 130 := ⟨by decide +kernel, rfl⟩
theorem D202_130 : rDec M202 130 (.iconst 0) 1 131 := ⟨by decide +kernel, rfl⟩
theorem D202_131 : rDec M202 131 (.istore 4) 2 133 := ⟨by decide +kernel, rfl⟩
theorem D202_133 : rDec M202 133 (.iload 4) 2 135 := ⟨by decide +kernel, rfl⟩
theorem D202_135 : rDec M202 135 (.aload_n 0) 1 136 := ⟨by decide +kernel, rfl⟩
theorem D202_136 : rDec M202 136 (.getfield 116) 3 139 := ⟨by decide +kernel, rfl⟩
theorem D202_139 : rDec M202 139 (.getfield 304) 3 142 := ⟨by decide +kernel, rfl⟩
theorem D202_142 : rDec M202 142 (.invokeinterface 148 1) 5 147 := ⟨by decide +kernel, rfl⟩
theorem D202_147 : rDec M202 147 (.if_icmp .ge 75) 3 150 := ⟨by decide +kernel, rfl⟩
theorem D202_222 : rDec M202 222 (.iload_n 3) 1 223 := ⟨by decide +kernel, rfl⟩
theorem D202_223 : rDec M202 223 (.ireturn) 1 224 := ⟨by decide +kernel, rfl⟩
theorem D202_224 : rDec M202 224 (.aload_n 0) 1 225 := ⟨by decide +kernel, rfl⟩
theorem D202_225 : rDec M202 225 (.getfield 120) 3 228 := ⟨by decide +kernel, rfl⟩
theorem D202_228 : rDec M202 228 (.invokeinterface 148 1) 5 233 := ⟨by decide +kernel, rfl⟩
theorem D202_233 : rDec M202 233 (.ireturn) 1 234 := ⟨by decide +kernel, rfl⟩
theorem D202_234 : rDec M202 234 (.aload_n 0) 1 235 := ⟨by decide +kernel, rfl⟩
theorem D202_235 : rDec M202 235 (.getfield 327) 3 238 := ⟨by decide +kernel, rfl⟩
theorem D202_238 : rDec M202 238 (.ireturn) 1 239 := ⟨by decide +kernel, rfl⟩
theorem D202_239 : rDec M202 239 (.aload_n 0) 1 240 := ⟨by decide +kernel, rfl⟩
theorem D202_240 : rDec M202 240 (.getfield 130) 3 243 := ⟨by decide +kernel, rfl⟩
theorem D202_243 : rDec M202 243 (.invokeinterface 148 1) 5 248 := ⟨by decide +kernel, rfl⟩
theorem D202_248 : rDec M202 248 (.ireturn) 1 249 := ⟨by decide +kernel, rfl⟩
theorem D202_249 : rDec M202 249 (.aload_n 2) 1 250 := ⟨by decide +kernel, rfl⟩
theorem D202_250 : rDec M202 250 (.getfield 393) 3 253 := ⟨by decide +kernel, rfl⟩
theorem D202_253 : rDec M202 253 (.ireturn) 1 254 := ⟨by decide +kernel, rfl⟩
theorem D202_254 : rDec M202 254 (.iconst 0) 1 255 := ⟨by decide +kernel, rfl⟩
theorem D202_255 : rDec M202 255 (.istore 4) 2 257 := ⟨by decide +kernel, rfl⟩
theorem D202_257 : rDec M202 257 (.iload 4) 2 259 := ⟨by decide +kernel, rfl⟩
theorem D202_259 : rDec M202 259 (.aload_n 0) 1 260 := ⟨by decide +kernel, rfl⟩
theorem D202_260 : rDec M202 260 (.getfield 130) 3 263 := ⟨by decide +kernel, rfl⟩
theorem D202_263 : rDec M202 263 (.invokeinterface 148 1) 5 268 := ⟨by decide +kernel, rfl⟩
theorem D202_268 : rDec M202 268 (.if_icmp .ge 27) 3 271 := ⟨by decide +kernel, rfl⟩
theorem D202_295 : rDec M202 295 (.iload_n 3) 1 296 := ⟨by decide +kernel, rfl⟩
theorem D202_296 : rDec M202 296 (.ireturn) 1 297 := ⟨by decide +kernel, rfl⟩
theorem P202_295 : rSnd lab M202 295 B202_295 := by
  refine s_Il gk3 (Or.inr ⟨3, D202_295, rfl⟩) ?_
  exact s_Ri (Or.inl rfl) D202_296.1
theorem P202_254 : rSnd lab M202 254 B202_254 := by
  refine s_ic D202_254 kc_i_0 (by decide) ?_
  refine s_Is sk4 (show 4 < 5 from by decide) (Or.inl D202_255) ?_
  refine s_Il gk4 (Or.inl D202_257) ?_
  refine s_Al gk0 (Or.inr ⟨0, D202_259, rfl⟩) ?_
  refine s_Gf (ci := 11) (r := ("WordWrightModel", kT11, 10)) rfl (show 9 < 10 from by decide) rfl (Or.inl wd2038) (Or.inl rfl) rfl D202_260 ?_
  refine s_Cv (ln := 5) (kd := 50) (C := "java/util/ArrayList") (by decide) (by decide +kernel) rfl (l_F (C := "java/util/ArrayList") (x := ({ cls := "java/util/List", name := "size", desc := "()I" } : Jvm.MethodName)) (ci := 24) (r := ("java/util/ArrayList", kT24, 3)) rfl rfl rfl ok15 rfl rfl (by decide) (List.mem_of_getElem? (i := 4) rfl) wd2073 wd2078 wd2076 D202_263.1) (?_ : rSnd _ _ 268 _)
  refine s_Ic c_ge (i_ge (tg := 295) (by decide)) D202_268.1 P202_295 (?_ : rSnd _ _ 271 _)
  exact rSnd_none
theorem P202_249 : rSnd lab M202 249 B202_249 := by
  refine s_Al gk2 (Or.inr ⟨2, D202_249, rfl⟩) ?_
  refine s_Gf (ci := 22) (r := ("WordWrightModel$Spans", kT22, 5)) rfl (show 2 < 5 from by decide) rfl (Or.inl wd2803) (Or.inl rfl) rfl D202_250 ?_
  exact s_Ri (Or.inl rfl) D202_253.1
theorem P202_239 : rSnd lab M202 239 B202_239 := by
  refine s_Al gk0 (Or.inr ⟨0, D202_239, rfl⟩) ?_
  refine s_Gf (ci := 11) (r := ("WordWrightModel", kT11, 10)) rfl (show 9 < 10 from by decide) rfl (Or.inl wd2038) (Or.inl rfl) rfl D202_240 ?_
  refine s_Cv (ln := 5) (kd := 50) (C := "java/util/ArrayList") (by decide) (by decide +kernel) rfl (l_F (C := "java/util/ArrayList") (x := ({ cls := "java/util/List", name := "size", desc := "()I" } : Jvm.MethodName)) (ci := 24) (r := ("java/util/ArrayList", kT24, 3)) rfl rfl rfl ok15 rfl rfl (by decide) (List.mem_of_getElem? (i := 4) rfl) wd2073 wd2078 wd2076 D202_243.1) (?_ : rSnd _ _ 248 _)
  exact s_Ri (Or.inl rfl) D202_248.1
theorem P202_234 : rSnd lab M202 234 B202_234 := by
  refine s_Al gk0 (Or.inr ⟨0, D202_234, rfl⟩) ?_
  refine s_Gf (ci := 11) (r := ("WordWrightModel", kT11, 10)) rfl (show 8 < 10 from by decide) rfl (Or.inl wd2036) (Or.inl rfl) rfl D202_235 ?_
  exact s_Ri (Or.inl rfl) D202_238.1
theorem P202_224 : rSnd lab M202 224 B202_224 := by
  refine s_Al gk0 (Or.inr ⟨0, D202_224, rfl⟩) ?_
  refine s_Gf (ci := 11) (r := ("WordWrightModel", kT11, 10)) rfl (show 5 < 10 from by decide) rfl (Or.inl wd2033) (Or.inl rfl) rfl D202_225 ?_
  refine s_Cv (ln := 5) (kd := 50) (C := "java/util/ArrayList") (by decide) (by decide +kernel) rfl (l_F (C := "java/util/ArrayList") (x := ({ cls := "java/util/List", name := "size", desc := "()I" } : Jvm.MethodName)) (ci := 24) (r := ("java/util/ArrayList", kT24, 3)) rfl rfl rfl ok15 rfl rfl (by decide) (List.mem_of_getElem? (i := 4) rfl) wd2073 wd2078 wd2076 D202_228.1) (?_ : rSnd _ _ 233 _)
  exact s_Ri (Or.inl rfl) D202_233.1
theorem P202_222 : rSnd lab M202 222 B202_222 := by
  refine s_Il gk3 (Or.inr ⟨3, D202_222, rfl⟩) ?_
  exact s_Ri (Or.inl rfl) D202_223.1
theorem P202_130 : rSnd lab M202 130 B202_130 := by
  refine s_ic D202_130 kc_i_0 (by decide) ?_
  refine s_Is sk4 (show 4 < 5 from by decide) (Or.inl D202_131) ?_
  refine s_Il gk4 (Or.inl D202_133) ?_
  refine s_Al gk0 (Or.inr ⟨0, D202_135, rfl⟩) ?_
  refine s_Gf (ci := 11) (r := ("WordWrightModel", kT11, 10)) rfl (show 4 < 10 from by decide) rfl (Or.inl wd2032) (Or.inl rfl) rfl D202_136 ?_
  refine s_Gf (ci := 20) (r := ("WordWrightModel$Equations", kT20, 6)) rfl (show 0 < 6 from by decide) rfl (Or.inl wd1927) (Or.inl rfl) rfl D202_139 ?_
  refine s_Cv (ln := 5) (kd := 50) (C := "java/util/ArrayList") (by decide) (by decide +kernel) rfl (l_F (C := "java/util/ArrayList") (x := ({ cls := "java/util/List", name := "size", desc := "()I" } : Jvm.MethodName)) (ci := 24) (r := ("java/util/ArrayList", kT24, 3)) rfl rfl rfl ok15 rfl rfl (by decide) (List.mem_of_getElem? (i := 4) rfl) wd2073 wd2078 wd2076 D202_142.1) (?_ : rSnd _ _ 147 _)
  refine s_Ic c_ge (i_ge (tg := 222) (by decide)) D202_147.1 P202_222 (?_ : rSnd _ _ 150 _)
  exact rSnd_none
theorem P202_117 : rSnd lab M202 117 B202_117 := by
  refine s_Al gk0 (Or.inr ⟨0, D202_117, rfl⟩) ?_
  refine s_Gf (ci := 11) (r := ("WordWrightModel", kT11, 10)) rfl (show 4 < 10 from by decide) rfl (Or.inl wd2032) (Or.inl rfl) rfl D202_118 ?_
  refine s_Gf (ci := 20) (r := ("WordWrightModel$Equations", kT20, 6)) rfl (show 0 < 6 from by decide) rfl (Or.inl wd1927) (Or.inl rfl) rfl D202_121 ?_
  refine s_Cv (ln := 5) (kd := 50) (C := "java/util/ArrayList") (by decide) (by decide +kernel) rfl (l_F (C := "java/util/ArrayList") (x := ({ cls := "java/util/List", name := "size", desc := "()I" } : Jvm.MethodName)) (ci := 24) (r := ("java/util/ArrayList", kT24, 3)) rfl rfl rfl ok15 rfl rfl (by decide) (List.mem_of_getElem? (i := 4) rfl) wd2073 wd2078 wd2076 D202_124.1) (?_ : rSnd _ _ 129 _)
  exact s_Ri (Or.inl rfl) D202_129.1
theorem P202_115 : rSnd lab M202 115 B202_115 := by
  refine s_Il gk3 (Or.inr ⟨3, D202_115, rfl⟩) ?_
  exact s_Ri (Or.inl rfl) D202_116.1
theorem P202_72 : rSnd lab M202 72 B202_72 := by
  refine s_ic D202_72 kc_i_0 (by decide) ?_
  refine s_Is sk4 (show 4 < 5 from by decide) (Or.inl D202_73) ?_
  refine s_Il gk4 (Or.inl D202_75) ?_
  refine s_Al gk0 (Or.inr ⟨0, D202_77, rfl⟩) ?_
  refine s_Gf (ci := 11) (r := ("WordWrightModel", kT11, 10)) rfl (show 3 < 10 from by decide) rfl (Or.inl wd2031) (Or.inl rfl) rfl D202_78 ?_
  refine s_Cv (ln := 5) (kd := 50) (C := "java/util/ArrayList") (by decide) (by decide +kernel) rfl (l_F (C := "java/util/ArrayList") (x := ({ cls := "java/util/List", name := "size", desc := "()I" } : Jvm.MethodName)) (ci := 24) (r := ("java/util/ArrayList", kT24, 3)) rfl rfl rfl ok15 rfl rfl (by decide) (List.mem_of_getElem? (i := 4) rfl) wd2073 wd2078 wd2076 D202_81.1) (?_ : rSnd _ _ 86 _)
  refine s_Ic c_ge (i_ge (tg := 115) (by decide)) D202_86.1 P202_115 (?_ : rSnd _ _ 89 _)
  exact rSnd_none
theorem P202_62 : rSnd lab M202 62 B202_62 := by
  refine s_Al gk0 (Or.inr ⟨0, D202_62, rfl⟩) ?_
  refine s_Gf (ci := 11) (r := ("WordWrightModel", kT11, 10)) rfl (show 3 < 10 from by decide) rfl (Or.inl wd2031) (Or.inl rfl) rfl D202_63 ?_
  refine s_Cv (ln := 5) (kd := 50) (C := "java/util/ArrayList") (by decide) (by decide +kernel) rfl (l_F (C := "java/util/ArrayList") (x := ({ cls := "java/util/List", name := "size", desc := "()I" } : Jvm.MethodName)) (ci := 24) (r := ("java/util/ArrayList", kT24, 3)) rfl rfl rfl ok15 rfl rfl (by decide) (List.mem_of_getElem? (i := 4) rfl) wd2073 wd2078 wd2076 D202_66.1) (?_ : rSnd _ _ 71 _)
  exact s_Ri (Or.inl rfl) D202_71.1
theorem P202_52 : rSnd lab M202 52 B202_52 := by
  refine s_Al gk0 (Or.inr ⟨0, D202_52, rfl⟩) ?_
  refine s_Gf (ci := 11) (r := ("WordWrightModel", kT11, 10)) rfl (show 2 < 10 from by decide) rfl (Or.inl wd2029) (Or.inl rfl) rfl D202_53 ?_
  refine s_Cv (ln := 5) (kd := 50) (C := "java/util/ArrayList") (by decide) (by decide +kernel) rfl (l_F (C := "java/util/ArrayList") (x := ({ cls := "java/util/List", name := "size", desc := "()I" } : Jvm.MethodName)) (ci := 24) (r := ("java/util/ArrayList", kT24, 3)) rfl rfl rfl ok15 rfl rfl (by decide) (List.mem_of_getElem? (i := 4) rfl) wd2073 wd2078 wd2076 D202_56.1) (?_ : rSnd _ _ 61 _)
  exact s_Ri (Or.inl rfl) D202_61.1
theorem P202_0 : rSnd lab M202 0 B202_0 := by
  refine s_Ent ?_
  refine s_ic D202_0 kc_i_0 (by decide) ?_
  refine s_Is sk3 (show 3 < 5 from by decide) (Or.inr ⟨3, D202_1, rfl⟩) ?_
  refine s_Il gk1 (Or.inr ⟨1, D202_2, rfl⟩) ?_
  exact s_Tsw (tgd := 254) D202_3.1 rfl (by decide) (by decide) ⟨⟨52, by decide, P202_52⟩, ⟨62, by decide, P202_62⟩, ⟨72, by decide, P202_72⟩, ⟨117, by decide, P202_117⟩, ⟨130, by decide, P202_130⟩, ⟨224, by decide, P202_224⟩, ⟨234, by decide, P202_234⟩, ⟨239, by decide, P202_239⟩, ⟨249, by decide, P202_249⟩, trivial⟩ (by decide) P202_254
theorem D203_0 : rDec M203 0 (.aload_n 0) 1 1 := ⟨by decide +kernel, rfl⟩
theorem D203_1 : rDec M203 1 (.iconst 0) 1 2 := ⟨by decide +kernel, rfl⟩
theorem D203_2 : rDec M203 2 (.putfield 145) 3 5 := ⟨by decide +kernel, rfl⟩
theorem D203_5 : rDec M203 5 (.iconst 0) 1 6 := ⟨by decide +kernel, rfl⟩
theorem D203_6 : rDec M203 6 (.istore_n 1) 1 7 := ⟨by decide +kernel, rfl⟩
theorem D203_7 : rDec M203 7 (.iconst 0) 1 8 := ⟨by decide +kernel, rfl⟩
theorem D203_8 : rDec M203 8 (.istore_n 2) 1 9 := ⟨by decide +kernel, rfl⟩
theorem D203_9 : rDec M203 9 (.iload_n 2) 1 10 := ⟨by decide +kernel, rfl⟩
theorem D203_10 : rDec M203 10 (.aload_n 0) 1 11 := ⟨by decide +kernel, rfl⟩
theorem D203_11 : rDec M203 11 (.getfield 106) 3 14 := ⟨by decide +kernel, rfl⟩
theorem D203_14 : rDec M203 14 (.invokeinterface 148 1) 5 19 := ⟨by decide +kernel, rfl⟩
theorem D203_19 : rDec M203 19 (.if_icmp .ge 28) 3 22 := ⟨by decide +kernel, rfl⟩
theorem D203_22 : rDec M203 22 (.iload_n 1) 1 23 := ⟨by decide +kernel, rfl⟩
theorem D203_23 : rDec M203 23 (.aload_n 0) 1 24 := ⟨by decide +kernel, rfl⟩
theorem D203_24 : rDec M203 24 (.getfield 106) 3 27 := ⟨by decide +kernel, rfl⟩
theorem D203_27 : rDec M203 27 (.iload_n 2) 1 28 := ⟨by decide +kernel, rfl⟩
theorem D203_28 : rDec M203 28 (.invokeinterface 155 2) 5 33 := ⟨by decide +kernel, rfl⟩
theorem D203_33 : rDec M203 33 (.checkcast 26) 3 36 := ⟨by decide +kernel, rfl⟩
theorem D203_36 : rDec M203 36 (.getfield 25) 3 39 := ⟨by decide +kernel, rfl⟩
theorem D203_39 : rDec M203 39 (.iadd) 1 40 := ⟨by decide +kernel, rfl⟩
theorem D203_40 : rDec M203 40 (.istore_n 1) 1 41 := ⟨by decide +kernel, rfl⟩
theorem D203_41 : rDec M203 41 (.iinc 2 1) 3 44 := ⟨by decide +kernel, rfl⟩
theorem D203_44 : rDec M203 44 (.goto (-35)) 3 47 := ⟨by decide +kernel, rfl⟩
theorem D203_47 : rDec M203 47 (.iload_n 1) 1 48 := ⟨by decide +kernel, rfl⟩
theorem D203_48 : rDec M203 48 (.i2d) 1 49 := ⟨by decide +kernel, rfl⟩
theorem D203_49 : rDec M203 49 (.aload_n 0) 1 50 := ⟨by decide +kernel, rfl⟩
theorem D203_50 : rDec M203 50 (.getfield 106) 3 53 := ⟨by decide +kernel, rfl⟩
theorem D203_53 : rDec M203 53 (.invokeinterface 148 1) 5 58 := ⟨by decide +kernel, rfl⟩
theorem D203_58 : rDec M203 58 (.i2d) 1 59 := ⟨by decide +kernel, rfl⟩
theorem D203_59 : rDec M203 59 (.ddiv) 1 60 := ⟨by decide +kernel, rfl⟩
theorem D203_60 : rDec M203 60 (.dreturn) 1 61 := ⟨by decide +kernel, rfl⟩
theorem P203_47 : rSnd lab M203 47 B203_47 := by
  refine s_Il gk1 (Or.inr ⟨1, D203_47, rfl⟩) ?_
  refine s_I2d D203_48 ?_
  refine s_Al gk0 (Or.inr ⟨0, D203_49, rfl⟩) ?_
  refine s_Gf (ci := 11) (r := ("WordWrightModel", kT11, 10)) rfl (show 2 < 10 from by decide) rfl (Or.inl wd2029) (Or.inl rfl) rfl D203_50 ?_
  refine s_Cv (ln := 5) (kd := 50) (C := "java/util/ArrayList") (by decide) (by decide +kernel) rfl (l_F (C := "java/util/ArrayList") (x := ({ cls := "java/util/List", name := "size", desc := "()I" } : Jvm.MethodName)) (ci := 24) (r := ("java/util/ArrayList", kT24, 3)) rfl rfl rfl ok15 rfl rfl (by decide) (List.mem_of_getElem? (i := 4) rfl) wd2073 wd2078 wd2076 D203_53.1) (?_ : rSnd _ _ 58 _)
  refine s_I2d D203_58 ?_
  refine s_Ddiv D203_59 ?_
  exact s_Rd rfl D203_60.1
theorem P203_9 : rSnd lab M203 9 B203_9 := by
  refine s_Il gk2 (Or.inr ⟨2, D203_9, rfl⟩) ?_
  refine s_Al gk0 (Or.inr ⟨0, D203_10, rfl⟩) ?_
  refine s_Gf (ci := 11) (r := ("WordWrightModel", kT11, 10)) rfl (show 2 < 10 from by decide) rfl (Or.inl wd2029) (Or.inl rfl) rfl D203_11 ?_
  refine s_Cv (ln := 5) (kd := 50) (C := "java/util/ArrayList") (by decide) (by decide +kernel) rfl (l_F (C := "java/util/ArrayList") (x := ({ cls := "java/util/List", name := "size", desc := "()I" } : Jvm.MethodName)) (ci := 24) (r := ("java/util/ArrayList", kT24, 3)) rfl rfl rfl ok15 rfl rfl (by decide) (List.mem_of_getElem? (i := 4) rfl) wd2073 wd2078 wd2076 D203_14.1) (?_ : rSnd _ _ 19 _)
  refine s_Ic c_ge (i_ge (tg := 47) (by decide)) D203_19.1 P203_47 (?_ : rSnd _ _ 22 _)
  refine s_Il gk1 (Or.inr ⟨1, D203_22, rfl⟩) ?_
  refine s_Al gk0 (Or.inr ⟨0, D203_23, rfl⟩) ?_
  refine s_Gf (ci := 11) (r := ("WordWrightModel", kT11, 10)) rfl (show 2 < 10 from by decide) rfl (Or.inl wd2029) (Or.inl rfl) rfl D203_24 ?_
  refine s_Il gk2 (Or.inr ⟨2, D203_27, rfl⟩) ?_
  refine s_Cv (ln := 5) (kd := 50) (C := "java/util/ArrayList") (by decide) (by decide +kernel) rfl (l_F (C := "java/util/ArrayList") (x := ({ cls := "java/util/List", name := "get", desc := "(I)Ljava/lang/Object;" } : Jvm.MethodName)) (ci := 24) (r := ("java/util/ArrayList", kT24, 3)) rfl rfl rfl ok10 rfl rfl (by decide) (List.mem_of_getElem? (i := 2) rfl) wd2093 wd2098 wd2096 D203_28.1) (?_ : rSnd _ _ 33 _)
  refine s_Cst (C := "WordWrightModel$Dfa") (cst_ok (kd := 40) (by decide) (by decide +kernel)) rfl wd2111 D203_33 ?_
  refine s_Gf (ci := 19) (r := ("WordWrightModel$Dfa", kT19, 3)) rfl (show 0 < 3 from by decide) rfl (Or.inl wd1818) (Or.inl rfl) rfl D203_36 ?_
  refine s_Bin q_iadd n_add rG2_x e_add D203_39 ?_
  refine s_Is sk1 (show 1 < 3 from by decide) (Or.inr ⟨1, D203_40, rfl⟩) ?_
  refine s_Inc gk2 sk2 (show 2 < 3 from by decide) kc_i_1 D203_41 ?_
  exact s_Go (pc' := 9) D203_44.1 (by decide) (s_Jb rfl)
theorem P203_0 : rSnd lab M203 0 B203_0 := by
  refine s_Ent ?_
  refine s_Al gk0 (Or.inr ⟨0, D203_0, rfl⟩) ?_
  refine s_ic D203_1 kc_i_0 (by decide) ?_
  refine s_Pf (ci := 11) (r := ("WordWrightModel", kT11, 10)) rfl (show 0 < 10 from by decide) rfl (Or.inl ⟨rfl, Or.inl wd2025⟩) (Or.inl rfl) rfl (by decide) D203_2 ?_
  refine s_ic D203_5 kc_i_0 (by decide) ?_
  refine s_Is sk1 (show 1 < 3 from by decide) (Or.inr ⟨1, D203_6, rfl⟩) ?_
  refine s_ic D203_7 kc_i_0 (by decide) ?_
  refine s_Is sk2 (show 2 < 3 from by decide) (Or.inr ⟨2, D203_8, rfl⟩) ?_
  exact P203_9
theorem D204_0 : rDec M204 0 (.iconst 0) 1 1 := ⟨by decide +kernel, rfl⟩
theorem D204_1 : rDec M204 1 (.istore_n 3) 1 2 := ⟨by decide +kernel, rfl⟩
theorem D204_2 : rDec M204 2 (.iconst 0) 1 3 := ⟨by decide +kernel, rfl⟩
theorem D204_3 : rDec M204 3 (.istore 4) 2 5 := ⟨by decide +kernel, rfl⟩
theorem D204_5 : rDec M204 5 (.iload 4) 2 7 := ⟨by decide +kernel, rfl⟩
theorem D204_7 : rDec M204 7 (.aload_n 0) 1 8 := ⟨by decide +kernel, rfl⟩
theorem D204_8 : rDec M204 8 (.getfield 25) 3 11 := ⟨by decide +kernel, rfl⟩
theorem D204_11 : rDec M204 11 (.if_icmp .ge 38) 3 14 := ⟨by decide +kernel, rfl⟩
theorem D204_14 : rDec M204 14 (.iload_n 3) 1 15 := ⟨by decide +kernel, rfl⟩
theorem D204_15 : rDec M204 15 (.lload_n 1) 1 16 := ⟨by decide +kernel, rfl⟩
theorem D204_16 : rDec M204 16 (.iload 4) 2 18 := ⟨by decide +kernel, rfl⟩
theorem D204_18 : rDec M204 18 (.lshr) 1 19 := ⟨by decide +kernel, rfl⟩
theorem D204_19 : rDec M204 19 (.lconst 1) 1 20 := ⟨by decide +kernel, rfl⟩
theorem D204_20 : rDec M204 20 (.land) 1 21 := ⟨by decide +kernel, rfl⟩
theorem D204_21 : rDec M204 21 (.lconst 1) 1 22 := ⟨by decide +kernel, rfl⟩
theorem D204_22 : rDec M204 22 (.lcmp) 1 23 := ⟨by decide +kernel, rfl⟩
theorem D204_23 : rDec M204 23 (.ifCond .ne 17) 3 26 := ⟨by decide +kernel, rfl⟩
theorem D204_26 : rDec M204 26 (.aload_n 0) 1 27 := ⟨by decide +kernel, rfl⟩
theorem D204_27 : rDec M204 27 (.getfield 35) 3 30 := ⟨by decide +kernel, rfl⟩
theorem D204_30 : rDec M204 30 (.iload 4) 2 32 := ⟨by decide +kernel, rfl⟩
theorem D204_32 : rDec M204 32 (.baload) 1 33 := ⟨by decide +kernel, rfl⟩
theorem D204_33 : rDec M204 33 (.ifCond .eq 7) 3 36 := ⟨by decide +kernel, rfl⟩
theorem D204_36 : rDec M204 36 (.iconst 1) 1 37 := ⟨by decide +kernel, rfl⟩
theorem D204_37 : rDec M204 37 (.goto 4) 3 40 := ⟨by decide +kernel, rfl⟩
theorem D204_40 : rDec M204 40 (.iconst 0) 1 41 := ⟨by decide +kernel, rfl⟩
theorem D204_41 : rDec M204 41 (.ior) 1 42 := ⟨by decide +kernel, rfl⟩
theorem D204_42 : rDec M204 42 (.istore_n 3) 1 43 := ⟨by decide +kernel, rfl⟩
theorem D204_43 : rDec M204 43 (.iinc 4 1) 3 46 := ⟨by decide +kernel, rfl⟩
theorem D204_46 : rDec M204 46 (.goto (-41)) 3 49 := ⟨by decide +kernel, rfl⟩
theorem D204_49 : rDec M204 49 (.iload_n 3) 1 50 := ⟨by decide +kernel, rfl⟩
theorem D204_50 : rDec M204 50 (.ireturn) 1 51 := ⟨by decide +kernel, rfl⟩
theorem P204_49 : rSnd lab M204 49 B204_49 := by
  refine s_Il gk3 (Or.inr ⟨3, D204_49, rfl⟩) ?_
  exact s_Ri (Or.inr ⟨rfl, by decide⟩) D204_50.1
theorem P204_41 : rSnd lab M204 41 B204_41 := by
  refine s_Bin q_ior n_or rG2_x rE2_x D204_41 ?_
  refine s_Is sk3 (show 3 < 5 from by decide) (Or.inr ⟨3, D204_42, rfl⟩) ?_
  refine s_Inc gk4 sk4 (show 4 < 5 from by decide) kc_i_1 D204_43 ?_
  exact s_Go (pc' := 5) D204_46.1 (by decide) (s_Jb rfl)
theorem P204_40 : rSnd lab M204 40 B204_40 := by
  refine s_ic D204_40 kc_i_0 (by decide) ?_
  exact P204_41
theorem P204_5 : rSnd lab M204 5 B204_5 := by
  refine s_Il gk4 (Or.inl D204_5) ?_
  refine s_Al gk0 (Or.inr ⟨0, D204_7, rfl⟩) ?_
  refine s_Gf (ci := 19) (r := ("WordWrightModel$Dfa", kT19, 3)) rfl (show 0 < 3 from by decide) rfl (Or.inl wd1818) (Or.inl rfl) rfl D204_8 ?_
  refine s_Ic c_ge (i_ge (tg := 49) (by decide)) D204_11.1 P204_49 (?_ : rSnd _ _ 14 _)
  refine s_Il gk3 (Or.inr ⟨3, D204_14, rfl⟩) ?_
  refine s_Ll gk1 (Or.inr ⟨1, D204_15, rfl⟩) ?_
  refine s_Il gk4 (Or.inl D204_16) ?_
  refine s_ShL q_lshr nl_shr D204_18 ?_
  refine s_lc D204_19 kc_L_1 (by decide) ?_
  refine s_BinL q_land nl_and D204_20 ?_
  refine s_lc D204_21 kc_L_1 (by decide) ?_
  refine s_Lcmp D204_22 ?_
  refine s_If c_ne (fun _ => rfl) (fun _ _ => rfl) (b_ne (tg := 40) (by decide)) D204_23.1 P204_40 (?_ : rSnd _ _ 26 _)
  refine s_Al gk0 (Or.inr ⟨0, D204_26, rfl⟩) ?_
  refine s_Gf (ci := 19) (r := ("WordWrightModel$Dfa", kT19, 3)) rfl (show 2 < 3 from by decide) rfl (Or.inl wd1827) (Or.inl rfl) rfl D204_27 ?_
  refine s_Il gk4 (Or.inl D204_30) ?_
  refine s_Ald (t := 1) (ty := .boolean) rfl q_zald rfl D204_32 ?_
  refine s_If c_eq (fun _ => rfl) (fun _ _ => rfl) (b_eq (tg := 40) (by decide)) D204_33.1 P204_40 (?_ : rSnd _ _ 36 _)
  refine s_ic D204_36 kc_i_1 (by decide) ?_
  exact s_Go (pc' := 41) D204_37.1 (by decide) P204_41
theorem P204_0 : rSnd lab M204 0 B204_0 := by
  refine s_Ent ?_
  refine s_ic D204_0 kc_i_0 (by decide) ?_
  refine s_Is sk3 (show 3 < 5 from by decide) (Or.inr ⟨3, D204_1, rfl⟩) ?_
  refine s_ic D204_2 kc_i_0 (by decide) ?_
  refine s_Is sk4 (show 4 < 5 from by decide) (Or.inl D204_3) ?_
  exact P204_5
theorem D205_0 : rDec M205 0 (.aload_n 0) 1 1 := ⟨by decide +kernel, rfl⟩
theorem D205_1 : rDec M205 1 (.iconst 0) 1 2 := ⟨by decide +kernel, rfl⟩
theorem D205_2 : rDec M205 2 (.putfield 145) 3 5 := ⟨by decide +kernel, rfl⟩
theorem D205_5 : rDec M205 5 (.iload_n 1) 1 6 := ⟨by decide +kernel, rfl⟩
theorem D205_6 : rDec M205 6 (.ifCond .lt 16) 3 9 := ⟨by decide +kernel, rfl⟩
theorem D205_9 : rDec M205 9 (.iload_n 1) 1 10 := ⟨by decide +kernel, rfl⟩
theorem D205_10 : rDec M205 10 (.aload_n 0) 1 11 := ⟨by decide +kernel, rfl⟩
theorem D205_11 : rDec M205 11 (.getfield 120) 3 14 := ⟨by decide +kernel, rfl⟩
theorem D205_14 : rDec M205 14 (.invokeinterface 148 1) 5 19 := ⟨by decide +kernel, rfl⟩
theorem D205_19 : rDec M205 19 (.if_icmp .lt 9) 3 22 := ⟨by decide +kernel, rfl⟩
theorem D205_22 : rDec M205 22 (.aload_n 0) 1 23 := ⟨by decide +kernel, rfl⟩
theorem D205_23 : rDec M205 23 (.iconst 1) 1 24 := ⟨by decide +kernel, rfl⟩
theorem D205_24 : rDec M205 24 (.invokevirtual 191) 3 27 := ⟨by decide +kernel, rfl⟩
theorem D205_27 : rDec M205 27 (.ireturn) 1 28 := ⟨by decide +kernel, rfl⟩
theorem P205_22 : rSnd lab M205 22 B205_22 := by
  refine s_Al gk0 (Or.inr ⟨0, D205_22, rfl⟩) ?_
  refine s_ic D205_23 kc_i_1 (by decide) ?_
  refine s_Cv (ln := 3) (kd := 24) (C := "WordWrightModel") (by decide) (by decide +kernel) rfl (l_V rfl ok207 rfl wd2084 wd2086 ws65 D205_24.1) (?_ : rSnd _ _ 27 _)
  exact s_Ri (Or.inl rfl) D205_27.1
theorem P205_0 : rSnd lab M205 0 B205_0 := by
  refine s_Ent ?_
  refine s_Al gk0 (Or.inr ⟨0, D205_0, rfl⟩) ?_
  refine s_ic D205_1 kc_i_0 (by decide) ?_
  refine s_Pf (ci := 11) (r := ("WordWrightModel", kT11, 10)) rfl (show 0 < 10 from by decide) rfl (Or.inl ⟨rfl, Or.inl wd2025⟩) (Or.inl rfl) rfl (by decide) D205_2 ?_
  refine s_Il gk1 (Or.inr ⟨1, D205_5, rfl⟩) ?_
  refine s_If c_lt (fun _ => rfl) (fun _ _ => rfl) (b_lt (tg := 22) (by decide)) D205_6.1 P205_22 (?_ : rSnd _ _ 9 _)
  refine s_Il gk1 (Or.inr ⟨1, D205_9, rfl⟩) ?_
  refine s_Al gk0 (Or.inr ⟨0, D205_10, rfl⟩) ?_
  refine s_Gf (ci := 11) (r := ("WordWrightModel", kT11, 10)) rfl (show 5 < 10 from by decide) rfl (Or.inl wd2033) (Or.inl rfl) rfl D205_11 ?_
  refine s_Cv (ln := 5) (kd := 50) (C := "java/util/ArrayList") (by decide) (by decide +kernel) rfl (l_F (C := "java/util/ArrayList") (x := ({ cls := "java/util/List", name := "size", desc := "()I" } : Jvm.MethodName)) (ci := 24) (r := ("java/util/ArrayList", kT24, 3)) rfl rfl rfl ok15 rfl rfl (by decide) (List.mem_of_getElem? (i := 4) rfl) wd2073 wd2078 wd2076 D205_14.1) (?_ : rSnd _ _ 19 _)
  refine s_Ic c_lt (i_lt (tg := 28) (by decide)) D205_19.1 rSnd_none (?_ : rSnd _ _ 22 _)
  exact P205_22
theorem D206_0 : rDec M206 0 (.aload_n 0) 1 1 := ⟨by decide +kernel, rfl⟩
theorem D206_1 : rDec M206 1 (.iconst 0) 1 2 := ⟨by decide +kernel, rfl⟩
theorem D206_2 : rDec M206 2 (.putfield 145) 3 5 := ⟨by decide +kernel, rfl⟩
theorem D206_5 : rDec M206 5 (.iload_n 1) 1 6 := ⟨by decide +kernel, rfl⟩
theorem D206_6 : rDec M206 6 (.ifCond .lt 16) 3 9 := ⟨by decide +kernel, rfl⟩
theorem D206_9 : rDec M206 9 (.iload_n 1) 1 10 := ⟨by decide +kernel, rfl⟩
theorem D206_10 : rDec M206 10 (.aload_n 0) 1 11 := ⟨by decide +kernel, rfl⟩
theorem D206_11 : rDec M206 11 (.getfield 106) 3 14 := ⟨by decide +kernel, rfl⟩
theorem D206_14 : rDec M206 14 (.invokeinterface 148 1) 5 19 := ⟨by decide +kernel, rfl⟩
theorem D206_19 : rDec M206 19 (.if_icmp .lt 9) 3 22 := ⟨by decide +kernel, rfl⟩
theorem D206_22 : rDec M206 22 (.aload_n 0) 1 23 := ⟨by decide +kernel, rfl⟩
theorem D206_23 : rDec M206 23 (.iconst 1) 1 24 := ⟨by decide +kernel, rfl⟩
theorem D206_24 : rDec M206 24 (.invokevirtual 191) 3 27 := ⟨by decide +kernel, rfl⟩
theorem D206_27 : rDec M206 27 (.ireturn) 1 28 := ⟨by decide +kernel, rfl⟩
theorem D206_28 : rDec M206 28 (.aload_n 0) 1 29 := ⟨by decide +kernel, rfl⟩
theorem D206_29 : rDec M206 29 (.getfield 106) 3 32 := ⟨by decide +kernel, rfl⟩
theorem D206_32 : rDec M206 32 (.iload_n 1) 1 33 := ⟨by decide +kernel, rfl⟩
theorem D206_33 : rDec M206 33 (.invokeinterface 155 2) 5 38 := ⟨by decide +kernel, rfl⟩
theorem D206_38 : rDec M206 38 (.checkcast 26) 3 41 := ⟨by decide +kernel, rfl⟩
theorem D206_41 : rDec M206 41 (.astore 4) 2 43 := ⟨by decide +kernel, rfl⟩
theorem D206_43 : rDec M206 43 (.iload_n 2) 1 44 := ⟨by decide +kernel, rfl⟩
theorem D206_44 : rDec M206 44 (.ifCond .lt 12) 3 47 := ⟨by decide +kernel, rfl⟩
theorem D206_47 : rDec M206 47 (.iload_n 2) 1 48 := ⟨by decide +kernel, rfl⟩
theorem D206_48 : rDec M206 48 (.aload 4) 2 50 := ⟨by decide +kernel, rfl⟩
theorem D206_50 : rDec M206 50 (.getfield 25) 3 53 := ⟨by decide +kernel, rfl⟩
theorem D206_53 : rDec M206 53 (.if_icmp .lt 9) 3 56 := ⟨by decide +kernel, rfl⟩
theorem D206_56 : rDec M206 56 (.aload_n 0) 1 57 := ⟨by decide +kernel, rfl⟩
theorem D206_57 : rDec M206 57 (.iconst 1) 1 58 := ⟨by decide +kernel, rfl⟩
theorem D206_58 : rDec M206 58 (.invokevirtual 191) 3 61 := ⟨by decide +kernel, rfl⟩
theorem D206_61 : rDec M206 61 (.ireturn) 1 62 := ⟨by decide +kernel, rfl⟩
theorem D206_62 : rDec M206 62 (.iload_n 3) 1 63 := ⟨by decide +kernel, rfl⟩
theorem D206_63 : rDec M206 63 (.ifCond .lt 8) 3 66 := ⟨by decide +kernel, rfl⟩
theorem D206_66 : rDec M206 66 (.iload_n 3) 1 67 := ⟨by decide +kernel, rfl⟩
theorem D206_67 : rDec M206 67 (.iconst 4) 1 68 := ⟨by decide +kernel, rfl⟩
theorem D206_68 : rDec M206 68 (.if_icmp .lt 9) 3 71 := ⟨by decide +kernel, rfl⟩
theorem D206_71 : rDec M206 71 (.aload_n 0) 1 72 := ⟨by decide +kernel, rfl⟩
theorem D206_72 : rDec M206 72 (.iconst 1) 1 73 := ⟨by decide +kernel, rfl⟩
theorem D206_73 : rDec M206 73 (.invokevirtual 191) 3 76 := ⟨by decide +kernel, rfl⟩
theorem D206_76 : rDec M206 76 (.ireturn) 1 77 := ⟨by decide +kernel, rfl⟩
theorem D206_77 : rDec M206 77 (.aload 4) 2 79 := ⟨by decide +kernel, rfl⟩
theorem D206_79 : rDec M206 79 (.iload_n 2) 1 80 := ⟨by decide +kernel, rfl⟩
theorem D206_80 : rDec M206 80 (.iload_n 3) 1 81 := ⟨by decide +kernel, rfl⟩
theorem D206_81 : rDec M206 81 (.invokevirtual 31) 3 84 := ⟨by decide +kernel, rfl⟩
theorem D206_84 : rDec M206 84 (.ireturn) 1 85 := ⟨by decide +kernel, rfl⟩
theorem P206_77 : rSnd lab M206 77 B206_77 := by
  refine s_Al gk4 (Or.inl D206_77) ?_
  refine s_Il gk2 (Or.inr ⟨2, D206_79, rfl⟩) ?_
  refine s_Il gk3 (Or.inr ⟨3, D206_80, rfl⟩) ?_
  refine s_Cv (ln := 3) (kd := 40) (C := "WordWrightModel$Dfa") (by decide) (by decide +kernel) rfl (l_V rfl ok147 rfl wd1768 wd1739 wd1740 D206_81.1) (?_ : rSnd _ _ 84 _)
  exact s_Ri (Or.inl rfl) D206_84.1
theorem P206_71 : rSnd lab M206 71 B206_71 := by
  refine s_Al gk0 (Or.inr ⟨0, D206_71, rfl⟩) ?_
  refine s_ic D206_72 kc_i_1 (by decide) ?_
  refine s_Cv (ln := 3) (kd := 24) (C := "WordWrightModel") (by decide) (by decide +kernel) rfl (l_V rfl ok207 rfl wd2084 wd2086 ws65 D206_73.1) (?_ : rSnd _ _ 76 _)
  exact s_Ri (Or.inl rfl) D206_76.1
theorem P206_62 : rSnd lab M206 62 B206_62 := by
  refine s_Il gk3 (Or.inr ⟨3, D206_62, rfl⟩) ?_
  refine s_If c_lt (fun _ => rfl) (fun _ _ => rfl) (b_lt (tg := 71) (by decide)) D206_63.1 P206_71 (?_ : rSnd _ _ 66 _)
  refine s_Il gk3 (Or.inr ⟨3, D206_66, rfl⟩) ?_
  refine s_ic D206_67 kc_i_4 (by decide) ?_
  refine s_Ic c_lt (i_lt (tg := 77) (by decide)) D206_68.1 P206_77 (?_ : rSnd _ _ 71 _)
  exact P206_71
theorem P206_56 : rSnd lab M206 56 B206_56 := by
  refine s_Al gk0 (Or.inr ⟨0, D206_56, rfl⟩) ?_
  refine s_ic D206_57 kc_i_1 (by decide) ?_
  refine s_Cv (ln := 3) (kd := 24) (C := "WordWrightModel") (by decide) (by decide +kernel) rfl (l_V rfl ok207 rfl wd2084 wd2086 ws65 D206_58.1) (?_ : rSnd _ _ 61 _)
  exact s_Ri (Or.inl rfl) D206_61.1
theorem P206_28 : rSnd lab M206 28 B206_28 := by
  refine s_Al gk0 (Or.inr ⟨0, D206_28, rfl⟩) ?_
  refine s_Gf (ci := 11) (r := ("WordWrightModel", kT11, 10)) rfl (show 2 < 10 from by decide) rfl (Or.inl wd2029) (Or.inl rfl) rfl D206_29 ?_
  refine s_Il gk1 (Or.inr ⟨1, D206_32, rfl⟩) ?_
  refine s_Cv (ln := 5) (kd := 50) (C := "java/util/ArrayList") (by decide) (by decide +kernel) rfl (l_F (C := "java/util/ArrayList") (x := ({ cls := "java/util/List", name := "get", desc := "(I)Ljava/lang/Object;" } : Jvm.MethodName)) (ci := 24) (r := ("java/util/ArrayList", kT24, 3)) rfl rfl rfl ok10 rfl rfl (by decide) (List.mem_of_getElem? (i := 2) rfl) wd2093 wd2098 wd2096 D206_33.1) (?_ : rSnd _ _ 38 _)
  refine s_Cst (C := "WordWrightModel$Dfa") (cst_ok (kd := 40) (by decide) (by decide +kernel)) rfl wd2111 D206_38 ?_
  refine s_As sk4 (show 4 < 5 from by decide) (Or.inl D206_41) ?_
  refine s_Il gk2 (Or.inr ⟨2, D206_43, rfl⟩) ?_
  refine s_If c_lt (fun _ => rfl) (fun _ _ => rfl) (b_lt (tg := 56) (by decide)) D206_44.1 P206_56 (?_ : rSnd _ _ 47 _)
  refine s_Il gk2 (Or.inr ⟨2, D206_47, rfl⟩) ?_
  refine s_Al gk4 (Or.inl D206_48) ?_
  refine s_Gf (ci := 19) (r := ("WordWrightModel$Dfa", kT19, 3)) rfl (show 0 < 3 from by decide) rfl (Or.inl wd1818) (Or.inl rfl) rfl D206_50 ?_
  refine s_Ic c_lt (i_lt (tg := 62) (by decide)) D206_53.1 P206_62 (?_ : rSnd _ _ 56 _)
  exact P206_56
theorem P206_22 : rSnd lab M206 22 B206_22 := by
  refine s_Al gk0 (Or.inr ⟨0, D206_22, rfl⟩) ?_
  refine s_ic D206_23 kc_i_1 (by decide) ?_
  refine s_Cv (ln := 3) (kd := 24) (C := "WordWrightModel") (by decide) (by decide +kernel) rfl (l_V rfl ok207 rfl wd2084 wd2086 ws65 D206_24.1) (?_ : rSnd _ _ 27 _)
  exact s_Ri (Or.inl rfl) D206_27.1
theorem P206_0 : rSnd lab M206 0 B206_0 := by
  refine s_Ent ?_
  refine s_Al gk0 (Or.inr ⟨0, D206_0, rfl⟩) ?_
  refine s_ic D206_1 kc_i_0 (by decide) ?_
  refine s_Pf (ci := 11) (r := ("WordWrightModel", kT11, 10)) rfl (show 0 < 10 from by decide) rfl (Or.inl ⟨rfl, Or.inl wd2025⟩) (Or.inl rfl) rfl (by decide) D206_2 ?_
  refine s_Il gk1 (Or.inr ⟨1, D206_5, rfl⟩) ?_
  refine s_If c_lt (fun _ => rfl) (fun _ _ => rfl) (b_lt (tg := 22) (by decide)) D206_6.1 P206_22 (?_ : rSnd _ _ 9 _)
  refine s_Il gk1 (Or.inr ⟨1, D206_9, rfl⟩) ?_
  refine s_Al gk0 (Or.inr ⟨0, D206_10, rfl⟩) ?_
  refine s_Gf (ci := 11) (r := ("WordWrightModel", kT11, 10)) rfl (show 2 < 10 from by decide) rfl (Or.inl wd2029) (Or.inl rfl) rfl D206_11 ?_
  refine s_Cv (ln := 5) (kd := 50) (C := "java/util/ArrayList") (by decide) (by decide +kernel) rfl (l_F (C := "java/util/ArrayList") (x := ({ cls := "java/util/List", name := "size", desc := "()I" } : Jvm.MethodName)) (ci := 24) (r := ("java/util/ArrayList", kT24, 3)) rfl rfl rfl ok15 rfl rfl (by decide) (List.mem_of_getElem? (i := 4) rfl) wd2073 wd2078 wd2076 D206_14.1) (?_ : rSnd _ _ 19 _)
  refine s_Ic c_lt (i_lt (tg := 28) (by decide)) D206_19.1 P206_28 (?_ : rSnd _ _ 22 _)
  exact P206_22
theorem D207_0 : rDec M207 0 (.aload_n 0) 1 1 := ⟨by decide +kernel, rfl⟩
theorem D207_1 : rDec M207 1 (.iload_n 1) 1 2 := ⟨by decide +kernel, rfl⟩
theorem D207_2 : rDec M207 2 (.putfield 145) 3 5 := ⟨by decide +kernel, rfl⟩
theorem D207_5 : rDec M207 5 (.iconst 0) 1 6 := ⟨by decide +kernel, rfl⟩
theorem D207_6 : rDec M207 6 (.ireturn) 1 7 := ⟨by decide +kernel, rfl⟩
theorem P207_0 : rSnd lab M207 0 B207_0 := by
  refine s_Ent ?_
  refine s_Al gk0 (Or.inr ⟨0, D207_0, rfl⟩) ?_
  refine s_Il gk1 (Or.inr ⟨1, D207_1, rfl⟩) ?_
  refine s_Pf (ci := 11) (r := ("WordWrightModel", kT11, 10)) rfl (show 0 < 10 from by decide) rfl (Or.inl ⟨rfl, Or.inl wd2025⟩) (Or.inl rfl) rfl (by decide) D207_2 ?_
  refine s_ic D207_5 kc_i_0 (by decide) ?_
  exact s_Ri (Or.inl rfl) D207_6.1
theorem D208_0 : rDec M208 0 (.aload_n 0) 1 1 := ⟨by decide +kernel, rfl⟩
theorem D208_1 : rDec M208 1 (.iconst 0) 1 2 := ⟨by decide +kernel, rfl⟩
theorem D208_2 : rDec M208 2 (.putfield 145) 3 5 := ⟨by decide +kernel, rfl⟩
theorem D208_5 : rDec M208 5 (.iload_n 1) 1 6 := ⟨by decide +kernel, rfl⟩
theorem D208_6 : rDec M208 6 (.iconst (-1)) 1 7 := ⟨by decide +kernel, rfl⟩
theorem D208_7 : rDec M208 7 (.if_icmp .eq 21) 3 10 := ⟨by decide +kernel, rfl⟩
theorem D208_10 : rDec M208 10 (.iload_n 1) 1 11 := ⟨by decide +kernel, rfl⟩
theorem D208_11 : rDec M208 11 (.ifCond .lt 11) 3 14 := ⟨by decide +kernel, rfl⟩
theorem D208_14 : rDec M208 14 (.iload_n 1) 1 15 := ⟨by decide +kernel, rfl⟩
theorem D208_15 : rDec M208 15 (.aload_n 0) 1 16 := ⟨by decide +kernel, rfl⟩
theorem D208_16 : rDec M208 16 (.getfield 327) 3 19 := ⟨by decide +kernel, rfl⟩
theorem D208_19 : rDec M208 19 (.if_icmp .lt 9) 3 22 := ⟨by decide +kernel, rfl⟩
theorem D208_22 : rDec M208 22 (.aload_n 0) 1 23 := ⟨by decide +kernel, rfl⟩
theorem D208_23 : rDec M208 23 (.iconst 1) 1 24 := ⟨by decide +kernel, rfl⟩
theorem D208_24 : rDec M208 24 (.invokevirtual 191) 3 27 := ⟨by decide +kernel, rfl⟩
theorem D208_27 : rDec M208 27 (.ireturn) 1 28 := ⟨by decide +kernel, rfl⟩
theorem D208_28 : rDec M208 28 (.iload_n 2) 1 29 := ⟨by decide +kernel, rfl⟩
theorem D208_29 : rDec M208 29 (.ifCond .lt 8) 3 32 := ⟨by decide +kernel, rfl⟩
theorem D208_32 : rDec M208 32 (.iload_n 2) 1 33 := ⟨by decide +kernel, rfl⟩
theorem D208_33 : rDec M208 33 (.iconst 4) 1 34 := ⟨by decide +kernel, rfl⟩
theorem D208_34 : rDec M208 34 (.if_icmp .lt 9) 3 37 := ⟨by decide +kernel, rfl⟩
theorem D208_37 : rDec M208 37 (.aload_n 0) 1 38 := ⟨by decide +kernel, rfl⟩
theorem D208_38 : rDec M208 38 (.iconst 1) 1 39 := ⟨by decide +kernel, rfl⟩
theorem D208_39 : rDec M208 39 (.invokevirtual 191) 3 42 := ⟨by decide +kernel, rfl⟩
theorem D208_42 : rDec M208 42 (.ireturn) 1 43 := ⟨by decide +kernel, rfl⟩
theorem D208_43 : rDec M208 43 (.iconst 0) 1 44 := ⟨by decide +kernel, rfl⟩
theorem D208_44 : rDec M208 44 (.istore_n 3) 1 45 := ⟨by decide +kernel, rfl⟩
theorem D208_45 : rDec M208 45 (.iconst 1) 1 46 := ⟨by decide +kernel, rfl⟩
theorem D208_46 : rDec M208 46 (.istore 4) 2 48 := ⟨by decide +kernel, rfl⟩
theorem D208_48 : rDec M208 48 (.iload 4) 2 50 := ⟨by decide +kernel, rfl⟩
theorem D208_50 : rDec M208 50 (.aload_n 0) 1 51 := ⟨by decide +kernel, rfl⟩
theorem D208_51 : rDec M208 51 (.getfield 327) 3 54 := ⟨by decide +kernel, rfl⟩
theorem D208_54 : rDec M208 54 (.if_icmp .ge 28) 3 57 := ⟨by decide +kernel, rfl⟩
theorem D208_82 : rDec M208 82 (.iload_n 1) 1 83 := ⟨by decide +kernel, rfl⟩
theorem D208_83 : rDec M208 83 (.iconst (-1)) 1 84 := ⟨by decide +kernel, rfl⟩
theorem D208_84 : rDec M208 84 (.if_icmp .eq 24) 3 87 := ⟨by decide +kernel, rfl⟩
theorem D208_108 : rDec M208 108 (.aload_n 0) 1 109 := ⟨by decide +kernel, rfl⟩
theorem D208_109 : rDec M208 109 (.iload_n 1) 1 110 := ⟨by decide +kernel, rfl⟩
theorem D208_110 : rDec M208 110 (.iconst (-1)) 1 111 := ⟨by decide +kernel, rfl⟩
theorem D208_111 : rDec M208 111 (.if_icmp .ne 7) 3 114 := ⟨by decide +kernel, rfl⟩
theorem D208_114 : rDec M208 114 (.iconst 0) 1 115 := ⟨by decide +kernel, rfl⟩
theorem D208_115 : rDec M208 115 (.goto 7) 3 118 := ⟨by decide +kernel, rfl⟩
theorem D208_122 : rDec M208 122 (.putfield 327) 3 125 := ⟨by decide +kernel, rfl⟩
theorem D208_125 : rDec M208 125 (.aload_n 0) 1 126 := ⟨by decide +kernel, rfl⟩
theorem D208_126 : rDec M208 126 (.getfield 127) 3 129 := ⟨by decide +kernel, rfl⟩
theorem D208_129 : rDec M208 129 (.aload_n 0) 1 130 := ⟨by decide +kernel, rfl⟩
theorem D208_130 : rDec M208 130 (.getfield 327) 3 133 := ⟨by decide +kernel, rfl⟩
theorem D208_133 : rDec M208 133 (.iload_n 1) 1 134 := ⟨by decide +kernel, rfl⟩
theorem D208_134 : rDec M208 134 (.iastore) 1 135 := ⟨by decide +kernel, rfl⟩
theorem D208_135 : rDec M208 135 (.aload_n 0) 1 136 := ⟨by decide +kernel, rfl⟩
theorem D208_136 : rDec M208 136 (.getfield 123) 3 139 := ⟨by decide +kernel, rfl⟩
theorem D208_139 : rDec M208 139 (.aload_n 0) 1 140 := ⟨by decide +kernel, rfl⟩
theorem D208_140 : rDec M208 140 (.getfield 327) 3 143 := ⟨by decide +kernel, rfl⟩
theorem D208_143 : rDec M208 143 (.iload_n 2) 1 144 := ⟨by decide +kernel, rfl⟩
theorem D208_144 : rDec M208 144 (.iastore) 1 145 := ⟨by decide +kernel, rfl⟩
theorem D208_145 : rDec M208 145 (.aload_n 0) 1 146 := ⟨by decide +kernel, rfl⟩
theorem D208_146 : rDec M208 146 (.dup) 1 147 := ⟨by decide +kernel, rfl⟩
theorem D208_147 : rDec M208 147 (.getfield 327) 3 150 := ⟨by decide +kernel, rfl⟩
theorem D208_150 : rDec M208 150 (.dup_x1) 1 151 := ⟨by decide +kernel, rfl⟩
theorem D208_151 : rDec M208 151 (.iconst 1) 1 152 := ⟨by decide +kernel, rfl⟩
theorem D208_152 : rDec M208 152 (.iadd) 1 153 := ⟨by decide +kernel, rfl⟩
theorem D208_153 : rDec M208 153 (.putfield 327) 3 156 := ⟨by decide +kernel, rfl⟩
theorem D208_156 : rDec M208 156 (.ireturn) 1 157 := ⟨by decide +kernel, rfl⟩
theorem P208_122 : rSnd lab M208 122 B208_122 := by
  refine s_Pf (ci := 11) (r := ("WordWrightModel", kT11, 10)) rfl (show 8 < 10 from by decide) rfl (Or.inl ⟨rfl, Or.inl wd2036⟩) (Or.inl rfl) rfl (by decide) D208_122 ?_
  refine s_Al gk0 (Or.inr ⟨0, D208_125, rfl⟩) ?_
  refine s_Gf (ci := 11) (r := ("WordWrightModel", kT11, 10)) rfl (show 7 < 10 from by decide) rfl (Or.inl wd2035) (Or.inl rfl) rfl D208_126 ?_
  refine s_Al gk0 (Or.inr ⟨0, D208_129, rfl⟩) ?_
  refine s_Gf (ci := 11) (r := ("WordWrightModel", kT11, 10)) rfl (show 8 < 10 from by decide) rfl (Or.inl wd2036) (Or.inl rfl) rfl D208_130 ?_
  refine s_Il gk1 (Or.inr ⟨1, D208_133, rfl⟩) ?_
  refine s_Ast (t := 0) rfl q_iast rfl (by decide) D208_134 ?_
  refine s_Al gk0 (Or.inr ⟨0, D208_135, rfl⟩) ?_
  refine s_Gf (ci := 11) (r := ("WordWrightModel", kT11, 10)) rfl (show 6 < 10 from by decide) rfl (Or.inl wd2034) (Or.inl rfl) rfl D208_136 ?_
  refine s_Al gk0 (Or.inr ⟨0, D208_139, rfl⟩) ?_
  refine s_Gf (ci := 11) (r := ("WordWrightModel", kT11, 10)) rfl (show 8 < 10 from by decide) rfl (Or.inl wd2036) (Or.inl rfl) rfl D208_140 ?_
  refine s_Il gk2 (Or.inr ⟨2, D208_143, rfl⟩) ?_
  refine s_Ast (t := 0) rfl q_iast rfl (by decide) D208_144 ?_
  refine s_Al gk0 (Or.inr ⟨0, D208_145, rfl⟩) ?_
  refine s_Dup D208_146 ?_
  refine s_Gf (ci := 11) (r := ("WordWrightModel", kT11, 10)) rfl (show 8 < 10 from by decide) rfl (Or.inl wd2036) (Or.inl rfl) rfl D208_147 ?_
  refine s_DupX D208_150 ?_
  refine s_ic D208_151 kc_i_1 (by decide) ?_
  refine s_Bin q_iadd n_add rG2_x e_add D208_152 ?_
  refine s_Pf (ci := 11) (r := ("WordWrightModel", kT11, 10)) rfl (show 8 < 10 from by decide) rfl (Or.inl ⟨rfl, Or.inl wd2036⟩) (Or.inl rfl) rfl (by decide) D208_153 ?_
  exact s_Ri (Or.inl rfl) D208_156.1
theorem P208_108 : rSnd lab M208 108 B208_108 := by
  refine s_Al gk0 (Or.inr ⟨0, D208_108, rfl⟩) ?_
  refine s_Il gk1 (Or.inr ⟨1, D208_109, rfl⟩) ?_
  refine s_ic D208_110 kc_i_m1 (by decide) ?_
  refine s_Ic c_ne (i_ne (tg := 118) (by decide)) D208_111.1 rSnd_none (?_ : rSnd _ _ 114 _)
  refine s_ic D208_114 kc_i_0 (by decide) ?_
  exact s_Go (pc' := 122) D208_115.1 (by decide) P208_122
theorem P208_82 : rSnd lab M208 82 B208_82 := by
  refine s_Il gk1 (Or.inr ⟨1, D208_82, rfl⟩) ?_
  refine s_ic D208_83 kc_i_m1 (by decide) ?_
  refine s_Ic c_eq (i_eq (tg := 108) (by decide)) D208_84.1 P208_108 (?_ : rSnd _ _ 87 _)
  exact rSnd_none
theorem P208_43 : rSnd lab M208 43 B208_43 := by
  refine s_ic D208_43 kc_i_0 (by decide) ?_
  refine s_Is sk3 (show 3 < 5 from by decide) (Or.inr ⟨3, D208_44, rfl⟩) ?_
  refine s_ic D208_45 kc_i_1 (by decide) ?_
  refine s_Is sk4 (show 4 < 5 from by decide) (Or.inl D208_46) ?_
  refine s_Il gk4 (Or.inl D208_48) ?_
  refine s_Al gk0 (Or.inr ⟨0, D208_50, rfl⟩) ?_
  refine s_Gf (ci := 11) (r := ("WordWrightModel", kT11, 10)) rfl (show 8 < 10 from by decide) rfl (Or.inl wd2036) (Or.inl rfl) rfl D208_51 ?_
  refine s_Ic c_ge (i_ge (tg := 82) (by decide)) D208_54.1 P208_82 (?_ : rSnd _ _ 57 _)
  exact rSnd_none
theorem P208_37 : rSnd lab M208 37 B208_37 := by
  refine s_Al gk0 (Or.inr ⟨0, D208_37, rfl⟩) ?_
  refine s_ic D208_38 kc_i_1 (by decide) ?_
  refine s_Cv (ln := 3) (kd := 24) (C := "WordWrightModel") (by decide) (by decide +kernel) rfl (l_V rfl ok207 rfl wd2084 wd2086 ws65 D208_39.1) (?_ : rSnd _ _ 42 _)
  exact s_Ri (Or.inl rfl) D208_42.1
theorem P208_28 : rSnd lab M208 28 B208_28 := by
  refine s_Il gk2 (Or.inr ⟨2, D208_28, rfl⟩) ?_
  refine s_If c_lt (fun _ => rfl) (fun _ _ => rfl) (b_lt (tg := 37) (by decide)) D208_29.1 P208_37 (?_ : rSnd _ _ 32 _)
  refine s_Il gk2 (Or.inr ⟨2, D208_32, rfl⟩) ?_
  refine s_ic D208_33 kc_i_4 (by decide) ?_
  refine s_Ic c_lt (i_lt (tg := 43) (by decide)) D208_34.1 P208_43 (?_ : rSnd _ _ 37 _)
  exact P208_37
theorem P208_22 : rSnd lab M208 22 B208_22 := by
  refine s_Al gk0 (Or.inr ⟨0, D208_22, rfl⟩) ?_
  refine s_ic D208_23 kc_i_1 (by decide) ?_
  refine s_Cv (ln := 3) (kd := 24) (C := "WordWrightModel") (by decide) (by decide +kernel) rfl (l_V rfl ok207 rfl wd2084 wd2086 ws65 D208_24.1) (?_ : rSnd _ _ 27 _)
  exact s_Ri (Or.inl rfl) D208_27.1
theorem P208_0 : rSnd lab M208 0 B208_0 := by
  refine s_Ent ?_
  refine s_Al gk0 (Or.inr ⟨0, D208_0, rfl⟩) ?_
  refine s_ic D208_1 kc_i_0 (by decide) ?_
  refine s_Pf (ci := 11) (r := ("WordWrightModel", kT11, 10)) rfl (show 0 < 10 from by decide) rfl (Or.inl ⟨rfl, Or.inl wd2025⟩) (Or.inl rfl) rfl (by decide) D208_2 ?_
  refine s_Il gk1 (Or.inr ⟨1, D208_5, rfl⟩) ?_
  refine s_ic D208_6 kc_i_m1 (by decide) ?_
  refine s_Ic c_eq (i_eq (tg := 28) (by decide)) D208_7.1 P208_28 (?_ : rSnd _ _ 10 _)
  refine s_Il gk1 (Or.inr ⟨1, D208_10, rfl⟩) ?_
  refine s_If c_lt (fun _ => rfl) (fun _ _ => rfl) (b_lt (tg := 22) (by decide)) D208_11.1 P208_22 (?_ : rSnd _ _ 14 _)
  refine s_Il gk1 (Or.inr ⟨1, D208_14, rfl⟩) ?_
  refine s_Al gk0 (Or.inr ⟨0, D208_15, rfl⟩) ?_
  refine s_Gf (ci := 11) (r := ("WordWrightModel", kT11, 10)) rfl (show 8 < 10 from by decide) rfl (Or.inl wd2036) (Or.inl rfl) rfl D208_16 ?_
  refine s_Ic c_lt (i_lt (tg := 28) (by decide)) D208_19.1 P208_28 (?_ : rSnd _ _ 22 _)
  exact P208_22
theorem D209_0 : rDec M209 0 (.aload_n 0) 1 1 := ⟨by decide +kernel, rfl⟩
theorem D209_1 : rDec M209 1 (.getfield 106) 3 4 := ⟨by decide +kernel, rfl⟩
theorem D209_4 : rDec M209 4 (.iconst 0) 1 5 := ⟨by decide +kernel, rfl⟩
theorem D209_5 : rDec M209 5 (.invokeinterface 155 2) 5 10 := ⟨by decide +kernel, rfl⟩
theorem D209_10 : rDec M209 10 (.checkcast 26) 3 13 := ⟨by decide +kernel, rfl⟩
theorem D209_13 : rDec M209 13 (.areturn) 1 14 := ⟨by decide +kernel, rfl⟩
theorem P209_0 : rSnd lab M209 0 B209_0 := by
  refine s_Ent ?_
  refine s_Al gk0 (Or.inr ⟨0, D209_0, rfl⟩) ?_
  refine s_Gf (ci := 11) (r := ("WordWrightModel", kT11, 10)) rfl (show 2 < 10 from by decide) rfl (Or.inl wd2029) (Or.inl rfl) rfl D209_1 ?_
  refine s_ic D209_4 kc_i_0 (by decide) ?_
  refine s_Cv (ln := 5) (kd := 50) (C := "java/util/ArrayList") (by decide) (by decide +kernel) rfl (l_F (C := "java/util/ArrayList") (x := ({ cls := "java/util/List", name := "get", desc := "(I)Ljava/lang/Object;" } : Jvm.MethodName)) (ci := 24) (r := ("java/util/ArrayList", kT24, 3)) rfl rfl rfl ok10 rfl rfl (by decide) (List.mem_of_getElem? (i := 2) rfl) wd2093 wd2098 wd2096 D209_5.1) (?_ : rSnd _ _ 10 _)
  refine s_Cst (C := "WordWrightModel$Dfa") (cst_ok (kd := 40) (by decide) (by decide +kernel)) rfl wd2111 D209_10 ?_
  exact s_Ra (Or.inl ⟨_, rfl⟩) D209_13.1
theorem D210_0 : rDec M210 0 (.aload_n 0) 1 1 := ⟨by decide +kernel, rfl⟩
theorem D210_1 : rDec M210 1 (.iconst 0) 1 2 := ⟨by decide +kernel, rfl⟩
theorem D210_2 : rDec M210 2 (.putfield 145) 3 5 := ⟨by decide +kernel, rfl⟩
theorem D210_5 : rDec M210 5 (.iload_n 1) 1 6 := ⟨by decide +kernel, rfl⟩
theorem D210_6 : rDec M210 6 (.ifCond .lt 16) 3 9 := ⟨by decide +kernel, rfl⟩
theorem D210_9 : rDec M210 9 (.iload_n 1) 1 10 := ⟨by decide +kernel, rfl⟩
theorem D210_10 : rDec M210 10 (.aload_n 0) 1 11 := ⟨by decide +kernel, rfl⟩
theorem D210_11 : rDec M210 11 (.getfield 106) 3 14 := ⟨by decide +kernel, rfl⟩
theorem D210_14 : rDec M210 14 (.invokeinterface 148 1) 5 19 := ⟨by decide +kernel, rfl⟩
theorem D210_19 : rDec M210 19 (.if_icmp .lt 9) 3 22 := ⟨by decide +kernel, rfl⟩
theorem D210_22 : rDec M210 22 (.aload_n 0) 1 23 := ⟨by decide +kernel, rfl⟩
theorem D210_23 : rDec M210 23 (.iconst 1) 1 24 := ⟨by decide +kernel, rfl⟩
theorem D210_24 : rDec M210 24 (.invokevirtual 191) 3 27 := ⟨by decide +kernel, rfl⟩
theorem D210_27 : rDec M210 27 (.ireturn) 1 28 := ⟨by decide +kernel, rfl⟩
theorem D210_28 : rDec M210 28 (.aload_n 0) 1 29 := ⟨by decide +kernel, rfl⟩
theorem D210_29 : rDec M210 29 (.getfield 106) 3 32 := ⟨by decide +kernel, rfl⟩
theorem D210_32 : rDec M210 32 (.iload_n 1) 1 33 := ⟨by decide +kernel, rfl⟩
theorem D210_33 : rDec M210 33 (.invokeinterface 155 2) 5 38 := ⟨by decide +kernel, rfl⟩
theorem D210_38 : rDec M210 38 (.checkcast 26) 3 41 := ⟨by decide +kernel, rfl⟩
theorem D210_41 : rDec M210 41 (.astore_n 3) 1 42 := ⟨by decide +kernel, rfl⟩
theorem D210_42 : rDec M210 42 (.iload_n 2) 1 43 := ⟨by decide +kernel, rfl⟩
theorem D210_43 : rDec M210 43 (.bipush 6) 2 45 := ⟨by decide +kernel, rfl⟩
theorem D210_45 : rDec M210 45 (.invokestatic 151) 3 48 := ⟨by decide +kernel, rfl⟩
theorem D210_48 : rDec M210 48 (.ifCond .ne 9) 3 51 := ⟨by decide +kernel, rfl⟩
theorem D210_51 : rDec M210 51 (.aload_n 0) 1 52 := ⟨by decide +kernel, rfl⟩
theorem D210_52 : rDec M210 52 (.iconst 2) 1 53 := ⟨by decide +kernel, rfl⟩
theorem D210_53 : rDec M210 53 (.invokevirtual 191) 3 56 := ⟨by decide +kernel, rfl⟩
theorem D210_56 : rDec M210 56 (.ireturn) 1 57 := ⟨by decide +kernel, rfl⟩
theorem D210_57 : rDec M210 57 (.aload_n 0) 1 58 := ⟨by decide +kernel, rfl⟩
theorem D210_58 : rDec M210 58 (.aload_n 3) 1 59 := ⟨by decide +kernel, rfl⟩
theorem D210_59 : rDec M210 59 (.iload_n 2) 1 60 := ⟨by decide +kernel, rfl⟩
theorem D210_60 : rDec M210 60 (.invokevirtual 231) 3 63 := ⟨by decide +kernel, rfl⟩
theorem D210_63 : rDec M210 63 (.ireturn) 1 64 := ⟨by decide +kernel, rfl⟩
theorem P210_57 : rSnd lab M210 57 B210_57 := by
  refine s_Al gk0 (Or.inr ⟨0, D210_57, rfl⟩) ?_
  refine s_Al gk3 (Or.inr ⟨3, D210_58, rfl⟩) ?_
  refine s_Il gk2 (Or.inr ⟨2, D210_59, rfl⟩) ?_
  refine s_Cv (ln := 3) (kd := 24) (C := "WordWrightModel") (by decide) (by decide +kernel) rfl (l_V rfl ok191 rfl wd2254 wd2256 ws67 D210_60.1) (?_ : rSnd _ _ 63 _)
  exact s_Ri (Or.inl rfl) D210_63.1
theorem P210_28 : rSnd lab M210 28 B210_28 := by
  refine s_Al gk0 (Or.inr ⟨0, D210_28, rfl⟩) ?_
  refine s_Gf (ci := 11) (r := ("WordWrightModel", kT11, 10)) rfl (show 2 < 10 from by decide) rfl (Or.inl wd2029) (Or.inl rfl) rfl D210_29 ?_
  refine s_Il gk1 (Or.inr ⟨1, D210_32, rfl⟩) ?_
  refine s_Cv (ln := 5) (kd := 50) (C := "java/util/ArrayList") (by decide) (by decide +kernel) rfl (l_F (C := "java/util/ArrayList") (x := ({ cls := "java/util/List", name := "get", desc := "(I)Ljava/lang/Object;" } : Jvm.MethodName)) (ci := 24) (r := ("java/util/ArrayList", kT24, 3)) rfl rfl rfl ok10 rfl rfl (by decide) (List.mem_of_getElem? (i := 2) rfl) wd2093 wd2098 wd2096 D210_33.1) (?_ : rSnd _ _ 38 _)
  refine s_Cst (C := "WordWrightModel$Dfa") (cst_ok (kd := 40) (by decide) (by decide +kernel)) rfl wd2111 D210_38 ?_
  refine s_As sk3 (show 3 < 4 from by decide) (Or.inr ⟨3, D210_41, rfl⟩) ?_
  refine s_Il gk2 (Or.inr ⟨2, D210_42, rfl⟩) ?_
  refine s_bi D210_43 kc_b_6 (by decide) ?_
  refine s_Cs (id := 250) rfl (l_S rfl ok185 rfl wd2081 wd2082 D210_45.1) (?_ : rSnd _ _ 48 _)
  refine s_If c_ne (fun _ => rfl) (fun _ _ => rfl) (b_ne (tg := 57) (by decide)) D210_48.1 P210_57 (?_ : rSnd _ _ 51 _)
  refine s_Al gk0 (Or.inr ⟨0, D210_51, rfl⟩) ?_
  refine s_ic D210_52 kc_i_2 (by decide) ?_
  refine s_Cv (ln := 3) (kd := 24) (C := "WordWrightModel") (by decide) (by decide +kernel) rfl (l_V rfl ok207 rfl wd2084 wd2086 ws65 D210_53.1) (?_ : rSnd _ _ 56 _)
  exact s_Ri (Or.inl rfl) D210_56.1
theorem P210_22 : rSnd lab M210 22 B210_22 := by
  refine s_Al gk0 (Or.inr ⟨0, D210_22, rfl⟩) ?_
  refine s_ic D210_23 kc_i_1 (by decide) ?_
  refine s_Cv (ln := 3) (kd := 24) (C := "WordWrightModel") (by decide) (by decide +kernel) rfl (l_V rfl ok207 rfl wd2084 wd2086 ws65 D210_24.1) (?_ : rSnd _ _ 27 _)
  exact s_Ri (Or.inl rfl) D210_27.1
theorem P210_0 : rSnd lab M210 0 B210_0 := by
  refine s_Ent ?_
  refine s_Al gk0 (Or.inr ⟨0, D210_0, rfl⟩) ?_
  refine s_ic D210_1 kc_i_0 (by decide) ?_
  refine s_Pf (ci := 11) (r := ("WordWrightModel", kT11, 10)) rfl (show 0 < 10 from by decide) rfl (Or.inl ⟨rfl, Or.inl wd2025⟩) (Or.inl rfl) rfl (by decide) D210_2 ?_
  refine s_Il gk1 (Or.inr ⟨1, D210_5, rfl⟩) ?_
  refine s_If c_lt (fun _ => rfl) (fun _ _ => rfl) (b_lt (tg := 22) (by decide)) D210_6.1 P210_22 (?_ : rSnd _ _ 9 _)
  refine s_Il gk1 (Or.inr ⟨1, D210_9, rfl⟩) ?_
  refine s_Al gk0 (Or.inr ⟨0, D210_10, rfl⟩) ?_
  refine s_Gf (ci := 11) (r := ("WordWrightModel", kT11, 10)) rfl (show 2 < 10 from by decide) rfl (Or.inl wd2029) (Or.inl rfl) rfl D210_11 ?_
  refine s_Cv (ln := 5) (kd := 50) (C := "java/util/ArrayList") (by decide) (by decide +kernel) rfl (l_F (C := "java/util/ArrayList") (x := ({ cls := "java/util/List", name := "size", desc := "()I" } : Jvm.MethodName)) (ci := 24) (r := ("java/util/ArrayList", kT24, 3)) rfl rfl rfl ok15 rfl rfl (by decide) (List.mem_of_getElem? (i := 4) rfl) wd2073 wd2078 wd2076 D210_14.1) (?_ : rSnd _ _ 19 _)
  refine s_Ic c_lt (i_lt (tg := 28) (by decide)) D210_19.1 P210_28 (?_ : rSnd _ _ 22 _)
  exact P210_22
theorem D211_0 : rDec M211 0 (.iload_n 0) 1 1 := ⟨by decide +kernel, rfl⟩
theorem D211_1 : rDec M211 1 (.newarray .boolean) 2 3 := ⟨by decide +kernel, rfl⟩
theorem D211_3 : rDec M211 3 (.astore_n 2) 1 4 := ⟨by decide +kernel, rfl⟩
theorem D211_4 : rDec M211 4 (.aload_n 2) 1 5 := ⟨by decide +kernel, rfl⟩
theorem D211_5 : rDec M211 5 (.iload_n 1) 1 6 := ⟨by decide +kernel, rfl⟩
theorem D211_6 : rDec M211 6 (.iconst 1) 1 7 := ⟨by decide +kernel, rfl⟩
theorem D211_7 : rDec M211 7 (.bastore) 1 8 := ⟨by decide +kernel, rfl⟩
theorem D211_8 : rDec M211 8 (.aload_n 2) 1 9 := ⟨by decide +kernel, rfl⟩
theorem D211_9 : rDec M211 9 (.areturn) 1 10 := ⟨by decide +kernel, rfl⟩
theorem P211_0 : rSnd lab M211 0 B211_0 := by
  refine s_Ent ?_
  refine s_Il gk0 (Or.inr ⟨0, D211_0, rfl⟩) ?_
  refine s_Nwa (t := 1) rfl (q_newa (at_ := .boolean) (Or.inr (Or.inr rfl))) (fun ht _ => ht _ wd147) D211_1 ?_
  refine s_As sk2 (show 2 < 3 from by decide) (Or.inr ⟨2, D211_3, rfl⟩) ?_
  refine s_Al gk2 (Or.inr ⟨2, D211_4, rfl⟩) ?_
  refine s_Il gk1 (Or.inr ⟨1, D211_5, rfl⟩) ?_
  refine s_ic D211_6 kc_i_1 (by decide) ?_
  refine s_Ast (t := 1) rfl q_zast rfl (by decide) D211_7 ?_
  refine s_Al gk2 (Or.inr ⟨2, D211_8, rfl⟩) ?_
  exact s_Ra (Or.inr ⟨_, rfl⟩) D211_9.1
theorem D212_0 : rDec M212 0 (.new 13) 3 3 := ⟨by decide +kernel, rfl⟩
theorem D212_3 : rDec M212 3 (.dup) 1 4 := ⟨by decide +kernel, rfl⟩
theorem D212_4 : rDec M212 4 (.aload_n 1) 1 5 := ⟨by decide +kernel, rfl⟩
theorem D212_5 : rDec M212 5 (.aload_n 2) 1 6 := ⟨by decide +kernel, rfl⟩
theorem D212_6 : rDec M212 6 (.iload_n 0) 1 7 := ⟨by decide +kernel, rfl⟩
theorem D212_7 : rDec M212 7 (.invokespecial 15) 3 10 := ⟨by decide +kernel, rfl⟩
theorem D212_10 : rDec M212 10 (.invokevirtual 18) 3 13 := ⟨by decide +kernel, rfl⟩
theorem D212_13 : rDec M212 13 (.areturn) 1 14 := ⟨by decide +kernel, rfl⟩
theorem P212_0 : rSnd lab M212 0 B212_0 := by
  refine s_Ent ?_
  refine s_New (ci := 13) (r := ("WordWrightModel$2", kT13, 3)) rfl rfl wd2133 wd2134 wd32 kr13 D212_0 ?_
  refine s_Dup D212_3 ?_
  refine s_Al gk1 (Or.inr ⟨1, D212_4, rfl⟩) ?_
  refine s_Al gk2 (Or.inr ⟨2, D212_5, rfl⟩) ?_
  refine s_Il gk0 (Or.inr ⟨0, D212_6, rfl⟩) ?_
  refine s_Ci (id := 140) rfl (l_I rfl ok119 rfl rfl rfl wd2135 wd2136 D212_7.1) (?_ : rSnd _ _ 10 _)
  refine s_Cv (ln := 3) (kd := 28) (C := "WordWrightModel$2") (by decide) (by decide +kernel) rfl (l_U (C := "WordWrightModel$2") (owner := "WordWrightModel$Walk") (x := ({ cls := "WordWrightModel$2", name := "smallest", desc := "()LWordWrightModel$Dfa;" } : Jvm.MethodName)) rfl ok169 rfl rfl wd2149 wd2150 wd1695 wd2151 D212_10.1) (?_ : rSnd _ _ 13 _)
  exact s_Ra (Or.inl ⟨_, rfl⟩) D212_13.1
theorem D213_0 : rDec M213 0 (.aload_n 0) 1 1 := ⟨by decide +kernel, rfl⟩
theorem D213_1 : rDec M213 1 (.iconst 0) 1 2 := ⟨by decide +kernel, rfl⟩
theorem D213_2 : rDec M213 2 (.putfield 145) 3 5 := ⟨by decide +kernel, rfl⟩
theorem D213_5 : rDec M213 5 (.aload_n 0) 1 6 := ⟨by decide +kernel, rfl⟩
theorem D213_6 : rDec M213 6 (.getfield 120) 3 9 := ⟨by decide +kernel, rfl⟩
theorem D213_9 : rDec M213 9 (.invokeinterface 148 1) 5 14 := ⟨by decide +kernel, rfl⟩
theorem D213_14 : rDec M213 14 (.iconst 4) 1 15 := ⟨by decide +kernel, rfl⟩
theorem D213_15 : rDec M213 15 (.if_icmp .lt 9) 3 18 := ⟨by decide +kernel, rfl⟩
theorem D213_24 : rDec M213 24 (.iconst 4) 1 25 := ⟨by decide +kernel, rfl⟩
theorem D213_25 : rDec M213 25 (.anewarray 26) 3 28 := ⟨by decide +kernel, rfl⟩
theorem D213_28 : rDec M213 28 (.dup) 1 29 := ⟨by decide +kernel, rfl⟩
theorem D213_29 : rDec M213 29 (.iconst 0) 1 30 := ⟨by decide +kernel, rfl⟩
theorem D213_30 : rDec M213 30 (.aload_n 0) 1 31 := ⟨by decide +kernel, rfl⟩
theorem D213_31 : rDec M213 31 (.invokevirtual 203) 3 34 := ⟨by decide +kernel, rfl⟩
theorem D213_34 : rDec M213 34 (.aastore) 1 35 := ⟨by decide +kernel, rfl⟩
theorem D213_35 : rDec M213 35 (.dup) 1 36 := ⟨by decide +kernel, rfl⟩
theorem D213_36 : rDec M213 36 (.iconst 1) 1 37 := ⟨by decide +kernel, rfl⟩
theorem D213_37 : rDec M213 37 (.aload_n 0) 1 38 := ⟨by decide +kernel, rfl⟩
theorem D213_38 : rDec M213 38 (.invokevirtual 203) 3 41 := ⟨by decide +kernel, rfl⟩
theorem D213_41 : rDec M213 41 (.aastore) 1 42 := ⟨by decide +kernel, rfl⟩
theorem D213_42 : rDec M213 42 (.dup) 1 43 := ⟨by decide +kernel, rfl⟩
theorem D213_43 : rDec M213 43 (.iconst 2) 1 44 := ⟨by decide +kernel, rfl⟩
theorem D213_44 : rDec M213 44 (.aload_n 0) 1 45 := ⟨by decide +kernel, rfl⟩
theorem D213_45 : rDec M213 45 (.invokevirtual 203) 3 48 := ⟨by decide +kernel, rfl⟩
theorem D213_48 : rDec M213 48 (.aastore) 1 49 := ⟨by decide +kernel, rfl⟩
theorem D213_49 : rDec M213 49 (.dup) 1 50 := ⟨by decide +kernel, rfl⟩
theorem D213_50 : rDec M213 50 (.iconst 3) 1 51 := ⟨by decide +kernel, rfl⟩
theorem D213_51 : rDec M213 51 (.aload_n 0) 1 52 := ⟨by decide +kernel, rfl⟩
theorem D213_52 : rDec M213 52 (.invokevirtual 203) 3 55 := ⟨by decide +kernel, rfl⟩
theorem D213_55 : rDec M213 55 (.aastore) 1 56 := ⟨by decide +kernel, rfl⟩
theorem D213_56 : rDec M213 56 (.astore_n 1) 1 57 := ⟨by decide +kernel, rfl⟩
theorem D213_57 : rDec M213 57 (.aload_n 0) 1 58 := ⟨by decide +kernel, rfl⟩
theorem D213_58 : rDec M213 58 (.getfield 120) 3 61 := ⟨by decide +kernel, rfl⟩
theorem D213_61 : rDec M213 61 (.aload_n 1) 1 62 := ⟨by decide +kernel, rfl⟩
theorem D213_62 : rDec M213 62 (.invokeinterface 133 2) 5 67 := ⟨by decide +kernel, rfl⟩
theorem D213_67 : rDec M213 67 (.pop) 1 68 := ⟨by decide +kernel, rfl⟩
theorem D213_68 : rDec M213 68 (.aload_n 0) 1 69 := ⟨by decide +kernel, rfl⟩
theorem D213_69 : rDec M213 69 (.getfield 120) 3 72 := ⟨by decide +kernel, rfl⟩
theorem D213_72 : rDec M213 72 (.invokeinterface 148 1) 5 77 := ⟨by decide +kernel, rfl⟩
theorem D213_77 : rDec M213 77 (.iconst 1) 1 78 := ⟨by decide +kernel, rfl⟩
theorem D213_78 : rDec M213 78 (.isub) 1 79 := ⟨by decide +kernel, rfl⟩
theorem D213_79 : rDec M213 79 (.ireturn) 1 80 := ⟨by decide +kernel, rfl⟩
theorem P213_24 : rSnd lab M213 24 B213_24 := by
  refine s_ic D213_24 kc_i_4 (by decide) ?_
  refine s_Nwa (t := 4) rfl (q_anew rfl) (fun ht hk => ⟨ht _ wd2111, hk.ng 52 rfl⟩) D213_25 ?_
  refine s_Dup D213_28 ?_
  refine s_ic D213_29 kc_i_0 (by decide) ?_
  refine s_Al gk0 (Or.inr ⟨0, D213_30, rfl⟩) ?_
  refine s_Cv (ln := 3) (kd := 24) (C := "WordWrightModel") (by decide) (by decide +kernel) rfl (l_V rfl ok209 rfl wd2262 wd2264 ws69 D213_31.1) (?_ : rSnd _ _ 34 _)
  refine s_Aas okAs_ok D213_34 ?_
  refine s_Dup D213_35 ?_
  refine s_ic D213_36 kc_i_1 (by decide) ?_
  refine s_Al gk0 (Or.inr ⟨0, D213_37, rfl⟩) ?_
  refine s_Cv (ln := 3) (kd := 24) (C := "WordWrightModel") (by decide) (by decide +kernel) rfl (l_V rfl ok209 rfl wd2262 wd2264 ws69 D213_38.1) (?_ : rSnd _ _ 41 _)
  refine s_Aas okAs_ok D213_41 ?_
  refine s_Dup D213_42 ?_
  refine s_ic D213_43 kc_i_2 (by decide) ?_
  refine s_Al gk0 (Or.inr ⟨0, D213_44, rfl⟩) ?_
  refine s_Cv (ln := 3) (kd := 24) (C := "WordWrightModel") (by decide) (by decide +kernel) rfl (l_V rfl ok209 rfl wd2262 wd2264 ws69 D213_45.1) (?_ : rSnd _ _ 48 _)
  refine s_Aas okAs_ok D213_48 ?_
  refine s_Dup D213_49 ?_
  refine s_ic D213_50 kc_i_3 (by decide) ?_
  refine s_Al gk0 (Or.inr ⟨0, D213_51, rfl⟩) ?_
  refine s_Cv (ln := 3) (kd := 24) (C := "WordWrightModel") (by decide) (by decide +kernel) rfl (l_V rfl ok209 rfl wd2262 wd2264 ws69 D213_52.1) (?_ : rSnd _ _ 55 _)
  refine s_Aas okAs_ok D213_55 ?_
  refine s_As sk1 (show 1 < 2 from by decide) (Or.inr ⟨1, D213_56, rfl⟩) ?_
  refine s_Al gk0 (Or.inr ⟨0, D213_57, rfl⟩) ?_
  refine s_Gf (ci := 11) (r := ("WordWrightModel", kT11, 10)) rfl (show 5 < 10 from by decide) rfl (Or.inl wd2033) (Or.inl rfl) rfl D213_58 ?_
  refine s_Al gk1 (Or.inr ⟨1, D213_61, rfl⟩) ?_
  refine s_Cv (ln := 5) (kd := 50) (C := "java/util/ArrayList") (by decide) (by decide +kernel) rfl (l_F (C := "java/util/ArrayList") (x := ({ cls := "java/util/List", name := "add", desc := "(Ljava/lang/Object;)Z" } : Jvm.MethodName)) (ci := 24) (r := ("java/util/ArrayList", kT24, 3)) rfl rfl rfl ok7 rfl rfl (by decide) (List.mem_of_getElem? (i := 0) rfl) wd1951 wd1957 wd1955 D213_62.1) (?_ : rSnd _ _ 67 _)
  refine s_Pop D213_67 ?_
  refine s_Al gk0 (Or.inr ⟨0, D213_68, rfl⟩) ?_
  refine s_Gf (ci := 11) (r := ("WordWrightModel", kT11, 10)) rfl (show 5 < 10 from by decide) rfl (Or.inl wd2033) (Or.inl rfl) rfl D213_69 ?_
  refine s_Cv (ln := 5) (kd := 50) (C := "java/util/ArrayList") (by decide) (by decide +kernel) rfl (l_F (C := "java/util/ArrayList") (x := ({ cls := "java/util/List", name := "size", desc := "()I" } : Jvm.MethodName)) (ci := 24) (r := ("java/util/ArrayList", kT24, 3)) rfl rfl rfl ok15 rfl rfl (by decide) (List.mem_of_getElem? (i := 4) rfl) wd2073 wd2078 wd2076 D213_72.1) (?_ : rSnd _ _ 77 _)
  refine s_ic D213_77 kc_i_1 (by decide) ?_
  refine s_Bin q_isub n_sub rG2_x rE2_x D213_78 ?_
  exact s_Ri (Or.inl rfl) D213_79.1
theorem P213_0 : rSnd lab M213 0 B213_0 := by
  refine s_Ent ?_
  refine s_Al gk0 (Or.inr ⟨0, D213_0, rfl⟩) ?_
  refine s_ic D213_1 kc_i_0 (by decide) ?_
  refine s_Pf (ci := 11) (r := ("WordWrightModel", kT11, 10)) rfl (show 0 < 10 from by decide) rfl (Or.inl ⟨rfl, Or.inl wd2025⟩) (Or.inl rfl) rfl (by decide) D213_2 ?_
  refine s_Al gk0 (Or.inr ⟨0, D213_5, rfl⟩) ?_
  refine s_Gf (ci := 11) (r := ("WordWrightModel", kT11, 10)) rfl (show 5 < 10 from by decide) rfl (Or.inl wd2033) (Or.inl rfl) rfl D213_6 ?_
  refine s_Cv (ln := 5) (kd := 50) (C := "java/util/ArrayList") (by decide) (by decide +kernel) rfl (l_F (C := "java/util/ArrayList") (x := ({ cls := "java/util/List", name := "size", desc := "()I" } : Jvm.MethodName)) (ci := 24) (r := ("java/util/ArrayList", kT24, 3)) rfl rfl rfl ok15 rfl rfl (by decide) (List.mem_of_getElem? (i := 4) rfl) wd2073 wd2078 wd2076 D213_9.1) (?_ : rSnd _ _ 14 _)
  refine s_ic D213_14 kc_i_4 (by decide) ?_
  refine s_Ic c_lt (i_lt (tg := 24) (by decide)) D213_15.1 P213_24 (?_ : rSnd _ _ 18 _)
  exact rSnd_none
theorem D214_0 : rDec M214 0 (.aload_n 0) 1 1 := ⟨by decide +kernel, rfl⟩
theorem D214_1 : rDec M214 1 (.iconst 0) 1 2 := ⟨by decide +kernel, rfl⟩
theorem D214_2 : rDec M214 2 (.putfield 145) 3 5 := ⟨by decide +kernel, rfl⟩
theorem D214_5 : rDec M214 5 (.iload_n 1) 1 6 := ⟨by decide +kernel, rfl⟩
theorem D214_6 : rDec M214 6 (.ifCond .lt 16) 3 9 := ⟨by decide +kernel, rfl⟩
theorem D214_9 : rDec M214 9 (.iload_n 1) 1 10 := ⟨by decide +kernel, rfl⟩
theorem D214_10 : rDec M214 10 (.aload_n 0) 1 11 := ⟨by decide +kernel, rfl⟩
theorem D214_11 : rDec M214 11 (.getfield 110) 3 14 := ⟨by decide +kernel, rfl⟩
theorem D214_14 : rDec M214 14 (.invokeinterface 148 1) 5 19 := ⟨by decide +kernel, rfl⟩
theorem D214_19 : rDec M214 19 (.if_icmp .lt 9) 3 22 := ⟨by decide +kernel, rfl⟩
theorem D214_22 : rDec M214 22 (.aload_n 0) 1 23 := ⟨by decide +kernel, rfl⟩
theorem D214_23 : rDec M214 23 (.iconst 1) 1 24 := ⟨by decide +kernel, rfl⟩
theorem D214_24 : rDec M214 24 (.invokevirtual 191) 3 27 := ⟨by decide +kernel, rfl⟩
theorem D214_27 : rDec M214 27 (.ireturn) 1 28 := ⟨by decide +kernel, rfl⟩
theorem P214_22 : rSnd lab M214 22 B214_22 := by
  refine s_Al gk0 (Or.inr ⟨0, D214_22, rfl⟩) ?_
  refine s_ic D214_23 kc_i_1 (by decide) ?_
  refine s_Cv (ln := 3) (kd := 24) (C := "WordWrightModel") (by decide) (by decide +kernel) rfl (l_V rfl ok207 rfl wd2084 wd2086 ws65 D214_24.1) (?_ : rSnd _ _ 27 _)
  exact s_Ri (Or.inl rfl) D214_27.1
theorem P214_0 : rSnd lab M214 0 B214_0 := by
  refine s_Ent ?_
  refine s_Al gk0 (Or.inr ⟨0, D214_0, rfl⟩) ?_
  refine s_ic D214_1 kc_i_0 (by decide) ?_
  refine s_Pf (ci := 11) (r := ("WordWrightModel", kT11, 10)) rfl (show 0 < 10 from by decide) rfl (Or.inl ⟨rfl, Or.inl wd2025⟩) (Or.inl rfl) rfl (by decide) D214_2 ?_
  refine s_Il gk1 (Or.inr ⟨1, D214_5, rfl⟩) ?_
  refine s_If c_lt (fun _ => rfl) (fun _ _ => rfl) (b_lt (tg := 22) (by decide)) D214_6.1 P214_22 (?_ : rSnd _ _ 9 _)
  refine s_Il gk1 (Or.inr ⟨1, D214_9, rfl⟩) ?_
  refine s_Al gk0 (Or.inr ⟨0, D214_10, rfl⟩) ?_
  refine s_Gf (ci := 11) (r := ("WordWrightModel", kT11, 10)) rfl (show 3 < 10 from by decide) rfl (Or.inl wd2031) (Or.inl rfl) rfl D214_11 ?_
  refine s_Cv (ln := 5) (kd := 50) (C := "java/util/ArrayList") (by decide) (by decide +kernel) rfl (l_F (C := "java/util/ArrayList") (x := ({ cls := "java/util/List", name := "size", desc := "()I" } : Jvm.MethodName)) (ci := 24) (r := ("java/util/ArrayList", kT24, 3)) rfl rfl rfl ok15 rfl rfl (by decide) (List.mem_of_getElem? (i := 4) rfl) wd2073 wd2078 wd2076 D214_14.1) (?_ : rSnd _ _ 19 _)
  refine s_Ic c_lt (i_lt (tg := 28) (by decide)) D214_19.1 rSnd_none (?_ : rSnd _ _ 22 _)
  exact P214_22
theorem D215_0 : rDec M215 0 (.new 3) 3 3 := ⟨by decide +kernel, rfl⟩
theorem D215_3 : rDec M215 3 (.dup) 1 4 := ⟨by decide +kernel, rfl⟩
theorem D215_4 : rDec M215 4 (.iload_n 0) 1 5 := ⟨by decide +kernel, rfl⟩
theorem D215_5 : rDec M215 5 (.iload_n 1) 1 6 := ⟨by decide +kernel, rfl⟩
theorem D215_6 : rDec M215 6 (.invokespecial 5) 3 9 := ⟨by decide +kernel, rfl⟩
theorem D215_9 : rDec M215 9 (.invokevirtual 9) 3 12 := ⟨by decide +kernel, rfl⟩
theorem D215_12 : rDec M215 12 (.areturn) 1 13 := ⟨by decide +kernel, rfl⟩
theorem P215_0 : rSnd lab M215 0 B215_0 := by
  refine s_Ent ?_
  refine s_New (ci := 12) (r := ("WordWrightModel$1", kT12, 2)) rfl rfl wd1675 wd1676 wd15 kr12 D215_0 ?_
  refine s_Dup D215_3 ?_
  refine s_Il gk0 (Or.inr ⟨0, D215_4, rfl⟩) ?_
  refine s_Il gk1 (Or.inr ⟨1, D215_5, rfl⟩) ?_
  refine s_Ci (id := 136) rfl (l_I rfl ok115 rfl rfl rfl wd1677 wd1678 D215_6.1) (?_ : rSnd _ _ 9 _)
  refine s_Cv (ln := 3) (kd := 26) (C := "WordWrightModel$1") (by decide) (by decide +kernel) rfl (l_U (C := "WordWrightModel$1") (owner := "WordWrightModel$Walk") (x := ({ cls := "WordWrightModel$1", name := "smallest", desc := "()LWordWrightModel$Dfa;" } : Jvm.MethodName)) rfl ok169 rfl rfl wd1691 wd1692 wd1695 wd1694 D215_9.1) (?_ : rSnd _ _ 12 _)
  exact s_Ra (Or.inl ⟨_, rfl⟩) D215_12.1
theorem D216_0 : rDec M216 0 (.aload_n 0) 1 1 := ⟨by decide +kernel, rfl⟩
theorem D216_1 : rDec M216 1 (.iconst 0) 1 2 := ⟨by decide +kernel, rfl⟩
theorem D216_2 : rDec M216 2 (.putfield 145) 3 5 := ⟨by decide +kernel, rfl⟩
theorem D216_5 : rDec M216 5 (.aload_n 0) 1 6 := ⟨by decide +kernel, rfl⟩
theorem D216_6 : rDec M216 6 (.getfield 116) 3 9 := ⟨by decide +kernel, rfl⟩
theorem D216_9 : rDec M216 9 (.invokevirtual 318) 3 12 := ⟨by decide +kernel, rfl⟩
theorem D216_12 : rDec M216 12 (.aload_n 0) 1 13 := ⟨by decide +kernel, rfl⟩
theorem D216_13 : rDec M216 13 (.getfield 116) 3 16 := ⟨by decide +kernel, rfl⟩
theorem D216_16 : rDec M216 16 (.getfield 324) 3 19 := ⟨by decide +kernel, rfl⟩
theorem D216_19 : rDec M216 19 (.ireturn) 1 20 := ⟨by decide +kernel, rfl⟩
theorem P216_0 : rSnd lab M216 0 B216_0 := by
  refine s_Ent ?_
  refine s_Al gk0 (Or.inr ⟨0, D216_0, rfl⟩) ?_
  refine s_ic D216_1 kc_i_0 (by decide) ?_
  refine s_Pf (ci := 11) (r := ("WordWrightModel", kT11, 10)) rfl (show 0 < 10 from by decide) rfl (Or.inl ⟨rfl, Or.inl wd2025⟩) (Or.inl rfl) rfl (by decide) D216_2 ?_
  refine s_Al gk0 (Or.inr ⟨0, D216_5, rfl⟩) ?_
  refine s_Gf (ci := 11) (r := ("WordWrightModel", kT11, 10)) rfl (show 4 < 10 from by decide) rfl (Or.inl wd2032) (Or.inl rfl) rfl D216_6 ?_
  refine s_Cv (ln := 3) (kd := 42) (C := "WordWrightModel$Equations") (by decide) (by decide +kernel) rfl (l_V rfl ok155 rfl wd2618 wd2619 wd2620 D216_9.1) (?_ : rSnd _ _ 12 _)
  refine s_Al gk0 (Or.inr ⟨0, D216_12, rfl⟩) ?_
  refine s_Gf (ci := 11) (r := ("WordWrightModel", kT11, 10)) rfl (show 4 < 10 from by decide) rfl (Or.inl wd2032) (Or.inl rfl) rfl D216_13 ?_
  refine s_Gf (ci := 20) (r := ("WordWrightModel$Equations", kT20, 6)) rfl (show 5 < 6 from by decide) rfl (Or.inl wd1936) (Or.inl rfl) rfl D216_16 ?_
  exact s_Ri (Or.inl rfl) D216_19.1
theorem D217_0 : rDec M217 0 (.aload_n 0) 1 1 := ⟨by decide +kernel, rfl⟩
theorem D217_1 : rDec M217 1 (.iconst 0) 1 2 := ⟨by decide +kernel, rfl⟩
theorem D217_2 : rDec M217 2 (.putfield 145) 3 5 := ⟨by decide +kernel, rfl⟩
theorem D217_5 : rDec M217 5 (.iload_n 1) 1 6 := ⟨by decide +kernel, rfl⟩
theorem D217_6 : rDec M217 6 (.ifCond .lt 8) 3 9 := ⟨by decide +kernel, rfl⟩
theorem D217_9 : rDec M217 9 (.iload_n 1) 1 10 := ⟨by decide +kernel, rfl⟩
theorem D217_10 : rDec M217 10 (.iconst 4) 1 11 := ⟨by decide +kernel, rfl⟩
theorem D217_11 : rDec M217 11 (.if_icmp .lt 9) 3 14 := ⟨by decide +kernel, rfl⟩
theorem D217_14 : rDec M217 14 (.aload_n 0) 1 15 := ⟨by decide +kernel, rfl⟩
theorem D217_15 : rDec M217 15 (.iconst 1) 1 16 := ⟨by decide +kernel, rfl⟩
theorem D217_16 : rDec M217 16 (.invokevirtual 191) 3 19 := ⟨by decide +kernel, rfl⟩
theorem D217_19 : rDec M217 19 (.ireturn) 1 20 := ⟨by decide +kernel, rfl⟩
theorem D217_20 : rDec M217 20 (.iload_n 2) 1 21 := ⟨by decide +kernel, rfl⟩
theorem D217_21 : rDec M217 21 (.iconst 3) 1 22 := ⟨by decide +kernel, rfl⟩
theorem D217_22 : rDec M217 22 (.invokestatic 151) 3 25 := ⟨by decide +kernel, rfl⟩
theorem D217_25 : rDec M217 25 (.ifCond .ne 9) 3 28 := ⟨by decide +kernel, rfl⟩
theorem D217_28 : rDec M217 28 (.aload_n 0) 1 29 := ⟨by decide +kernel, rfl⟩
theorem D217_29 : rDec M217 29 (.iconst 2) 1 30 := ⟨by decide +kernel, rfl⟩
theorem D217_30 : rDec M217 30 (.invokevirtual 191) 3 33 := ⟨by decide +kernel, rfl⟩
theorem D217_33 : rDec M217 33 (.ireturn) 1 34 := ⟨by decide +kernel, rfl⟩
theorem D217_34 : rDec M217 34 (.aload_n 0) 1 35 := ⟨by decide +kernel, rfl⟩
theorem D217_35 : rDec M217 35 (.getfield 116) 3 38 := ⟨by decide +kernel, rfl⟩
theorem D217_38 : rDec M217 38 (.getfield 142) 3 41 := ⟨by decide +kernel, rfl⟩
theorem D217_41 : rDec M217 41 (.iload_n 1) 1 42 := ⟨by decide +kernel, rfl⟩
theorem D217_42 : rDec M217 42 (.iaload) 1 43 := ⟨by decide +kernel, rfl⟩
theorem D217_43 : rDec M217 43 (.istore_n 3) 1 44 := ⟨by decide +kernel, rfl⟩
theorem D217_44 : rDec M217 44 (.aload_n 0) 1 45 := ⟨by decide +kernel, rfl⟩
theorem D217_45 : rDec M217 45 (.getfield 116) 3 48 := ⟨by decide +kernel, rfl⟩
theorem D217_48 : rDec M217 48 (.getfield 142) 3 51 := ⟨by decide +kernel, rfl⟩
theorem D217_51 : rDec M217 51 (.iload_n 1) 1 52 := ⟨by decide +kernel, rfl⟩
theorem D217_52 : rDec M217 52 (.iload_n 2) 1 53 := ⟨by decide +kernel, rfl⟩
theorem D217_53 : rDec M217 53 (.iastore) 1 54 := ⟨by decide +kernel, rfl⟩
theorem D217_54 : rDec M217 54 (.aload_n 0) 1 55 := ⟨by decide +kernel, rfl⟩
theorem D217_55 : rDec M217 55 (.getfield 116) 3 58 := ⟨by decide +kernel, rfl⟩
theorem D217_58 : rDec M217 58 (.invokevirtual 318) 3 61 := ⟨by decide +kernel, rfl⟩
theorem D217_61 : rDec M217 61 (.aload_n 0) 1 62 := ⟨by decide +kernel, rfl⟩
theorem D217_62 : rDec M217 62 (.getfield 116) 3 65 := ⟨by decide +kernel, rfl⟩
theorem D217_65 : rDec M217 65 (.getfield 142) 3 68 := ⟨by decide +kernel, rfl⟩
theorem D217_68 : rDec M217 68 (.iload_n 1) 1 69 := ⟨by decide +kernel, rfl⟩
theorem D217_69 : rDec M217 69 (.iload_n 3) 1 70 := ⟨by decide +kernel, rfl⟩
theorem D217_70 : rDec M217 70 (.iastore) 1 71 := ⟨by decide +kernel, rfl⟩
theorem D217_71 : rDec M217 71 (.aload_n 0) 1 72 := ⟨by decide +kernel, rfl⟩
theorem D217_72 : rDec M217 72 (.getfield 116) 3 75 := ⟨by decide +kernel, rfl⟩
theorem D217_75 : rDec M217 75 (.getfield 324) 3 78 := ⟨by decide +kernel, rfl⟩
theorem D217_78 : rDec M217 78 (.ireturn) 1 79 := ⟨by decide +kernel, rfl⟩
theorem P217_34 : rSnd lab M217 34 B217_34 := by
  refine s_Al gk0 (Or.inr ⟨0, D217_34, rfl⟩) ?_
  refine s_Gf (ci := 11) (r := ("WordWrightModel", kT11, 10)) rfl (show 4 < 10 from by decide) rfl (Or.inl wd2032) (Or.inl rfl) rfl D217_35 ?_
  refine s_Gf (ci := 20) (r := ("WordWrightModel$Equations", kT20, 6)) rfl (show 2 < 6 from by decide) rfl (Or.inl wd1931) (Or.inl rfl) rfl D217_38 ?_
  refine s_Il gk1 (Or.inr ⟨1, D217_41, rfl⟩) ?_
  refine s_Ial D217_42 ?_
  refine s_Is sk3 (show 3 < 4 from by decide) (Or.inr ⟨3, D217_43, rfl⟩) ?_
  refine s_Al gk0 (Or.inr ⟨0, D217_44, rfl⟩) ?_
  refine s_Gf (ci := 11) (r := ("WordWrightModel", kT11, 10)) rfl (show 4 < 10 from by decide) rfl (Or.inl wd2032) (Or.inl rfl) rfl D217_45 ?_
  refine s_Gf (ci := 20) (r := ("WordWrightModel$Equations", kT20, 6)) rfl (show 2 < 6 from by decide) rfl (Or.inl wd1931) (Or.inl rfl) rfl D217_48 ?_
  refine s_Il gk1 (Or.inr ⟨1, D217_51, rfl⟩) ?_
  refine s_Il gk2 (Or.inr ⟨2, D217_52, rfl⟩) ?_
  refine s_Ast (t := 0) rfl q_iast rfl (by decide) D217_53 ?_
  refine s_Al gk0 (Or.inr ⟨0, D217_54, rfl⟩) ?_
  refine s_Gf (ci := 11) (r := ("WordWrightModel", kT11, 10)) rfl (show 4 < 10 from by decide) rfl (Or.inl wd2032) (Or.inl rfl) rfl D217_55 ?_
  refine s_Cv (ln := 3) (kd := 42) (C := "WordWrightModel$Equations") (by decide) (by decide +kernel) rfl (l_V rfl ok155 rfl wd2618 wd2619 wd2620 D217_58.1) (?_ : rSnd _ _ 61 _)
  refine s_Al gk0 (Or.inr ⟨0, D217_61, rfl⟩) ?_
  refine s_Gf (ci := 11) (r := ("WordWrightModel", kT11, 10)) rfl (show 4 < 10 from by decide) rfl (Or.inl wd2032) (Or.inl rfl) rfl D217_62 ?_
  refine s_Gf (ci := 20) (r := ("WordWrightModel$Equations", kT20, 6)) rfl (show 2 < 6 from by decide) rfl (Or.inl wd1931) (Or.inl rfl) rfl D217_65 ?_
  refine s_Il gk1 (Or.inr ⟨1, D217_68, rfl⟩) ?_
  refine s_Il gk3 (Or.inr ⟨3, D217_69, rfl⟩) ?_
  refine s_Ast (t := 0) rfl q_iast rfl (by decide) D217_70 ?_
  refine s_Al gk0 (Or.inr ⟨0, D217_71, rfl⟩) ?_
  refine s_Gf (ci := 11) (r := ("WordWrightModel", kT11, 10)) rfl (show 4 < 10 from by decide) rfl (Or.inl wd2032) (Or.inl rfl) rfl D217_72 ?_
  refine s_Gf (ci := 20) (r := ("WordWrightModel$Equations", kT20, 6)) rfl (show 5 < 6 from by decide) rfl (Or.inl wd1936) (Or.inl rfl) rfl D217_75 ?_
  exact s_Ri (Or.inl rfl) D217_78.1
theorem P217_20 : rSnd lab M217 20 B217_20 := by
  refine s_Il gk2 (Or.inr ⟨2, D217_20, rfl⟩) ?_
  refine s_ic D217_21 kc_i_3 (by decide) ?_
  refine s_Cs (id := 250) rfl (l_S rfl ok185 rfl wd2081 wd2082 D217_22.1) (?_ : rSnd _ _ 25 _)
  refine s_If c_ne (fun _ => rfl) (fun _ _ => rfl) (b_ne (tg := 34) (by decide)) D217_25.1 P217_34 (?_ : rSnd _ _ 28 _)
  refine s_Al gk0 (Or.inr ⟨0, D217_28, rfl⟩) ?_
  refine s_ic D217_29 kc_i_2 (by decide) ?_
  refine s_Cv (ln := 3) (kd := 24) (C := "WordWrightModel") (by decide) (by decide +kernel) rfl (l_V rfl ok207 rfl wd2084 wd2086 ws65 D217_30.1) (?_ : rSnd _ _ 33 _)
  exact s_Ri (Or.inl rfl) D217_33.1
theorem P217_14 : rSnd lab M217 14 B217_14 := by
  refine s_Al gk0 (Or.inr ⟨0, D217_14, rfl⟩) ?_
  refine s_ic D217_15 kc_i_1 (by decide) ?_
  refine s_Cv (ln := 3) (kd := 24) (C := "WordWrightModel") (by decide) (by decide +kernel) rfl (l_V rfl ok207 rfl wd2084 wd2086 ws65 D217_16.1) (?_ : rSnd _ _ 19 _)
  exact s_Ri (Or.inl rfl) D217_19.1
theorem P217_0 : rSnd lab M217 0 B217_0 := by
  refine s_Ent ?_
  refine s_Al gk0 (Or.inr ⟨0, D217_0, rfl⟩) ?_
  refine s_ic D217_1 kc_i_0 (by decide) ?_
  refine s_Pf (ci := 11) (r := ("WordWrightModel", kT11, 10)) rfl (show 0 < 10 from by decide) rfl (Or.inl ⟨rfl, Or.inl wd2025⟩) (Or.inl rfl) rfl (by decide) D217_2 ?_
  refine s_Il gk1 (Or.inr ⟨1, D217_5, rfl⟩) ?_
  refine s_If c_lt (fun _ => rfl) (fun _ _ => rfl) (b_lt (tg := 14) (by decide)) D217_6.1 P217_14 (?_ : rSnd _ _ 9 _)
  refine s_Il gk1 (Or.inr ⟨1, D217_9, rfl⟩) ?_
  refine s_ic D217_10 kc_i_4 (by decide) ?_
  refine s_Ic c_lt (i_lt (tg := 20) (by decide)) D217_11.1 P217_20 (?_ : rSnd _ _ 14 _)
  exact P217_14
theorem D218_0 : rDec M218 0 (.aload_n 0) 1 1 := ⟨by decide +kernel, rfl⟩
theorem D218_1 : rDec M218 1 (.iconst 0) 1 2 := ⟨by decide +kernel, rfl⟩
theorem D218_2 : rDec M218 2 (.putfield 145) 3 5 := ⟨by decide +kernel, rfl⟩
theorem D218_5 : rDec M218 5 (.iload_n 1) 1 6 := ⟨by decide +kernel, rfl⟩
theorem D218_6 : rDec M218 6 (.ifCond .lt 8) 3 9 := ⟨by decide +kernel, rfl⟩
theorem D218_9 : rDec M218 9 (.iload_n 1) 1 10 := ⟨by decide +kernel, rfl⟩
theorem D218_10 : rDec M218 10 (.iconst 4) 1 11 := ⟨by decide +kernel, rfl⟩
theorem D218_11 : rDec M218 11 (.if_icmp .lt 9) 3 14 := ⟨by decide +kernel, rfl⟩
theorem D218_14 : rDec M218 14 (.aload_n 0) 1 15 := ⟨by decide +kernel, rfl⟩
theorem D218_15 : rDec M218 15 (.iconst 1) 1 16 := ⟨by decide +kernel, rfl⟩
theorem D218_16 : rDec M218 16 (.invokevirtual 191) 3 19 := ⟨by decide +kernel, rfl⟩
theorem D218_19 : rDec M218 19 (.ireturn) 1 20 := ⟨by decide +kernel, rfl⟩
theorem D218_20 : rDec M218 20 (.aload_n 0) 1 21 := ⟨by decide +kernel, rfl⟩
theorem D218_21 : rDec M218 21 (.getfield 116) 3 24 := ⟨by decide +kernel, rfl⟩
theorem D218_24 : rDec M218 24 (.invokevirtual 318) 3 27 := ⟨by decide +kernel, rfl⟩
theorem D218_27 : rDec M218 27 (.aload_n 0) 1 28 := ⟨by decide +kernel, rfl⟩
theorem D218_28 : rDec M218 28 (.getfield 116) 3 31 := ⟨by decide +kernel, rfl⟩
theorem D218_31 : rDec M218 31 (.getfield 321) 3 34 := ⟨by decide +kernel, rfl⟩
theorem D218_34 : rDec M218 34 (.iload_n 1) 1 35 := ⟨by decide +kernel, rfl⟩
theorem D218_35 : rDec M218 35 (.iaload) 1 36 := ⟨by decide +kernel, rfl⟩
theorem D218_36 : rDec M218 36 (.ireturn) 1 37 := ⟨by decide +kernel, rfl⟩
theorem P218_20 : rSnd lab M218 20 B218_20 := by
  refine s_Al gk0 (Or.inr ⟨0, D218_20, rfl⟩) ?_
  refine s_Gf (ci := 11) (r := ("WordWrightModel", kT11, 10)) rfl (show 4 < 10 from by decide) rfl (Or.inl wd2032) (Or.inl rfl) rfl D218_21 ?_
  refine s_Cv (ln := 3) (kd := 42) (C := "WordWrightModel$Equations") (by decide) (by decide +kernel) rfl (l_V rfl ok155 rfl wd2618 wd2619 wd2620 D218_24.1) (?_ : rSnd _ _ 27 _)
  refine s_Al gk0 (Or.inr ⟨0, D218_27, rfl⟩) ?_
  refine s_Gf (ci := 11) (r := ("WordWrightModel", kT11, 10)) rfl (show 4 < 10 from by decide) rfl (Or.inl wd2032) (Or.inl rfl) rfl D218_28 ?_
  refine s_Gf (ci := 20) (r := ("WordWrightModel$Equations", kT20, 6)) rfl (show 4 < 6 from by decide) rfl (Or.inl wd1934) (Or.inl rfl) rfl D218_31 ?_
  refine s_Il gk1 (Or.inr ⟨1, D218_34, rfl⟩) ?_
  refine s_Ial D218_35 ?_
  exact s_Ri (Or.inl rfl) D218_36.1
theorem P218_14 : rSnd lab M218 14 B218_14 := by
  refine s_Al gk0 (Or.inr ⟨0, D218_14, rfl⟩) ?_
  refine s_ic D218_15 kc_i_1 (by decide) ?_
  refine s_Cv (ln := 3) (kd := 24) (C := "WordWrightModel") (by decide) (by decide +kernel) rfl (l_V rfl ok207 rfl wd2084 wd2086 ws65 D218_16.1) (?_ : rSnd _ _ 19 _)
  exact s_Ri (Or.inl rfl) D218_19.1
theorem P218_0 : rSnd lab M218 0 B218_0 := by
  refine s_Ent ?_
  refine s_Al gk0 (Or.inr ⟨0, D218_0, rfl⟩) ?_
  refine s_ic D218_1 kc_i_0 (by decide) ?_
  refine s_Pf (ci := 11) (r := ("WordWrightModel", kT11, 10)) rfl (show 0 < 10 from by decide) rfl (Or.inl ⟨rfl, Or.inl wd2025⟩) (Or.inl rfl) rfl (by decide) D218_2 ?_
  refine s_Il gk1 (Or.inr ⟨1, D218_5, rfl⟩) ?_
  refine s_If c_lt (fun _ => rfl) (fun _ _ => rfl) (b_lt (tg := 14) (by decide)) D218_6.1 P218_14 (?_ : rSnd _ _ 9 _)
  refine s_Il gk1 (Or.inr ⟨1, D218_9, rfl⟩) ?_
  refine s_ic D218_10 kc_i_4 (by decide) ?_
  refine s_Ic c_lt (i_lt (tg := 20) (by decide)) D218_11.1 P218_20 (?_ : rSnd _ _ 14 _)
  exact P218_14
theorem D219_0 : rDec M219 0 (.aload_n 0) 1 1 := ⟨by decide +kernel, rfl⟩
theorem D219_1 : rDec M219 1 (.iconst 0) 1 2 := ⟨by decide +kernel, rfl⟩
theorem D219_2 : rDec M219 2 (.putfield 145) 3 5 := ⟨by decide +kernel, rfl⟩
theorem D219_5 : rDec M219 5 (.iload_n 1) 1 6 := ⟨by decide +kernel, rfl⟩
theorem D219_6 : rDec M219 6 (.ifCond .lt 9) 3 9 := ⟨by decide +kernel, rfl⟩
theorem D219_9 : rDec M219 9 (.iload_n 1) 1 10 := ⟨by decide +kernel, rfl⟩
theorem D219_10 : rDec M219 10 (.bipush 11) 2 12 := ⟨by decide +kernel, rfl⟩
theorem D219_12 : rDec M219 12 (.if_icmp .lt 9) 3 15 := ⟨by decide +kernel, rfl⟩
theorem D219_15 : rDec M219 15 (.aload_n 0) 1 16 := ⟨by decide +kernel, rfl⟩
theorem D219_16 : rDec M219 16 (.iconst 1) 1 17 := ⟨by decide +kernel, rfl⟩
theorem D219_17 : rDec M219 17 (.invokevirtual 191) 3 20 := ⟨by decide +kernel, rfl⟩
theorem D219_20 : rDec M219 20 (.ireturn) 1 21 := ⟨by decide +kernel, rfl⟩
theorem D219_21 : rDec M219 21 (.iload_n 2) 1 22 := ⟨by decide +kernel, rfl⟩
theorem D219_22 : rDec M219 22 (.ifCond .lt 8) 3 25 := ⟨by decide +kernel, rfl⟩
theorem D219_25 : rDec M219 25 (.iload_n 2) 1 26 := ⟨by decide +kernel, rfl⟩
theorem D219_26 : rDec M219 26 (.iconst 3) 1 27 := ⟨by decide +kernel, rfl⟩
theorem D219_27 : rDec M219 27 (.if_icmp .lt 9) 3 30 := ⟨by decide +kernel, rfl⟩
theorem D219_30 : rDec M219 30 (.aload_n 0) 1 31 := ⟨by decide +kernel, rfl⟩
theorem D219_31 : rDec M219 31 (.iconst 1) 1 32 := ⟨by decide +kernel, rfl⟩
theorem D219_32 : rDec M219 32 (.invokevirtual 191) 3 35 := ⟨by decide +kernel, rfl⟩
theorem D219_35 : rDec M219 35 (.ireturn) 1 36 := ⟨by decide +kernel, rfl⟩
theorem D219_36 : rDec M219 36 (.iload_n 3) 1 37 := ⟨by decide +kernel, rfl⟩
theorem D219_37 : rDec M219 37 (.iconst 4) 1 38 := ⟨by decide +kernel, rfl⟩
theorem D219_38 : rDec M219 38 (.invokestatic 151) 3 41 := ⟨by decide +kernel, rfl⟩
theorem D219_41 : rDec M219 41 (.ifCond .ne 9) 3 44 := ⟨by decide +kernel, rfl⟩
theorem D219_44 : rDec M219 44 (.aload_n 0) 1 45 := ⟨by decide +kernel, rfl⟩
theorem D219_45 : rDec M219 45 (.iconst 2) 1 46 := ⟨by decide +kernel, rfl⟩
theorem D219_46 : rDec M219 46 (.invokevirtual 191) 3 49 := ⟨by decide +kernel, rfl⟩
theorem D219_49 : rDec M219 49 (.ireturn) 1 50 := ⟨by decide +kernel, rfl⟩
theorem D219_50 : rDec M219 50 (.aload_n 0) 1 51 := ⟨by decide +kernel, rfl⟩
theorem D219_51 : rDec M219 51 (.new 365) 3 54 := ⟨by decide +kernel, rfl⟩
theorem D219_54 : rDec M219 54 (.dup) 1 55 := ⟨by decide +kernel, rfl⟩
theorem D219_55 : rDec M219 55 (.aload_n 0) 1 56 := ⟨by decide +kernel, rfl⟩
theorem D219_56 : rDec M219 56 (.invokespecial 373) 3 59 := ⟨by decide +kernel, rfl⟩
theorem D219_59 : rDec M219 59 (.iload_n 1) 1 60 := ⟨by decide +kernel, rfl⟩
theorem D219_60 : rDec M219 60 (.iload_n 2) 1 61 := ⟨by decide +kernel, rfl⟩
theorem D219_61 : rDec M219 61 (.iload_n 3) 1 62 := ⟨by decide +kernel, rfl⟩
theorem D219_62 : rDec M219 62 (.invokevirtual 376) 3 65 := ⟨by decide +kernel, rfl⟩
theorem D219_65 : rDec M219 65 (.ireturn) 1 66 := ⟨by decide +kernel, rfl⟩
theorem P219_50 : rSnd lab M219 50 B219_50 := by
  refine s_Al gk0 (Or.inr ⟨0, D219_50, rfl⟩) ?_
  refine s_New (ci := 22) (r := ("WordWrightModel$Spans", kT22, 5)) rfl rfl wd2759 wd2760 wd55 kr22 D219_51 ?_
  refine s_Dup D219_54 ?_
  refine s_Al gk0 (Or.inr ⟨0, D219_55, rfl⟩) ?_
  refine s_Ci (id := 202) rfl (l_I rfl ok161 rfl rfl rfl wd2761 wd2762 D219_56.1) (?_ : rSnd _ _ 59 _)
  refine s_Il gk1 (Or.inr ⟨1, D219_59, rfl⟩) ?_
  refine s_Il gk2 (Or.inr ⟨2, D219_60, rfl⟩) ?_
  refine s_Il gk3 (Or.inr ⟨3, D219_61, rfl⟩) ?_
  refine s_Cv (ln := 3) (kd := 24) (C := "WordWrightModel") (by decide) (by decide +kernel) rfl (l_V rfl ok220 rfl wd2817 wd2819 ws82 D219_62.1) (?_ : rSnd _ _ 65 _)
  exact s_Ri (Or.inl rfl) D219_65.1
theorem P219_36 : rSnd lab M219 36 B219_36 := by
  refine s_Il gk3 (Or.inr ⟨3, D219_36, rfl⟩) ?_
  refine s_ic D219_37 kc_i_4 (by decide) ?_
  refine s_Cs (id := 250) rfl (l_S rfl ok185 rfl wd2081 wd2082 D219_38.1) (?_ : rSnd _ _ 41 _)
  refine s_If c_ne (fun _ => rfl) (fun _ _ => rfl) (b_ne (tg := 50) (by decide)) D219_41.1 P219_50 (?_ : rSnd _ _ 44 _)
  refine s_Al gk0 (Or.inr ⟨0, D219_44, rfl⟩) ?_
  refine s_ic D219_45 kc_i_2 (by decide) ?_
  refine s_Cv (ln := 3) (kd := 24) (C := "WordWrightModel") (by decide) (by decide +kernel) rfl (l_V rfl ok207 rfl wd2084 wd2086 ws65 D219_46.1) (?_ : rSnd _ _ 49 _)
  exact s_Ri (Or.inl rfl) D219_49.1
theorem P219_30 : rSnd lab M219 30 B219_30 := by
  refine s_Al gk0 (Or.inr ⟨0, D219_30, rfl⟩) ?_
  refine s_ic D219_31 kc_i_1 (by decide) ?_
  refine s_Cv (ln := 3) (kd := 24) (C := "WordWrightModel") (by decide) (by decide +kernel) rfl (l_V rfl ok207 rfl wd2084 wd2086 ws65 D219_32.1) (?_ : rSnd _ _ 35 _)
  exact s_Ri (Or.inl rfl) D219_35.1
theorem P219_21 : rSnd lab M219 21 B219_21 := by
  refine s_Il gk2 (Or.inr ⟨2, D219_21, rfl⟩) ?_
  refine s_If c_lt (fun _ => rfl) (fun _ _ => rfl) (b_lt (tg := 30) (by decide)) D219_22.1 P219_30 (?_ : rSnd _ _ 25 _)
  refine s_Il gk2 (Or.inr ⟨2, D219_25, rfl⟩) ?_
  refine s_ic D219_26 kc_i_3 (by decide) ?_
  refine s_Ic c_lt (i_lt (tg := 36) (by decide)) D219_27.1 P219_36 (?_ : rSnd _ _ 30 _)
  exact P219_30
theorem P219_15 : rSnd lab M219 15 B219_15 := by
  refine s_Al gk0 (Or.inr ⟨0, D219_15, rfl⟩) ?_
  refine s_ic D219_16 kc_i_1 (by decide) ?_
  refine s_Cv (ln := 3) (kd := 24) (C := "WordWrightModel") (by decide) (by decide +kernel) rfl (l_V rfl ok207 rfl wd2084 wd2086 ws65 D219_17.1) (?_ : rSnd _ _ 20 _)
  exact s_Ri (Or.inl rfl) D219_20.1
theorem P219_0 : rSnd lab M219 0 B219_0 := by
  refine s_Ent ?_
  refine s_Al gk0 (Or.inr ⟨0, D219_0, rfl⟩) ?_
  refine s_ic D219_1 kc_i_0 (by decide) ?_
  refine s_Pf (ci := 11) (r := ("WordWrightModel", kT11, 10)) rfl (show 0 < 10 from by decide) rfl (Or.inl ⟨rfl, Or.inl wd2025⟩) (Or.inl rfl) rfl (by decide) D219_2 ?_
  refine s_Il gk1 (Or.inr ⟨1, D219_5, rfl⟩) ?_
  refine s_If c_lt (fun _ => rfl) (fun _ _ => rfl) (b_lt (tg := 15) (by decide)) D219_6.1 P219_15 (?_ : rSnd _ _ 9 _)
  refine s_Il gk1 (Or.inr ⟨1, D219_9, rfl⟩) ?_
  refine s_bi D219_10 kc_b_11 (by decide) ?_
  refine s_Ic c_lt (i_lt (tg := 21) (by decide)) D219_12.1 P219_21 (?_ : rSnd _ _ 15 _)
  exact P219_15
theorem D220_0 : rDec M220 0 (.iload_n 2) 1 1 := ⟨by decide +kernel, rfl⟩
theorem D220_1 : rDec M220 1 (.aload_n 0) 1 2 := ⟨by decide +kernel, rfl⟩
theorem D220_2 : rDec M220 2 (.getfield 130) 3 5 := ⟨by decide +kernel, rfl⟩
theorem D220_5 : rDec M220 5 (.invokeinterface 148 1) 5 10 := ⟨by decide +kernel, rfl⟩
theorem D220_10 : rDec M220 10 (.if_icmp .lt 8) 3 13 := ⟨by decide +kernel, rfl⟩
theorem D220_13 : rDec M220 13 (.bipush 10) 2 15 := ⟨by decide +kernel, rfl⟩
theorem D220_15 : rDec M220 15 (.goto 4) 3 18 := ⟨by decide +kernel, rfl⟩
theorem D220_19 : rDec M220 19 (.istore 5) 2 21 := ⟨by decide +kernel, rfl⟩
theorem D220_21 : rDec M220 21 (.aload_n 1) 1 22 := ⟨by decide +kernel, rfl⟩
theorem D220_22 : rDec M220 22 (.getfield 364) 3 25 := ⟨by decide +kernel, rfl⟩
theorem D220_25 : rDec M220 25 (.iload 5) 2 27 := ⟨by decide +kernel, rfl⟩
theorem D220_27 : rDec M220 27 (.baload) 1 28 := ⟨by decide +kernel, rfl⟩
theorem D220_28 : rDec M220 28 (.ifCond .ne 5) 3 31 := ⟨by decide +kernel, rfl⟩
theorem D220_31 : rDec M220 31 (.iconst 0) 1 32 := ⟨by decide +kernel, rfl⟩
theorem D220_32 : rDec M220 32 (.ireturn) 1 33 := ⟨by decide +kernel, rfl⟩
theorem P220_19 : rSnd lab M220 19 B220_19 := by
  refine s_Is sk5 (show 5 < 7 from by decide) (Or.inl D220_19) ?_
  refine s_Al gk1 (Or.inr ⟨1, D220_21, rfl⟩) ?_
  refine s_Gf (ci := 22) (r := ("WordWrightModel$Spans", kT22, 5)) rfl (show 1 < 5 from by decide) rfl (Or.inl wd2801) (Or.inl rfl) rfl D220_22 ?_
  refine s_Il gk5 (Or.inl D220_25) ?_
  refine s_Ald (t := 1) (ty := .boolean) rfl q_zald rfl D220_27 ?_
  refine s_If c_ne (fun _ => rfl) (fun _ _ => rfl) (b_ne (tg := 33) (by decide)) D220_28.1 rSnd_none (?_ : rSnd _ _ 31 _)
  refine s_ic D220_31 kc_i_0 (by decide) ?_
  exact s_Ri (Or.inl rfl) D220_32.1
theorem P220_0 : rSnd lab M220 0 B220_0 := by
  refine s_Ent ?_
  refine s_Il gk2 (Or.inr ⟨2, D220_0, rfl⟩) ?_
  refine s_Al gk0 (Or.inr ⟨0, D220_1, rfl⟩) ?_
  refine s_Gf (ci := 11) (r := ("WordWrightModel", kT11, 10)) rfl (show 9 < 10 from by decide) rfl (Or.inl wd2038) (Or.inl rfl) rfl D220_2 ?_
  refine s_Cv (ln := 5) (kd := 50) (C := "java/util/ArrayList") (by decide) (by decide +kernel) rfl (l_F (C := "java/util/ArrayList") (x := ({ cls := "java/util/List", name := "size", desc := "()I" } : Jvm.MethodName)) (ci := 24) (r := ("java/util/ArrayList", kT24, 3)) rfl rfl rfl ok15 rfl rfl (by decide) (List.mem_of_getElem? (i := 4) rfl) wd2073 wd2078 wd2076 D220_5.1) (?_ : rSnd _ _ 10 _)
  refine s_Ic c_lt (i_lt (tg := 18) (by decide)) D220_10.1 rSnd_none (?_ : rSnd _ _ 13 _)
  refine s_bi D220_13 kc_b_10 (by decide) ?_
  exact s_Go (pc' := 19) D220_15.1 (by decide) P220_19
theorem D221_0 : rDec M221 0 (.new 39) 3 3 := ⟨by decide +kernel, rfl⟩
theorem D221_3 : rDec M221 3 (.dup) 1 4 := ⟨by decide +kernel, rfl⟩
theorem D221_4 : rDec M221 4 (.aload_n 0) 1 5 := ⟨by decide +kernel, rfl⟩
theorem D221_5 : rDec M221 5 (.invokespecial 41) 3 8 := ⟨by decide +kernel, rfl⟩
theorem D221_8 : rDec M221 8 (.invokevirtual 44) 3 11 := ⟨by decide +kernel, rfl⟩
theorem D221_11 : rDec M221 11 (.areturn) 1 12 := ⟨by decide +kernel, rfl⟩
theorem P221_0 : rSnd lab M221 0 B221_0 := by
  refine s_Ent ?_
  refine s_New (ci := 15) (r := ("WordWrightModel$4", kT15, 1)) rfl rfl wd2155 wd2156 wd33 kr15 D221_0 ?_
  refine s_Dup D221_3 ?_
  refine s_Al gk0 (Or.inr ⟨0, D221_4, rfl⟩) ?_
  refine s_Ci (id := 149) rfl (l_I rfl ok128 rfl rfl rfl wd2157 wd2158 D221_5.1) (?_ : rSnd _ _ 8 _)
  refine s_Cv (ln := 3) (kd := 32) (C := "WordWrightModel$4") (by decide) (by decide +kernel) rfl (l_U (C := "WordWrightModel$4") (owner := "WordWrightModel$Walk") (x := ({ cls := "WordWrightModel$4", name := "smallest", desc := "()LWordWrightModel$Dfa;" } : Jvm.MethodName)) rfl ok169 rfl rfl wd2165 wd2166 wd1695 wd2167 D221_8.1) (?_ : rSnd _ _ 11 _)
  exact s_Ra (Or.inl ⟨_, rfl⟩) D221_11.1
theorem D222_0 : rDec M222 0 (.lconst 0) 1 1 := ⟨by decide +kernel, rfl⟩
theorem D222_1 : rDec M222 1 (.lstore 4) 2 3 := ⟨by decide +kernel, rfl⟩
theorem D222_3 : rDec M222 3 (.iconst 0) 1 4 := ⟨by decide +kernel, rfl⟩
theorem D222_4 : rDec M222 4 (.istore 6) 2 6 := ⟨by decide +kernel, rfl⟩
theorem D222_6 : rDec M222 6 (.iload 6) 2 8 := ⟨by decide +kernel, rfl⟩
theorem D222_8 : rDec M222 8 (.aload_n 0) 1 9 := ⟨by decide +kernel, rfl⟩
theorem D222_9 : rDec M222 9 (.getfield 25) 3 12 := ⟨by decide +kernel, rfl⟩
theorem D222_12 : rDec M222 12 (.if_icmp .ge 34) 3 15 := ⟨by decide +kernel, rfl⟩
theorem D222_15 : rDec M222 15 (.lload_n 1) 1 16 := ⟨by decide +kernel, rfl⟩
theorem D222_16 : rDec M222 16 (.iload 6) 2 18 := ⟨by decide +kernel, rfl⟩
theorem D222_18 : rDec M222 18 (.lshr) 1 19 := ⟨by decide +kernel, rfl⟩
theorem D222_19 : rDec M222 19 (.lconst 1) 1 20 := ⟨by decide +kernel, rfl⟩
theorem D222_20 : rDec M222 20 (.land) 1 21 := ⟨by decide +kernel, rfl⟩
theorem D222_21 : rDec M222 21 (.lconst 1) 1 22 := ⟨by decide +kernel, rfl⟩
theorem D222_22 : rDec M222 22 (.lcmp) 1 23 := ⟨by decide +kernel, rfl⟩
theorem D222_23 : rDec M222 23 (.ifCond .ne 17) 3 26 := ⟨by decide +kernel, rfl⟩
theorem D222_26 : rDec M222 26 (.lload 4) 2 28 := ⟨by decide +kernel, rfl⟩
theorem D222_28 : rDec M222 28 (.lconst 1) 1 29 := ⟨by decide +kernel, rfl⟩
theorem D222_29 : rDec M222 29 (.aload_n 0) 1 30 := ⟨by decide +kernel, rfl⟩
theorem D222_30 : rDec M222 30 (.iload 6) 2 32 := ⟨by decide +kernel, rfl⟩
theorem D222_32 : rDec M222 32 (.iload_n 3) 1 33 := ⟨by decide +kernel, rfl⟩
theorem D222_33 : rDec M222 33 (.invokevirtual 31) 3 36 := ⟨by decide +kernel, rfl⟩
theorem D222_36 : rDec M222 36 (.lshl) 1 37 := ⟨by decide +kernel, rfl⟩
theorem D222_37 : rDec M222 37 (.lor) 1 38 := ⟨by decide +kernel, rfl⟩
theorem D222_38 : rDec M222 38 (.lstore 4) 2 40 := ⟨by decide +kernel, rfl⟩
theorem D222_40 : rDec M222 40 (.iinc 6 1) 3 43 := ⟨by decide +kernel, rfl⟩
theorem D222_43 : rDec M222 43 (.goto (-37)) 3 46 := ⟨by decide +kernel, rfl⟩
theorem D222_46 : rDec M222 46 (.lload 4) 2 48 := ⟨by decide +kernel, rfl⟩
theorem D222_48 : rDec M222 48 (.lreturn) 1 49 := ⟨by decide +kernel, rfl⟩
theorem P222_46 : rSnd lab M222 46 B222_46 := by
  refine s_Ll gk4 (Or.inl D222_46) ?_
  exact s_Rl rfl D222_48.1
theorem P222_40 : rSnd lab M222 40 B222_40 := by
  refine s_Inc gk6 sk6 (show 6 < 7 from by decide) kc_i_1 D222_40 ?_
  exact s_Go (pc' := 6) D222_43.1 (by decide) (s_Jb rfl)
theorem P222_6 : rSnd lab M222 6 B222_6 := by
  refine s_Il gk6 (Or.inl D222_6) ?_
  refine s_Al gk0 (Or.inr ⟨0, D222_8, rfl⟩) ?_
  refine s_Gf (ci := 19) (r := ("WordWrightModel$Dfa", kT19, 3)) rfl (show 0 < 3 from by decide) rfl (Or.inl wd1818) (Or.inl rfl) rfl D222_9 ?_
  refine s_Ic c_ge (i_ge (tg := 46) (by decide)) D222_12.1 P222_46 (?_ : rSnd _ _ 15 _)
  refine s_Ll gk1 (Or.inr ⟨1, D222_15, rfl⟩) ?_
  refine s_Il gk6 (Or.inl D222_16) ?_
  refine s_ShL q_lshr nl_shr D222_18 ?_
  refine s_lc D222_19 kc_L_1 (by decide) ?_
  refine s_BinL q_land nl_and D222_20 ?_
  refine s_lc D222_21 kc_L_1 (by decide) ?_
  refine s_Lcmp D222_22 ?_
  refine s_If c_ne (fun _ => rfl) (fun _ _ => rfl) (b_ne (tg := 40) (by decide)) D222_23.1 P222_40 (?_ : rSnd _ _ 26 _)
  refine s_Ll gk4 (Or.inl D222_26) ?_
  refine s_lc D222_28 kc_L_1 (by decide) ?_
  refine s_Al gk0 (Or.inr ⟨0, D222_29, rfl⟩) ?_
  refine s_Il gk6 (Or.inl D222_30) ?_
  refine s_Il gk3 (Or.inr ⟨3, D222_32, rfl⟩) ?_
  refine s_Cv (ln := 3) (kd := 40) (C := "WordWrightModel$Dfa") (by decide) (by decide +kernel) rfl (l_V rfl ok147 rfl wd1768 wd1739 wd1740 D222_33.1) (?_ : rSnd _ _ 36 _)
  refine s_ShL q_lshl nl_shl D222_36 ?_
  refine s_BinL q_lor nl_or D222_37 ?_
  refine s_Ls dk4 (show 5 < 7 from by decide) (Or.inl D222_38) ?_
  exact P222_40
theorem P222_0 : rSnd lab M222 0 B222_0 := by
  refine s_Ent ?_
  refine s_lc D222_0 kc_L_0 (by decide) ?_
  refine s_Ls dk4 (show 5 < 7 from by decide) (Or.inl D222_1) ?_
  refine s_ic D222_3 kc_i_0 (by decide) ?_
  refine s_Is sk6 (show 6 < 7 from by decide) (Or.inl D222_4) ?_
  exact P222_6
