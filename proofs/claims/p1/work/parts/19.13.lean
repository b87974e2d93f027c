-- ===== rows and blocks, 13 =====
theorem D287_0 : rDec M287 0 (.aload_n 0) 1 1 := ⟨by decide +kernel, rfl⟩
theorem D287_1 : rDec M287 1 (.getfield 12) 3 4 := ⟨by decide +kernel, rfl⟩
theorem D287_4 : rDec M287 4 (.aload_n 1) 1 5 := ⟨by decide +kernel, rfl⟩
theorem D287_5 : rDec M287 5 (.iconst 0) 1 6 := ⟨by decide +kernel, rfl⟩
theorem D287_6 : rDec M287 6 (.invokevirtual 18) 3 9 := ⟨by decide +kernel, rfl⟩
theorem D287_9 : rDec M287 9 (.ifCond .eq 7) 3 12 := ⟨by decide +kernel, rfl⟩
theorem D287_12 : rDec M287 12 (.lconst 1) 1 13 := ⟨by decide +kernel, rfl⟩
theorem D287_13 : rDec M287 13 (.goto 4) 3 16 := ⟨by decide +kernel, rfl⟩
theorem D287_16 : rDec M287 16 (.lconst 0) 1 17 := ⟨by decide +kernel, rfl⟩
theorem D287_17 : rDec M287 17 (.invokevirtual 24) 3 20 := ⟨by decide +kernel, rfl⟩
theorem D287_20 : rDec M287 20 (.iconst 0) 1 21 := ⟨by decide +kernel, rfl⟩
theorem D287_21 : rDec M287 21 (.istore 4) 2 23 := ⟨by decide +kernel, rfl⟩
theorem D287_23 : rDec M287 23 (.iload 4) 2 25 := ⟨by decide +kernel, rfl⟩
theorem D287_25 : rDec M287 25 (.aload_n 0) 1 26 := ⟨by decide +kernel, rfl⟩
theorem D287_26 : rDec M287 26 (.getfield 12) 3 29 := ⟨by decide +kernel, rfl⟩
theorem D287_29 : rDec M287 29 (.getfield 28) 3 32 := ⟨by decide +kernel, rfl⟩
theorem D287_32 : rDec M287 32 (.if_icmp .ge 156) 3 35 := ⟨by decide +kernel, rfl⟩
theorem D287_35 : rDec M287 35 (.iload 4) 2 37 := ⟨by decide +kernel, rfl⟩
theorem D287_37 : rDec M287 37 (.sipush 10240) 3 40 := ⟨by decide +kernel, rfl⟩
theorem D287_40 : rDec M287 40 (.if_icmp .ge 148) 3 43 := ⟨by decide +kernel, rfl⟩
theorem D287_43 : rDec M287 43 (.aload_n 0) 1 44 := ⟨by decide +kernel, rfl⟩
theorem D287_44 : rDec M287 44 (.getfield 12) 3 47 := ⟨by decide +kernel, rfl⟩
theorem D287_47 : rDec M287 47 (.getfield 32) 3 50 := ⟨by decide +kernel, rfl⟩
theorem D287_50 : rDec M287 50 (.iload 4) 2 52 := ⟨by decide +kernel, rfl⟩
theorem D287_52 : rDec M287 52 (.laload) 1 53 := ⟨by decide +kernel, rfl⟩
theorem D287_53 : rDec M287 53 (.bipush 10) 2 55 := ⟨by decide +kernel, rfl⟩
theorem D287_55 : rDec M287 55 (.lshr) 1 56 := ⟨by decide +kernel, rfl⟩
theorem D287_56 : rDec M287 56 (.l2i) 1 57 := ⟨by decide +kernel, rfl⟩
theorem D287_57 : rDec M287 57 (.istore 5) 2 59 := ⟨by decide +kernel, rfl⟩
theorem D287_59 : rDec M287 59 (.aload_n 0) 1 60 := ⟨by decide +kernel, rfl⟩
theorem D287_60 : rDec M287 60 (.getfield 12) 3 63 := ⟨by decide +kernel, rfl⟩
theorem D287_63 : rDec M287 63 (.getfield 32) 3 66 := ⟨by decide +kernel, rfl⟩
theorem D287_66 : rDec M287 66 (.iload 4) 2 68 := ⟨by decide +kernel, rfl⟩
theorem D287_68 : rDec M287 68 (.laload) 1 69 := ⟨by decide +kernel, rfl⟩
theorem D287_69 : rDec M287 69 (.l2i) 1 70 := ⟨by decide +kernel, rfl⟩
theorem D287_70 : rDec M287 70 (.sipush 1023) 3 73 := ⟨by decide +kernel, rfl⟩
theorem D287_73 : rDec M287 73 (.iand) 1 74 := ⟨by decide +kernel, rfl⟩
theorem D287_74 : rDec M287 74 (.istore 6) 2 76 := ⟨by decide +kernel, rfl⟩
theorem D287_76 : rDec M287 76 (.aload_n 0) 1 77 := ⟨by decide +kernel, rfl⟩
theorem D287_77 : rDec M287 77 (.getfield 12) 3 80 := ⟨by decide +kernel, rfl⟩
theorem D287_80 : rDec M287 80 (.getfield 36) 3 83 := ⟨by decide +kernel, rfl⟩
theorem D287_83 : rDec M287 83 (.iload 4) 2 85 := ⟨by decide +kernel, rfl⟩
theorem D287_85 : rDec M287 85 (.iload 6) 2 87 := ⟨by decide +kernel, rfl⟩
theorem D287_87 : rDec M287 87 (.aload_n 2) 1 88 := ⟨by decide +kernel, rfl⟩
theorem D287_88 : rDec M287 88 (.getfield 39) 3 91 := ⟨by decide +kernel, rfl⟩
theorem D287_91 : rDec M287 91 (.iand) 1 92 := ⟨by decide +kernel, rfl⟩
theorem D287_92 : rDec M287 92 (.ifCond .eq 7) 3 95 := ⟨by decide +kernel, rfl⟩
theorem D287_95 : rDec M287 95 (.iconst 1) 1 96 := ⟨by decide +kernel, rfl⟩
theorem D287_96 : rDec M287 96 (.goto 4) 3 99 := ⟨by decide +kernel, rfl⟩
theorem D287_99 : rDec M287 99 (.iconst 0) 1 100 := ⟨by decide +kernel, rfl⟩
theorem D287_100 : rDec M287 100 (.bastore) 1 101 := ⟨by decide +kernel, rfl⟩
theorem D287_101 : rDec M287 101 (.iconst 0) 1 102 := ⟨by decide +kernel, rfl⟩
theorem D287_102 : rDec M287 102 (.istore 7) 2 104 := ⟨by decide +kernel, rfl⟩
theorem D287_104 : rDec M287 104 (.iload 7) 2 106 := ⟨by decide +kernel, rfl⟩
theorem D287_106 : rDec M287 106 (.iconst 4) 1 107 := ⟨by decide +kernel, rfl⟩
theorem D287_107 : rDec M287 107 (.if_icmp .ge 75) 3 110 := ⟨by decide +kernel, rfl⟩
theorem D287_110 : rDec M287 110 (.aload_n 1) 1 111 := ⟨by decide +kernel, rfl⟩
theorem D287_111 : rDec M287 111 (.iload 5) 2 113 := ⟨by decide +kernel, rfl⟩
theorem D287_113 : rDec M287 113 (.iload 7) 2 115 := ⟨by decide +kernel, rfl⟩
theorem D287_115 : rDec M287 115 (.invokevirtual 42) 3 118 := ⟨by decide +kernel, rfl⟩
theorem D287_118 : rDec M287 118 (.istore 8) 2 120 := ⟨by decide +kernel, rfl⟩
theorem D287_120 : rDec M287 120 (.aload_n 2) 1 121 := ⟨by decide +kernel, rfl⟩
theorem D287_121 : rDec M287 121 (.iload 6) 2 123 := ⟨by decide +kernel, rfl⟩
theorem D287_123 : rDec M287 123 (.iload 7) 2 125 := ⟨by decide +kernel, rfl⟩
theorem D287_125 : rDec M287 125 (.invokevirtual 46) 3 128 := ⟨by decide +kernel, rfl⟩
theorem D287_128 : rDec M287 128 (.aload_n 1) 1 129 := ⟨by decide +kernel, rfl⟩
theorem D287_129 : rDec M287 129 (.iload 8) 2 131 := ⟨by decide +kernel, rfl⟩
theorem D287_131 : rDec M287 131 (.invokevirtual 18) 3 134 := ⟨by decide +kernel, rfl⟩
theorem D287_134 : rDec M287 134 (.ifCond .eq 7) 3 137 := ⟨by decide +kernel, rfl⟩
theorem D287_137 : rDec M287 137 (.iconst 1) 1 138 := ⟨by decide +kernel, rfl⟩
theorem D287_138 : rDec M287 138 (.goto 4) 3 141 := ⟨by decide +kernel, rfl⟩
theorem D287_141 : rDec M287 141 (.iconst 0) 1 142 := ⟨by decide +kernel, rfl⟩
theorem D287_142 : rDec M287 142 (.ior) 1 143 := ⟨by decide +kernel, rfl⟩
theorem D287_143 : rDec M287 143 (.istore 9) 2 145 := ⟨by decide +kernel, rfl⟩
theorem D287_145 : rDec M287 145 (.aload_n 0) 1 146 := ⟨by decide +kernel, rfl⟩
theorem D287_146 : rDec M287 146 (.getfield 12) 3 149 := ⟨by decide +kernel, rfl⟩
theorem D287_149 : rDec M287 149 (.getfield 49) 3 152 := ⟨by decide +kernel, rfl⟩
theorem D287_152 : rDec M287 152 (.iload 4) 2 154 := ⟨by decide +kernel, rfl⟩
theorem D287_154 : rDec M287 154 (.iconst 4) 1 155 := ⟨by decide +kernel, rfl⟩
theorem D287_155 : rDec M287 155 (.imul) 1 156 := ⟨by decide +kernel, rfl⟩
theorem D287_156 : rDec M287 156 (.iload 7) 2 158 := ⟨by decide +kernel, rfl⟩
theorem D287_158 : rDec M287 158 (.iadd) 1 159 := ⟨by decide +kernel, rfl⟩
theorem D287_159 : rDec M287 159 (.aload_n 0) 1 160 := ⟨by decide +kernel, rfl⟩
theorem D287_160 : rDec M287 160 (.getfield 12) 3 163 := ⟨by decide +kernel, rfl⟩
theorem D287_163 : rDec M287 163 (.iload 8) 2 165 := ⟨by decide +kernel, rfl⟩
theorem D287_165 : rDec M287 165 (.bipush 10) 2 167 := ⟨by decide +kernel, rfl⟩
theorem D287_167 : rDec M287 167 (.ishl) 1 168 := ⟨by decide +kernel, rfl⟩
theorem D287_168 : rDec M287 168 (.iload 9) 2 170 := ⟨by decide +kernel, rfl⟩
theorem D287_170 : rDec M287 170 (.ior) 1 171 := ⟨by decide +kernel, rfl⟩
theorem D287_171 : rDec M287 171 (.i2l) 1 172 := ⟨by decide +kernel, rfl⟩
theorem D287_172 : rDec M287 172 (.invokevirtual 53) 3 175 := ⟨by decide +kernel, rfl⟩
theorem D287_175 : rDec M287 175 (.iastore) 1 176 := ⟨by decide +kernel, rfl⟩
theorem D287_176 : rDec M287 176 (.iinc 7 1) 3 179 := ⟨by decide +kernel, rfl⟩
theorem D287_179 : rDec M287 179 (.goto (-75)) 3 182 := ⟨by decide +kernel, rfl⟩
theorem D287_182 : rDec M287 182 (.iinc 4 1) 3 185 := ⟨by decide +kernel, rfl⟩
theorem D287_185 : rDec M287 185 (.goto (-162)) 3 188 := ⟨by decide +kernel, rfl⟩
theorem D287_188 : rDec M287 188 (.aload_n 0) 1 189 := ⟨by decide +kernel, rfl⟩
theorem D287_189 : rDec M287 189 (.getfield 12) 3 192 := ⟨by decide +kernel, rfl⟩
theorem D287_192 : rDec M287 192 (.aload_n 3) 1 193 := ⟨by decide +kernel, rfl⟩
theorem D287_193 : rDec M287 193 (.invokevirtual 57) 3 196 := ⟨by decide +kernel, rfl⟩
theorem D287_196 : rDec M287 196 (.ireturn) 1 197 := ⟨by decide +kernel, rfl⟩
theorem P287_188 : rSnd lab M287 188 B287_188 := by
  refine s_Al gk0 (Or.inr ⟨0, D287_188, rfl⟩) ?_
  refine s_Gf (ci := 9) (r := ("WordWright$Workshop", kT9, 1)) rfl (show 0 < 1 from by decide) rfl (Or.inl wd148) (Or.inl rfl) rfl D287_189 ?_
  refine s_Al gk3 (Or.inr ⟨3, D287_192, rfl⟩) ?_
  refine s_Cv (ln := 3) (kd := 4) (C := "WordWright$Draft") (by decide) (by decide +kernel) rfl (l_V rfl ok52 rfl wd652 wd653 wd654 D287_193.1) (?_ : rSnd _ _ 196 _)
  exact s_Ri (Or.inr ⟨rfl, by decide⟩) D287_196.1
theorem P287_182 : rSnd lab M287 182 B287_182 := by
  refine s_Inc gk4 sk4 (show 4 < 10 from by decide) kc_i_1 D287_182 ?_
  exact s_Go (pc' := 23) D287_185.1 (by decide) (s_Jb rfl)
theorem P287_142 : rSnd lab M287 142 B287_142 := by
  refine s_Bin q_ior n_or rG2_x rE2_x D287_142 ?_
  refine s_Is sk9 (show 9 < 10 from by decide) (Or.inl D287_143) ?_
  refine s_Al gk0 (Or.inr ⟨0, D287_145, rfl⟩) ?_
  refine s_Gf (ci := 9) (r := ("WordWright$Workshop", kT9, 1)) rfl (show 0 < 1 from by decide) rfl (Or.inl wd148) (Or.inl rfl) rfl D287_146 ?_
  refine s_Gf (ci := 1) (r := ("WordWright$Draft", kT1, 12)) rfl (show 3 < 12 from by decide) rfl (Or.inl wd112) (Or.inl rfl) rfl D287_149 ?_
  refine s_Il gk4 (Or.inl D287_152) ?_
  refine s_ic D287_154 kc_i_4 (by decide) ?_
  refine s_Bin q_imul n_mul rG2_x rE2_x D287_155 ?_
  refine s_Il gk7 (Or.inl D287_156) ?_
  refine s_Bin q_iadd n_add rG2_x e_add D287_158 ?_
  refine s_Al gk0 (Or.inr ⟨0, D287_159, rfl⟩) ?_
  refine s_Gf (ci := 9) (r := ("WordWright$Workshop", kT9, 1)) rfl (show 0 < 1 from by decide) rfl (Or.inl wd148) (Or.inl rfl) rfl D287_160 ?_
  refine s_Il gk8 (Or.inl D287_163) ?_
  refine s_bi D287_165 kc_b_10 (by decide) ?_
  refine s_Bin q_ishl n_shl rG2_x rE2_x D287_167 ?_
  refine s_Il gk9 (Or.inl D287_168) ?_
  refine s_Bin q_ior n_or rG2_x rE2_x D287_170 ?_
  refine s_I2l D287_171 ?_
  refine s_Cv (ln := 3) (kd := 4) (C := "WordWright$Draft") (by decide) (by decide +kernel) rfl (l_V rfl ok55 rfl wd651 wd642 wd643 D287_172.1) (?_ : rSnd _ _ 175 _)
  refine s_Ast (t := 0) rfl q_iast rfl (by decide) D287_175 ?_
  refine s_Inc gk7 sk7 (show 7 < 10 from by decide) kc_i_1 D287_176 ?_
  exact s_Go (pc' := 104) D287_179.1 (by decide) (s_Jb rfl)
theorem P287_141 : rSnd lab M287 141 B287_141 := by
  refine s_ic D287_141 kc_i_0 (by decide) ?_
  exact P287_142
theorem P287_104 : rSnd lab M287 104 B287_104 := by
  refine s_Il gk7 (Or.inl D287_104) ?_
  refine s_ic D287_106 kc_i_4 (by decide) ?_
  refine s_Ic c_ge (i_ge (tg := 182) (by decide)) D287_107.1 P287_182 (?_ : rSnd _ _ 110 _)
  refine s_Al gk1 (Or.inr ⟨1, D287_110, rfl⟩) ?_
  refine s_Il gk5 (Or.inl D287_111) ?_
  refine s_Il gk7 (Or.inl D287_113) ?_
  refine s_Cv (ln := 3) (kd := 8) (C := "WordWright$Language") (by decide) (by decide +kernel) rfl (l_V rfl ok231 rfl wd650 wd505 wd506 D287_115.1) (?_ : rSnd _ _ 118 _)
  refine s_Is sk8 (show 8 < 10 from by decide) (Or.inl D287_118) ?_
  refine s_Al gk2 (Or.inr ⟨2, D287_120, rfl⟩) ?_
  refine s_Il gk6 (Or.inl D287_121) ?_
  refine s_Il gk7 (Or.inl D287_123) ?_
  refine s_Cv (ln := 3) (kd := 8) (C := "WordWright$Language") (by decide) (by decide +kernel) rfl (l_V rfl ok232 rfl wd696 wd697 wd698 D287_125.1) (?_ : rSnd _ _ 128 _)
  refine s_Al gk1 (Or.inr ⟨1, D287_128, rfl⟩) ?_
  refine s_Il gk8 (Or.inl D287_129) ?_
  refine s_Cv (ln := 3) (kd := 8) (C := "WordWright$Language") (by decide) (by decide +kernel) rfl (l_V rfl ok240 rfl wd646 wd509 wd510 D287_131.1) (?_ : rSnd _ _ 134 _)
  refine s_If c_eq (fun _ => rfl) (fun _ _ => rfl) (b_eq (tg := 141) (by decide)) D287_134.1 P287_141 (?_ : rSnd _ _ 137 _)
  refine s_ic D287_137 kc_i_1 (by decide) ?_
  exact s_Go (pc' := 142) D287_138.1 (by decide) P287_142
theorem P287_100 : rSnd lab M287 100 B287_100 := by
  refine s_Ast (t := 1) rfl q_zast rfl (by decide) D287_100 ?_
  refine s_ic D287_101 kc_i_0 (by decide) ?_
  refine s_Is sk7 (show 7 < 10 from by decide) (Or.inl D287_102) ?_
  exact P287_104
theorem P287_99 : rSnd lab M287 99 B287_99 := by
  refine s_ic D287_99 kc_i_0 (by decide) ?_
  exact P287_100
theorem P287_23 : rSnd lab M287 23 B287_23 := by
  refine s_Il gk4 (Or.inl D287_23) ?_
  refine s_Al gk0 (Or.inr ⟨0, D287_25, rfl⟩) ?_
  refine s_Gf (ci := 9) (r := ("WordWright$Workshop", kT9, 1)) rfl (show 0 < 1 from by decide) rfl (Or.inl wd148) (Or.inl rfl) rfl D287_26 ?_
  refine s_Gf (ci := 1) (r := ("WordWright$Draft", kT1, 12)) rfl (show 0 < 12 from by decide) rfl (Or.inl wd106) (Or.inl rfl) rfl D287_29 ?_
  refine s_Ic c_ge (i_ge (tg := 188) (by decide)) D287_32.1 P287_188 (?_ : rSnd _ _ 35 _)
  refine s_Il gk4 (Or.inl D287_35) ?_
  refine s_si D287_37 kc_s_10240 (by decide) ?_
  refine s_Ic c_ge (i_ge (tg := 188) (by decide)) D287_40.1 P287_188 (?_ : rSnd _ _ 43 _)
  refine s_Al gk0 (Or.inr ⟨0, D287_43, rfl⟩) ?_
  refine s_Gf (ci := 9) (r := ("WordWright$Workshop", kT9, 1)) rfl (show 0 < 1 from by decide) rfl (Or.inl wd148) (Or.inl rfl) rfl D287_44 ?_
  refine s_Gf (ci := 1) (r := ("WordWright$Draft", kT1, 12)) rfl (show 1 < 12 from by decide) rfl (Or.inl wd108) (Or.inl rfl) rfl D287_47 ?_
  refine s_Il gk4 (Or.inl D287_50) ?_
  refine s_Ald (t := 2) (ty := .long) rfl q_lald rfl D287_52 ?_
  refine s_bi D287_53 kc_b_10 (by decide) ?_
  refine s_ShL q_lshr nl_shr D287_55 ?_
  refine s_L2i D287_56 ?_
  refine s_Is sk5 (show 5 < 10 from by decide) (Or.inl D287_57) ?_
  refine s_Al gk0 (Or.inr ⟨0, D287_59, rfl⟩) ?_
  refine s_Gf (ci := 9) (r := ("WordWright$Workshop", kT9, 1)) rfl (show 0 < 1 from by decide) rfl (Or.inl wd148) (Or.inl rfl) rfl D287_60 ?_
  refine s_Gf (ci := 1) (r := ("WordWright$Draft", kT1, 12)) rfl (show 1 < 12 from by decide) rfl (Or.inl wd108) (Or.inl rfl) rfl D287_63 ?_
  refine s_Il gk4 (Or.inl D287_66) ?_
  refine s_Ald (t := 2) (ty := .long) rfl q_lald rfl D287_68 ?_
  refine s_L2i D287_69 ?_
  refine s_si D287_70 kc_s_1023 (by decide) ?_
  refine s_Bin q_iand n_and g_and rE2_x D287_73 ?_
  refine s_Is sk6 (show 6 < 10 from by decide) (Or.inl D287_74) ?_
  refine s_Al gk0 (Or.inr ⟨0, D287_76, rfl⟩) ?_
  refine s_Gf (ci := 9) (r := ("WordWright$Workshop", kT9, 1)) rfl (show 0 < 1 from by decide) rfl (Or.inl wd148) (Or.inl rfl) rfl D287_77 ?_
  refine s_Gf (ci := 1) (r := ("WordWright$Draft", kT1, 12)) rfl (show 2 < 12 from by decide) rfl (Or.inl wd110) (Or.inl rfl) rfl D287_80 ?_
  refine s_Il gk4 (Or.inl D287_83) ?_
  refine s_Il gk6 (Or.inl D287_85) ?_
  refine s_Al gk2 (Or.inr ⟨2, D287_87, rfl⟩) ?_
  refine s_Gf (ci := 3) (r := ("WordWright$Language", kT3, 3)) rfl (show 1 < 3 from by decide) rfl (Or.inl wd78) (Or.inl rfl) rfl D287_88 ?_
  refine s_Bin q_iand n_and g_and rE2_x D287_91 ?_
  refine s_If c_eq (fun _ => rfl) (fun _ _ => rfl) (b_eq (tg := 99) (by decide)) D287_92.1 P287_99 (?_ : rSnd _ _ 95 _)
  refine s_ic D287_95 kc_i_1 (by decide) ?_
  exact s_Go (pc' := 100) D287_96.1 (by decide) P287_100
theorem P287_17 : rSnd lab M287 17 B287_17 := by
  refine s_Cv (ln := 3) (kd := 4) (C := "WordWright$Draft") (by decide) (by decide +kernel) rfl (l_V rfl ok49 rfl wd635 wd636 wd637 D287_17.1) (?_ : rSnd _ _ 20 _)
  refine s_ic D287_20 kc_i_0 (by decide) ?_
  refine s_Is sk4 (show 4 < 10 from by decide) (Or.inl D287_21) ?_
  exact P287_23
theorem P287_16 : rSnd lab M287 16 B287_16 := by
  refine s_lc D287_16 kc_L_0 (by decide) ?_
  exact P287_17
theorem P287_0 : rSnd lab M287 0 B287_0 := by
  refine s_Ent ?_
  refine s_Al gk0 (Or.inr ⟨0, D287_0, rfl⟩) ?_
  refine s_Gf (ci := 9) (r := ("WordWright$Workshop", kT9, 1)) rfl (show 0 < 1 from by decide) rfl (Or.inl wd148) (Or.inl rfl) rfl D287_1 ?_
  refine s_Al gk1 (Or.inr ⟨1, D287_4, rfl⟩) ?_
  refine s_ic D287_5 kc_i_0 (by decide) ?_
  refine s_Cv (ln := 3) (kd := 8) (C := "WordWright$Language") (by decide) (by decide +kernel) rfl (l_V rfl ok240 rfl wd646 wd509 wd510 D287_6.1) (?_ : rSnd _ _ 9 _)
  refine s_If c_eq (fun _ => rfl) (fun _ _ => rfl) (b_eq (tg := 16) (by decide)) D287_9.1 P287_16 (?_ : rSnd _ _ 12 _)
  refine s_lc D287_12 kc_L_1 (by decide) ?_
  exact s_Go (pc' := 17) D287_13.1 (by decide) P287_17
theorem D288_0 : rDec M288 0 (.sipush 1024) 3 3 := ⟨by decide +kernel, rfl⟩
theorem D288_3 : rDec M288 3 (.istore_n 3) 1 4 := ⟨by decide +kernel, rfl⟩
theorem D288_4 : rDec M288 4 (.aload_n 0) 1 5 := ⟨by decide +kernel, rfl⟩
theorem D288_5 : rDec M288 5 (.getfield 12) 3 8 := ⟨by decide +kernel, rfl⟩
theorem D288_8 : rDec M288 8 (.iload_n 3) 1 9 := ⟨by decide +kernel, rfl⟩
theorem D288_9 : rDec M288 9 (.iconst 1) 1 10 := ⟨by decide +kernel, rfl⟩
theorem D288_10 : rDec M288 10 (.ior) 1 11 := ⟨by decide +kernel, rfl⟩
theorem D288_11 : rDec M288 11 (.i2l) 1 12 := ⟨by decide +kernel, rfl⟩
theorem D288_12 : rDec M288 12 (.invokevirtual 24) 3 15 := ⟨by decide +kernel, rfl⟩
theorem D288_15 : rDec M288 15 (.iconst 0) 1 16 := ⟨by decide +kernel, rfl⟩
theorem D288_16 : rDec M288 16 (.istore 4) 2 18 := ⟨by decide +kernel, rfl⟩
theorem D288_18 : rDec M288 18 (.iload 4) 2 20 := ⟨by decide +kernel, rfl⟩
theorem D288_20 : rDec M288 20 (.aload_n 0) 1 21 := ⟨by decide +kernel, rfl⟩
theorem D288_21 : rDec M288 21 (.getfield 12) 3 24 := ⟨by decide +kernel, rfl⟩
theorem D288_24 : rDec M288 24 (.getfield 28) 3 27 := ⟨by decide +kernel, rfl⟩
theorem D288_27 : rDec M288 27 (.if_icmp .ge 143) 3 30 := ⟨by decide +kernel, rfl⟩
theorem D288_30 : rDec M288 30 (.iload 4) 2 32 := ⟨by decide +kernel, rfl⟩
theorem D288_32 : rDec M288 32 (.sipush 10240) 3 35 := ⟨by decide +kernel, rfl⟩
theorem D288_35 : rDec M288 35 (.if_icmp .ge 135) 3 38 := ⟨by decide +kernel, rfl⟩
theorem D288_38 : rDec M288 38 (.aload_n 0) 1 39 := ⟨by decide +kernel, rfl⟩
theorem D288_39 : rDec M288 39 (.getfield 12) 3 42 := ⟨by decide +kernel, rfl⟩
theorem D288_42 : rDec M288 42 (.getfield 32) 3 45 := ⟨by decide +kernel, rfl⟩
theorem D288_45 : rDec M288 45 (.iload 4) 2 47 := ⟨by decide +kernel, rfl⟩
theorem D288_47 : rDec M288 47 (.laload) 1 48 := ⟨by decide +kernel, rfl⟩
theorem D288_48 : rDec M288 48 (.l2i) 1 49 := ⟨by decide +kernel, rfl⟩
theorem D288_49 : rDec M288 49 (.sipush 1023) 3 52 := ⟨by decide +kernel, rfl⟩
theorem D288_52 : rDec M288 52 (.iand) 1 53 := ⟨by decide +kernel, rfl⟩
theorem D288_53 : rDec M288 53 (.istore 5) 2 55 := ⟨by decide +kernel, rfl⟩
theorem D288_55 : rDec M288 55 (.aload_n 0) 1 56 := ⟨by decide +kernel, rfl⟩
theorem D288_56 : rDec M288 56 (.getfield 12) 3 59 := ⟨by decide +kernel, rfl⟩
theorem D288_59 : rDec M288 59 (.getfield 36) 3 62 := ⟨by decide +kernel, rfl⟩
theorem D288_62 : rDec M288 62 (.iload 4) 2 64 := ⟨by decide +kernel, rfl⟩
theorem D288_64 : rDec M288 64 (.aload_n 0) 1 65 := ⟨by decide +kernel, rfl⟩
theorem D288_65 : rDec M288 65 (.getfield 12) 3 68 := ⟨by decide +kernel, rfl⟩
theorem D288_68 : rDec M288 68 (.getfield 32) 3 71 := ⟨by decide +kernel, rfl⟩
theorem D288_71 : rDec M288 71 (.iload 4) 2 73 := ⟨by decide +kernel, rfl⟩
theorem D288_73 : rDec M288 73 (.laload) 1 74 := ⟨by decide +kernel, rfl⟩
theorem D288_74 : rDec M288 74 (.iload_n 3) 1 75 := ⟨by decide +kernel, rfl⟩
theorem D288_75 : rDec M288 75 (.i2l) 1 76 := ⟨by decide +kernel, rfl⟩
theorem D288_76 : rDec M288 76 (.lcmp) 1 77 := ⟨by decide +kernel, rfl⟩
theorem D288_77 : rDec M288 77 (.ifCond .ge 13) 3 80 := ⟨by decide +kernel, rfl⟩
theorem D288_80 : rDec M288 80 (.iload 5) 2 82 := ⟨by decide +kernel, rfl⟩
theorem D288_82 : rDec M288 82 (.aload_n 1) 1 83 := ⟨by decide +kernel, rfl⟩
theorem D288_83 : rDec M288 83 (.getfield 39) 3 86 := ⟨by decide +kernel, rfl⟩
theorem D288_86 : rDec M288 86 (.iand) 1 87 := ⟨by decide +kernel, rfl⟩
theorem D288_87 : rDec M288 87 (.ifCond .eq 7) 3 90 := ⟨by decide +kernel, rfl⟩
theorem D288_90 : rDec M288 90 (.iconst 1) 1 91 := ⟨by decide +kernel, rfl⟩
theorem D288_91 : rDec M288 91 (.goto 4) 3 94 := ⟨by decide +kernel, rfl⟩
theorem D288_94 : rDec M288 94 (.iconst 0) 1 95 := ⟨by decide +kernel, rfl⟩
theorem D288_95 : rDec M288 95 (.bastore) 1 96 := ⟨by decide +kernel, rfl⟩
theorem D288_96 : rDec M288 96 (.iconst 0) 1 97 := ⟨by decide +kernel, rfl⟩
theorem D288_97 : rDec M288 97 (.istore 6) 2 99 := ⟨by decide +kernel, rfl⟩
theorem D288_99 : rDec M288 99 (.iload 6) 2 101 := ⟨by decide +kernel, rfl⟩
theorem D288_101 : rDec M288 101 (.iconst 4) 1 102 := ⟨by decide +kernel, rfl⟩
theorem D288_102 : rDec M288 102 (.if_icmp .ge 62) 3 105 := ⟨by decide +kernel, rfl⟩
theorem D288_105 : rDec M288 105 (.aload_n 1) 1 106 := ⟨by decide +kernel, rfl⟩
theorem D288_106 : rDec M288 106 (.iload 5) 2 108 := ⟨by decide +kernel, rfl⟩
theorem D288_108 : rDec M288 108 (.iload 6) 2 110 := ⟨by decide +kernel, rfl⟩
theorem D288_110 : rDec M288 110 (.invokevirtual 46) 3 113 := ⟨by decide +kernel, rfl⟩
theorem D288_113 : rDec M288 113 (.istore 7) 2 115 := ⟨by decide +kernel, rfl⟩
theorem D288_115 : rDec M288 115 (.aload_n 0) 1 116 := ⟨by decide +kernel, rfl⟩
theorem D288_116 : rDec M288 116 (.getfield 12) 3 119 := ⟨by decide +kernel, rfl⟩
theorem D288_119 : rDec M288 119 (.getfield 49) 3 122 := ⟨by decide +kernel, rfl⟩
theorem D288_122 : rDec M288 122 (.iload 4) 2 124 := ⟨by decide +kernel, rfl⟩
theorem D288_124 : rDec M288 124 (.iconst 4) 1 125 := ⟨by decide +kernel, rfl⟩
theorem D288_125 : rDec M288 125 (.imul) 1 126 := ⟨by decide +kernel, rfl⟩
theorem D288_126 : rDec M288 126 (.iload 6) 2 128 := ⟨by decide +kernel, rfl⟩
theorem D288_128 : rDec M288 128 (.iadd) 1 129 := ⟨by decide +kernel, rfl⟩
theorem D288_129 : rDec M288 129 (.aload_n 0) 1 130 := ⟨by decide +kernel, rfl⟩
theorem D288_130 : rDec M288 130 (.getfield 12) 3 133 := ⟨by decide +kernel, rfl⟩
theorem D288_133 : rDec M288 133 (.iload 7) 2 135 := ⟨by decide +kernel, rfl⟩
theorem D288_135 : rDec M288 135 (.aload_n 1) 1 136 := ⟨by decide +kernel, rfl⟩
theorem D288_136 : rDec M288 136 (.getfield 39) 3 139 := ⟨by decide +kernel, rfl⟩
theorem D288_139 : rDec M288 139 (.iand) 1 140 := ⟨by decide +kernel, rfl⟩
theorem D288_140 : rDec M288 140 (.ifCond .eq 11) 3 143 := ⟨by decide +kernel, rfl⟩
theorem D288_143 : rDec M288 143 (.iload 7) 2 145 := ⟨by decide +kernel, rfl⟩
theorem D288_145 : rDec M288 145 (.iconst 1) 1 146 := ⟨by decide +kernel, rfl⟩
theorem D288_146 : rDec M288 146 (.ior) 1 147 := ⟨by decide +kernel, rfl⟩
theorem D288_147 : rDec M288 147 (.i2l) 1 148 := ⟨by decide +kernel, rfl⟩
theorem D288_148 : rDec M288 148 (.goto 6) 3 151 := ⟨by decide +kernel, rfl⟩
theorem D288_151 : rDec M288 151 (.iload 7) 2 153 := ⟨by decide +kernel, rfl⟩
theorem D288_153 : rDec M288 153 (.i2l) 1 154 := ⟨by decide +kernel, rfl⟩
theorem D288_154 : rDec M288 154 (.invokevirtual 53) 3 157 := ⟨by decide +kernel, rfl⟩
theorem D288_157 : rDec M288 157 (.iastore) 1 158 := ⟨by decide +kernel, rfl⟩
theorem D288_158 : rDec M288 158 (.iinc 6 1) 3 161 := ⟨by decide +kernel, rfl⟩
theorem D288_161 : rDec M288 161 (.goto (-62)) 3 164 := ⟨by decide +kernel, rfl⟩
theorem D288_164 : rDec M288 164 (.iinc 4 1) 3 167 := ⟨by decide +kernel, rfl⟩
theorem D288_167 : rDec M288 167 (.goto (-149)) 3 170 := ⟨by decide +kernel, rfl⟩
theorem D288_170 : rDec M288 170 (.aload_n 0) 1 171 := ⟨by decide +kernel, rfl⟩
theorem D288_171 : rDec M288 171 (.getfield 12) 3 174 := ⟨by decide +kernel, rfl⟩
theorem D288_174 : rDec M288 174 (.aload_n 2) 1 175 := ⟨by decide +kernel, rfl⟩
theorem D288_175 : rDec M288 175 (.invokevirtual 57) 3 178 := ⟨by decide +kernel, rfl⟩
theorem D288_178 : rDec M288 178 (.ireturn) 1 179 := ⟨by decide +kernel, rfl⟩
theorem P288_170 : rSnd lab M288 170 B288_170 := by
  refine s_Al gk0 (Or.inr ⟨0, D288_170, rfl⟩) ?_
  refine s_Gf (ci := 9) (r := ("WordWright$Workshop", kT9, 1)) rfl (show 0 < 1 from by decide) rfl (Or.inl wd148) (Or.inl rfl) rfl D288_171 ?_
  refine s_Al gk2 (Or.inr ⟨2, D288_174, rfl⟩) ?_
  refine s_Cv (ln := 3) (kd := 4) (C := "WordWright$Draft") (by decide) (by decide +kernel) rfl (l_V rfl ok52 rfl wd652 wd653 wd654 D288_175.1) (?_ : rSnd _ _ 178 _)
  exact s_Ri (Or.inr ⟨rfl, by decide⟩) D288_178.1
theorem P288_164 : rSnd lab M288 164 B288_164 := by
  refine s_Inc gk4 sk4 (show 4 < 8 from by decide) kc_i_1 D288_164 ?_
  exact s_Go (pc' := 18) D288_167.1 (by decide) (s_Jb rfl)
theorem P288_154 : rSnd lab M288 154 B288_154 := by
  refine s_Cv (ln := 3) (kd := 4) (C := "WordWright$Draft") (by decide) (by decide +kernel) rfl (l_V rfl ok55 rfl wd651 wd642 wd643 D288_154.1) (?_ : rSnd _ _ 157 _)
  refine s_Ast (t := 0) rfl q_iast rfl (by decide) D288_157 ?_
  refine s_Inc gk6 sk6 (show 6 < 8 from by decide) kc_i_1 D288_158 ?_
  exact s_Go (pc' := 99) D288_161.1 (by decide) (s_Jb rfl)
theorem P288_151 : rSnd lab M288 151 B288_151 := by
  refine s_Il gk7 (Or.inl D288_151) ?_
  refine s_I2l D288_153 ?_
  exact P288_154
theorem P288_99 : rSnd lab M288 99 B288_99 := by
  refine s_Il gk6 (Or.inl D288_99) ?_
  refine s_ic D288_101 kc_i_4 (by decide) ?_
  refine s_Ic c_ge (i_ge (tg := 164) (by decide)) D288_102.1 P288_164 (?_ : rSnd _ _ 105 _)
  refine s_Al gk1 (Or.inr ⟨1, D288_105, rfl⟩) ?_
  refine s_Il gk5 (Or.inl D288_106) ?_
  refine s_Il gk6 (Or.inl D288_108) ?_
  refine s_Cv (ln := 3) (kd := 8) (C := "WordWright$Language") (by decide) (by decide +kernel) rfl (l_V rfl ok232 rfl wd696 wd697 wd698 D288_110.1) (?_ : rSnd _ _ 113 _)
  refine s_Is sk7 (show 7 < 8 from by decide) (Or.inl D288_113) ?_
  refine s_Al gk0 (Or.inr ⟨0, D288_115, rfl⟩) ?_
  refine s_Gf (ci := 9) (r := ("WordWright$Workshop", kT9, 1)) rfl (show 0 < 1 from by decide) rfl (Or.inl wd148) (Or.inl rfl) rfl D288_116 ?_
  refine s_Gf (ci := 1) (r := ("WordWright$Draft", kT1, 12)) rfl (show 3 < 12 from by decide) rfl (Or.inl wd112) (Or.inl rfl) rfl D288_119 ?_
  refine s_Il gk4 (Or.inl D288_122) ?_
  refine s_ic D288_124 kc_i_4 (by decide) ?_
  refine s_Bin q_imul n_mul rG2_x rE2_x D288_125 ?_
  refine s_Il gk6 (Or.inl D288_126) ?_
  refine s_Bin q_iadd n_add rG2_x e_add D288_128 ?_
  refine s_Al gk0 (Or.inr ⟨0, D288_129, rfl⟩) ?_
  refine s_Gf (ci := 9) (r := ("WordWright$Workshop", kT9, 1)) rfl (show 0 < 1 from by decide) rfl (Or.inl wd148) (Or.inl rfl) rfl D288_130 ?_
  refine s_Il gk7 (Or.inl D288_133) ?_
  refine s_Al gk1 (Or.inr ⟨1, D288_135, rfl⟩) ?_
  refine s_Gf (ci := 3) (r := ("WordWright$Language", kT3, 3)) rfl (show 1 < 3 from by decide) rfl (Or.inl wd78) (Or.inl rfl) rfl D288_136 ?_
  refine s_Bin q_iand n_and g_and rE2_x D288_139 ?_
  refine s_If c_eq (fun _ => rfl) (fun _ _ => rfl) (b_eq (tg := 151) (by decide)) D288_140.1 P288_151 (?_ : rSnd _ _ 143 _)
  refine s_Il gk7 (Or.inl D288_143) ?_
  refine s_ic D288_145 kc_i_1 (by decide) ?_
  refine s_Bin q_ior n_or rG2_x rE2_x D288_146 ?_
  refine s_I2l D288_147 ?_
  exact s_Go (pc' := 154) D288_148.1 (by decide) P288_154
theorem P288_95 : rSnd lab M288 95 B288_95 := by
  refine s_Ast (t := 1) rfl q_zast rfl (by decide) D288_95 ?_
  refine s_ic D288_96 kc_i_0 (by decide) ?_
  refine s_Is sk6 (show 6 < 8 from by decide) (Or.inl D288_97) ?_
  exact P288_99
theorem P288_94 : rSnd lab M288 94 B288_94 := by
  refine s_ic D288_94 kc_i_0 (by decide) ?_
  exact P288_95
theorem P288_90 : rSnd lab M288 90 B288_90 := by
  refine s_ic D288_90 kc_i_1 (by decide) ?_
  exact s_Go (pc' := 95) D288_91.1 (by decide) P288_95
theorem P288_18 : rSnd lab M288 18 B288_18 := by
  refine s_Il gk4 (Or.inl D288_18) ?_
  refine s_Al gk0 (Or.inr ⟨0, D288_20, rfl⟩) ?_
  refine s_Gf (ci := 9) (r := ("WordWright$Workshop", kT9, 1)) rfl (show 0 < 1 from by decide) rfl (Or.inl wd148) (Or.inl rfl) rfl D288_21 ?_
  refine s_Gf (ci := 1) (r := ("WordWright$Draft", kT1, 12)) rfl (show 0 < 12 from by decide) rfl (Or.inl wd106) (Or.inl rfl) rfl D288_24 ?_
  refine s_Ic c_ge (i_ge (tg := 170) (by decide)) D288_27.1 P288_170 (?_ : rSnd _ _ 30 _)
  refine s_Il gk4 (Or.inl D288_30) ?_
  refine s_si D288_32 kc_s_10240 (by decide) ?_
  refine s_Ic c_ge (i_ge (tg := 170) (by decide)) D288_35.1 P288_170 (?_ : rSnd _ _ 38 _)
  refine s_Al gk0 (Or.inr ⟨0, D288_38, rfl⟩) ?_
  refine s_Gf (ci := 9) (r := ("WordWright$Workshop", kT9, 1)) rfl (show 0 < 1 from by decide) rfl (Or.inl wd148) (Or.inl rfl) rfl D288_39 ?_
  refine s_Gf (ci := 1) (r := ("WordWright$Draft", kT1, 12)) rfl (show 1 < 12 from by decide) rfl (Or.inl wd108) (Or.inl rfl) rfl D288_42 ?_
  refine s_Il gk4 (Or.inl D288_45) ?_
  refine s_Ald (t := 2) (ty := .long) rfl q_lald rfl D288_47 ?_
  refine s_L2i D288_48 ?_
  refine s_si D288_49 kc_s_1023 (by decide) ?_
  refine s_Bin q_iand n_and g_and rE2_x D288_52 ?_
  refine s_Is sk5 (show 5 < 8 from by decide) (Or.inl D288_53) ?_
  refine s_Al gk0 (Or.inr ⟨0, D288_55, rfl⟩) ?_
  refine s_Gf (ci := 9) (r := ("WordWright$Workshop", kT9, 1)) rfl (show 0 < 1 from by decide) rfl (Or.inl wd148) (Or.inl rfl) rfl D288_56 ?_
  refine s_Gf (ci := 1) (r := ("WordWright$Draft", kT1, 12)) rfl (show 2 < 12 from by decide) rfl (Or.inl wd110) (Or.inl rfl) rfl D288_59 ?_
  refine s_Il gk4 (Or.inl D288_62) ?_
  refine s_Al gk0 (Or.inr ⟨0, D288_64, rfl⟩) ?_
  refine s_Gf (ci := 9) (r := ("WordWright$Workshop", kT9, 1)) rfl (show 0 < 1 from by decide) rfl (Or.inl wd148) (Or.inl rfl) rfl D288_65 ?_
  refine s_Gf (ci := 1) (r := ("WordWright$Draft", kT1, 12)) rfl (show 1 < 12 from by decide) rfl (Or.inl wd108) (Or.inl rfl) rfl D288_68 ?_
  refine s_Il gk4 (Or.inl D288_71) ?_
  refine s_Ald (t := 2) (ty := .long) rfl q_lald rfl D288_73 ?_
  refine s_Il gk3 (Or.inr ⟨3, D288_74, rfl⟩) ?_
  refine s_I2l D288_75 ?_
  refine s_Lcmp D288_76 ?_
  refine s_If c_ge (fun _ => rfl) (fun _ _ => rfl) (b_ge (tg := 90) (by decide)) D288_77.1 P288_90 (?_ : rSnd _ _ 80 _)
  refine s_Il gk5 (Or.inl D288_80) ?_
  refine s_Al gk1 (Or.inr ⟨1, D288_82, rfl⟩) ?_
  refine s_Gf (ci := 3) (r := ("WordWright$Language", kT3, 3)) rfl (show 1 < 3 from by decide) rfl (Or.inl wd78) (Or.inl rfl) rfl D288_83 ?_
  refine s_Bin q_iand n_and g_and rE2_x D288_86 ?_
  refine s_If c_eq (fun _ => rfl) (fun _ _ => rfl) (b_eq (tg := 94) (by decide)) D288_87.1 P288_94 (?_ : rSnd _ _ 90 _)
  exact P288_90
theorem P288_0 : rSnd lab M288 0 B288_0 := by
  refine s_Ent ?_
  refine s_si D288_0 kc_s_1024 (by decide) ?_
  refine s_Is sk3 (show 3 < 8 from by decide) (Or.inr ⟨3, D288_3, rfl⟩) ?_
  refine s_Al gk0 (Or.inr ⟨0, D288_4, rfl⟩) ?_
  refine s_Gf (ci := 9) (r := ("WordWright$Workshop", kT9, 1)) rfl (show 0 < 1 from by decide) rfl (Or.inl wd148) (Or.inl rfl) rfl D288_5 ?_
  refine s_Il gk3 (Or.inr ⟨3, D288_8, rfl⟩) ?_
  refine s_ic D288_9 kc_i_1 (by decide) ?_
  refine s_Bin q_ior n_or rG2_x rE2_x D288_10 ?_
  refine s_I2l D288_11 ?_
  refine s_Cv (ln := 3) (kd := 4) (C := "WordWright$Draft") (by decide) (by decide +kernel) rfl (l_V rfl ok49 rfl wd635 wd636 wd637 D288_12.1) (?_ : rSnd _ _ 15 _)
  refine s_ic D288_15 kc_i_0 (by decide) ?_
  refine s_Is sk4 (show 4 < 8 from by decide) (Or.inl D288_16) ?_
  exact P288_18
theorem D289_0 : rDec M289 0 (.aload_n 0) 1 1 := ⟨by decide +kernel, rfl⟩
theorem D289_1 : rDec M289 1 (.getfield 12) 3 4 := ⟨by decide +kernel, rfl⟩
theorem D289_4 : rDec M289 4 (.aload_n 1) 1 5 := ⟨by decide +kernel, rfl⟩
theorem D289_5 : rDec M289 5 (.getfield 39) 3 8 := ⟨by decide +kernel, rfl⟩
theorem D289_8 : rDec M289 8 (.i2l) 1 9 := ⟨by decide +kernel, rfl⟩
theorem D289_9 : rDec M289 9 (.invokevirtual 24) 3 12 := ⟨by decide +kernel, rfl⟩
theorem D289_12 : rDec M289 12 (.iconst 0) 1 13 := ⟨by decide +kernel, rfl⟩
theorem D289_13 : rDec M289 13 (.istore_n 3) 1 14 := ⟨by decide +kernel, rfl⟩
theorem D289_14 : rDec M289 14 (.iload_n 3) 1 15 := ⟨by decide +kernel, rfl⟩
theorem D289_15 : rDec M289 15 (.aload_n 0) 1 16 := ⟨by decide +kernel, rfl⟩
theorem D289_16 : rDec M289 16 (.getfield 12) 3 19 := ⟨by decide +kernel, rfl⟩
theorem D289_19 : rDec M289 19 (.getfield 28) 3 22 := ⟨by decide +kernel, rfl⟩
theorem D289_22 : rDec M289 22 (.if_icmp .ge 94) 3 25 := ⟨by decide +kernel, rfl⟩
theorem D289_25 : rDec M289 25 (.iload_n 3) 1 26 := ⟨by decide +kernel, rfl⟩
theorem D289_26 : rDec M289 26 (.sipush 10240) 3 29 := ⟨by decide +kernel, rfl⟩
theorem D289_29 : rDec M289 29 (.if_icmp .ge 87) 3 32 := ⟨by decide +kernel, rfl⟩
theorem D289_32 : rDec M289 32 (.aload_n 0) 1 33 := ⟨by decide +kernel, rfl⟩
theorem D289_33 : rDec M289 33 (.getfield 12) 3 36 := ⟨by decide +kernel, rfl⟩
theorem D289_36 : rDec M289 36 (.getfield 32) 3 39 := ⟨by decide +kernel, rfl⟩
theorem D289_39 : rDec M289 39 (.iload_n 3) 1 40 := ⟨by decide +kernel, rfl⟩
theorem D289_40 : rDec M289 40 (.laload) 1 41 := ⟨by decide +kernel, rfl⟩
theorem D289_41 : rDec M289 41 (.l2i) 1 42 := ⟨by decide +kernel, rfl⟩
theorem D289_42 : rDec M289 42 (.istore 4) 2 44 := ⟨by decide +kernel, rfl⟩
theorem D289_44 : rDec M289 44 (.aload_n 0) 1 45 := ⟨by decide +kernel, rfl⟩
theorem D289_45 : rDec M289 45 (.getfield 12) 3 48 := ⟨by decide +kernel, rfl⟩
theorem D289_48 : rDec M289 48 (.getfield 36) 3 51 := ⟨by decide +kernel, rfl⟩
theorem D289_51 : rDec M289 51 (.iload_n 3) 1 52 := ⟨by decide +kernel, rfl⟩
theorem D289_52 : rDec M289 52 (.iload 4) 2 54 := ⟨by decide +kernel, rfl⟩
theorem D289_54 : rDec M289 54 (.iconst 1) 1 55 := ⟨by decide +kernel, rfl⟩
theorem D289_55 : rDec M289 55 (.iand) 1 56 := ⟨by decide +kernel, rfl⟩
theorem D289_56 : rDec M289 56 (.ifCond .eq 7) 3 59 := ⟨by decide +kernel, rfl⟩
theorem D289_59 : rDec M289 59 (.iconst 1) 1 60 := ⟨by decide +kernel, rfl⟩
theorem D289_60 : rDec M289 60 (.goto 4) 3 63 := ⟨by decide +kernel, rfl⟩
theorem D289_63 : rDec M289 63 (.iconst 0) 1 64 := ⟨by decide +kernel, rfl⟩
theorem D289_64 : rDec M289 64 (.bastore) 1 65 := ⟨by decide +kernel, rfl⟩
theorem D289_65 : rDec M289 65 (.iconst 0) 1 66 := ⟨by decide +kernel, rfl⟩
theorem D289_66 : rDec M289 66 (.istore 5) 2 68 := ⟨by decide +kernel, rfl⟩
theorem D289_68 : rDec M289 68 (.iload 5) 2 70 := ⟨by decide +kernel, rfl⟩
theorem D289_70 : rDec M289 70 (.iconst 4) 1 71 := ⟨by decide +kernel, rfl⟩
theorem D289_71 : rDec M289 71 (.if_icmp .ge 39) 3 74 := ⟨by decide +kernel, rfl⟩
theorem D289_74 : rDec M289 74 (.aload_n 0) 1 75 := ⟨by decide +kernel, rfl⟩
theorem D289_75 : rDec M289 75 (.getfield 12) 3 78 := ⟨by decide +kernel, rfl⟩
theorem D289_78 : rDec M289 78 (.getfield 49) 3 81 := ⟨by decide +kernel, rfl⟩
theorem D289_81 : rDec M289 81 (.iload_n 3) 1 82 := ⟨by decide +kernel, rfl⟩
theorem D289_82 : rDec M289 82 (.iconst 4) 1 83 := ⟨by decide +kernel, rfl⟩
theorem D289_83 : rDec M289 83 (.imul) 1 84 := ⟨by decide +kernel, rfl⟩
theorem D289_84 : rDec M289 84 (.iload 5) 2 86 := ⟨by decide +kernel, rfl⟩
theorem D289_86 : rDec M289 86 (.iadd) 1 87 := ⟨by decide +kernel, rfl⟩
theorem D289_87 : rDec M289 87 (.aload_n 0) 1 88 := ⟨by decide +kernel, rfl⟩
theorem D289_88 : rDec M289 88 (.getfield 12) 3 91 := ⟨by decide +kernel, rfl⟩
theorem D289_91 : rDec M289 91 (.aload_n 1) 1 92 := ⟨by decide +kernel, rfl⟩
theorem D289_92 : rDec M289 92 (.iload 4) 2 94 := ⟨by decide +kernel, rfl⟩
theorem D289_94 : rDec M289 94 (.iload 5) 2 96 := ⟨by decide +kernel, rfl⟩
theorem D289_96 : rDec M289 96 (.invokevirtual 65) 3 99 := ⟨by decide +kernel, rfl⟩
theorem D289_99 : rDec M289 99 (.i2l) 1 100 := ⟨by decide +kernel, rfl⟩
theorem D289_100 : rDec M289 100 (.invokevirtual 53) 3 103 := ⟨by decide +kernel, rfl⟩
theorem D289_103 : rDec M289 103 (.iastore) 1 104 := ⟨by decide +kernel, rfl⟩
theorem D289_104 : rDec M289 104 (.iinc 5 1) 3 107 := ⟨by decide +kernel, rfl⟩
theorem D289_107 : rDec M289 107 (.goto (-39)) 3 110 := ⟨by decide +kernel, rfl⟩
theorem D289_110 : rDec M289 110 (.iinc 3 1) 3 113 := ⟨by decide +kernel, rfl⟩
theorem D289_113 : rDec M289 113 (.goto (-99)) 3 116 := ⟨by decide +kernel, rfl⟩
theorem D289_116 : rDec M289 116 (.aload_n 0) 1 117 := ⟨by decide +kernel, rfl⟩
theorem D289_117 : rDec M289 117 (.getfield 12) 3 120 := ⟨by decide +kernel, rfl⟩
theorem D289_120 : rDec M289 120 (.aload_n 2) 1 121 := ⟨by decide +kernel, rfl⟩
theorem D289_121 : rDec M289 121 (.invokevirtual 57) 3 124 := ⟨by decide +kernel, rfl⟩
theorem D289_124 : rDec M289 124 (.ireturn) 1 125 := ⟨by decide +kernel, rfl⟩
theorem P289_116 : rSnd lab M289 116 B289_116 := by
  refine s_Al gk0 (Or.inr ⟨0, D289_116, rfl⟩) ?_
  refine s_Gf (ci := 9) (r := ("WordWright$Workshop", kT9, 1)) rfl (show 0 < 1 from by decide) rfl (Or.inl wd148) (Or.inl rfl) rfl D289_117 ?_
  refine s_Al gk2 (Or.inr ⟨2, D289_120, rfl⟩) ?_
  refine s_Cv (ln := 3) (kd := 4) (C := "WordWright$Draft") (by decide) (by decide +kernel) rfl (l_V rfl ok52 rfl wd652 wd653 wd654 D289_121.1) (?_ : rSnd _ _ 124 _)
  exact s_Ri (Or.inr ⟨rfl, by decide⟩) D289_124.1
theorem P289_110 : rSnd lab M289 110 B289_110 := by
  refine s_Inc gk3 sk3 (show 3 < 6 from by decide) kc_i_1 D289_110 ?_
  exact s_Go (pc' := 14) D289_113.1 (by decide) (s_Jb rfl)
theorem P289_68 : rSnd lab M289 68 B289_68 := by
  refine s_Il gk5 (Or.inl D289_68) ?_
  refine s_ic D289_70 kc_i_4 (by decide) ?_
  refine s_Ic c_ge (i_ge (tg := 110) (by decide)) D289_71.1 P289_110 (?_ : rSnd _ _ 74 _)
  refine s_Al gk0 (Or.inr ⟨0, D289_74, rfl⟩) ?_
  refine s_Gf (ci := 9) (r := ("WordWright$Workshop", kT9, 1)) rfl (show 0 < 1 from by decide) rfl (Or.inl wd148) (Or.inl rfl) rfl D289_75 ?_
  refine s_Gf (ci := 1) (r := ("WordWright$Draft", kT1, 12)) rfl (show 3 < 12 from by decide) rfl (Or.inl wd112) (Or.inl rfl) rfl D289_78 ?_
  refine s_Il gk3 (Or.inr ⟨3, D289_81, rfl⟩) ?_
  refine s_ic D289_82 kc_i_4 (by decide) ?_
  refine s_Bin q_imul n_mul rG2_x rE2_x D289_83 ?_
  refine s_Il gk5 (Or.inl D289_84) ?_
  refine s_Bin q_iadd n_add rG2_x e_add D289_86 ?_
  refine s_Al gk0 (Or.inr ⟨0, D289_87, rfl⟩) ?_
  refine s_Gf (ci := 9) (r := ("WordWright$Workshop", kT9, 1)) rfl (show 0 < 1 from by decide) rfl (Or.inl wd148) (Or.inl rfl) rfl D289_88 ?_
  refine s_Al gk1 (Or.inr ⟨1, D289_91, rfl⟩) ?_
  refine s_Il gk4 (Or.inl D289_92) ?_
  refine s_Il gk5 (Or.inl D289_94) ?_
  refine s_Cv (ln := 3) (kd := 8) (C := "WordWright$Language") (by decide) (by decide +kernel) rfl (l_V rfl ok233 rfl wd1300 wd803 wd804 D289_96.1) (?_ : rSnd _ _ 99 _)
  refine s_I2l D289_99 ?_
  refine s_Cv (ln := 3) (kd := 4) (C := "WordWright$Draft") (by decide) (by decide +kernel) rfl (l_V rfl ok55 rfl wd651 wd642 wd643 D289_100.1) (?_ : rSnd _ _ 103 _)
  refine s_Ast (t := 0) rfl q_iast rfl (by decide) D289_103 ?_
  refine s_Inc gk5 sk5 (show 5 < 6 from by decide) kc_i_1 D289_104 ?_
  exact s_Go (pc' := 68) D289_107.1 (by decide) (s_Jb rfl)
theorem P289_64 : rSnd lab M289 64 B289_64 := by
  refine s_Ast (t := 1) rfl q_zast rfl (by decide) D289_64 ?_
  refine s_ic D289_65 kc_i_0 (by decide) ?_
  refine s_Is sk5 (show 5 < 6 from by decide) (Or.inl D289_66) ?_
  exact P289_68
theorem P289_63 : rSnd lab M289 63 B289_63 := by
  refine s_ic D289_63 kc_i_0 (by decide) ?_
  exact P289_64
theorem P289_14 : rSnd lab M289 14 B289_14 := by
  refine s_Il gk3 (Or.inr ⟨3, D289_14, rfl⟩) ?_
  refine s_Al gk0 (Or.inr ⟨0, D289_15, rfl⟩) ?_
  refine s_Gf (ci := 9) (r := ("WordWright$Workshop", kT9, 1)) rfl (show 0 < 1 from by decide) rfl (Or.inl wd148) (Or.inl rfl) rfl D289_16 ?_
  refine s_Gf (ci := 1) (r := ("WordWright$Draft", kT1, 12)) rfl (show 0 < 12 from by decide) rfl (Or.inl wd106) (Or.inl rfl) rfl D289_19 ?_
  refine s_Ic c_ge (i_ge (tg := 116) (by decide)) D289_22.1 P289_116 (?_ : rSnd _ _ 25 _)
  refine s_Il gk3 (Or.inr ⟨3, D289_25, rfl⟩) ?_
  refine s_si D289_26 kc_s_10240 (by decide) ?_
  refine s_Ic c_ge (i_ge (tg := 116) (by decide)) D289_29.1 P289_116 (?_ : rSnd _ _ 32 _)
  refine s_Al gk0 (Or.inr ⟨0, D289_32, rfl⟩) ?_
  refine s_Gf (ci := 9) (r := ("WordWright$Workshop", kT9, 1)) rfl (show 0 < 1 from by decide) rfl (Or.inl wd148) (Or.inl rfl) rfl D289_33 ?_
  refine s_Gf (ci := 1) (r := ("WordWright$Draft", kT1, 12)) rfl (show 1 < 12 from by decide) rfl (Or.inl wd108) (Or.inl rfl) rfl D289_36 ?_
  refine s_Il gk3 (Or.inr ⟨3, D289_39, rfl⟩) ?_
  refine s_Ald (t := 2) (ty := .long) rfl q_lald rfl D289_40 ?_
  refine s_L2i D289_41 ?_
  refine s_Is sk4 (show 4 < 6 from by decide) (Or.inl D289_42) ?_
  refine s_Al gk0 (Or.inr ⟨0, D289_44, rfl⟩) ?_
  refine s_Gf (ci := 9) (r := ("WordWright$Workshop", kT9, 1)) rfl (show 0 < 1 from by decide) rfl (Or.inl wd148) (Or.inl rfl) rfl D289_45 ?_
  refine s_Gf (ci := 1) (r := ("WordWright$Draft", kT1, 12)) rfl (show 2 < 12 from by decide) rfl (Or.inl wd110) (Or.inl rfl) rfl D289_48 ?_
  refine s_Il gk3 (Or.inr ⟨3, D289_51, rfl⟩) ?_
  refine s_Il gk4 (Or.inl D289_52) ?_
  refine s_ic D289_54 kc_i_1 (by decide) ?_
  refine s_Bin q_iand n_and g_and rE2_x D289_55 ?_
  refine s_If c_eq (fun _ => rfl) (fun _ _ => rfl) (b_eq (tg := 63) (by decide)) D289_56.1 P289_63 (?_ : rSnd _ _ 59 _)
  refine s_ic D289_59 kc_i_1 (by decide) ?_
  exact s_Go (pc' := 64) D289_60.1 (by decide) P289_64
theorem P289_0 : rSnd lab M289 0 B289_0 := by
  refine s_Ent ?_
  refine s_Al gk0 (Or.inr ⟨0, D289_0, rfl⟩) ?_
  refine s_Gf (ci := 9) (r := ("WordWright$Workshop", kT9, 1)) rfl (show 0 < 1 from by decide) rfl (Or.inl wd148) (Or.inl rfl) rfl D289_1 ?_
  refine s_Al gk1 (Or.inr ⟨1, D289_4, rfl⟩) ?_
  refine s_Gf (ci := 3) (r := ("WordWright$Language", kT3, 3)) rfl (show 1 < 3 from by decide) rfl (Or.inl wd78) (Or.inl rfl) rfl D289_5 ?_
  refine s_I2l D289_8 ?_
  refine s_Cv (ln := 3) (kd := 4) (C := "WordWright$Draft") (by decide) (by decide +kernel) rfl (l_V rfl ok49 rfl wd635 wd636 wd637 D289_9.1) (?_ : rSnd _ _ 12 _)
  refine s_ic D289_12 kc_i_0 (by decide) ?_
  refine s_Is sk3 (show 3 < 6 from by decide) (Or.inr ⟨3, D289_13, rfl⟩) ?_
  exact P289_14
theorem D290_0 : rDec M290 0 (.iload_n 0) 1 1 := ⟨by decide +kernel, rfl⟩
theorem D290_1 : rDec M290 1 (.invokestatic 26) 3 4 := ⟨by decide +kernel, rfl⟩
theorem D290_4 : rDec M290 4 (.iconst 2) 1 5 := ⟨by decide +kernel, rfl⟩
theorem D290_5 : rDec M290 5 (.isub) 1 6 := ⟨by decide +kernel, rfl⟩
theorem D290_6 : rDec M290 6 (.iconst 3) 1 7 := ⟨by decide +kernel, rfl⟩
theorem D290_7 : rDec M290 7 (.idiv) 1 8 := ⟨by decide +kernel, rfl⟩
theorem D290_8 : rDec M290 8 (.ireturn) 1 9 := ⟨by decide +kernel, rfl⟩
theorem P290_0 : rSnd lab M290 0 B290_0 := by
  refine s_Ent ?_
  refine s_Il gk0 (Or.inr ⟨0, D290_0, rfl⟩) ?_
  refine s_Cs (id := 423) rfl (l_S rfl ok292 rfl wd243 wd244 D290_1.1) (?_ : rSnd _ _ 4 _)
  refine s_ic D290_4 kc_i_2 (by decide) ?_
  refine s_Bin q_isub n_sub rG2_x rE2_x D290_5 ?_
  refine s_ic D290_6 kc_i_3 (by decide) ?_
  refine s_Div q_idiv n_div g_div D290_7 ?_
  exact s_Ri (Or.inl rfl) D290_8.1
theorem D291_0 : rDec M291 0 (.aload_n 0) 1 1 := ⟨by decide +kernel, rfl⟩
theorem D291_1 : rDec M291 1 (.invokespecial 3) 3 4 := ⟨by decide +kernel, rfl⟩
theorem D291_4 : rDec M291 4 (.aload_n 0) 1 5 := ⟨by decide +kernel, rfl⟩
theorem D291_5 : rDec M291 5 (.bipush 6) 2 7 := ⟨by decide +kernel, rfl⟩
theorem D291_7 : rDec M291 7 (.invokestatic 9) 3 10 := ⟨by decide +kernel, rfl⟩
theorem D291_10 : rDec M291 10 (.newarray .int) 2 12 := ⟨by decide +kernel, rfl⟩
theorem D291_12 : rDec M291 12 (.putfield 15) 3 15 := ⟨by decide +kernel, rfl⟩
theorem D291_15 : rDec M291 15 (.return_) 1 16 := ⟨by decide +kernel, rfl⟩
theorem P291_0 : rSnd lab M291 0 B291_0 := by
  refine s_Ent ?_
  refine s_Al gk0 (Or.inr ⟨0, D291_0, rfl⟩) ?_
  refine s_Oi rfl wd239 wd62 wd63 D291_1 ?_
  refine s_Al gk0 (Or.inr ⟨0, D291_4, rfl⟩) ?_
  refine s_bi D291_5 kc_b_6 (by decide) ?_
  refine s_Cs (id := 421) rfl (l_S rfl ok290 rfl wd240 wd241 D291_7.1) (?_ : rSnd _ _ 10 _)
  refine s_Nwa (t := 0) rfl (q_newa (at_ := .int) (Or.inl rfl)) (fun ht _ => ht _ wd91) D291_10 ?_
  refine s_Pf (ci := 10) (r := ("WordWright$Writings", kT10, 1)) rfl (show 0 < 1 from by decide) rfl (Or.inr ⟨rfl, wd246, rfl, rfl⟩) (Or.inl rfl) rfl (by decide) D291_12 ?_
  exact s_Rv rfl D291_15.1
theorem D292_0 : rDec M292 0 (.iconst 2) 1 1 := ⟨by decide +kernel, rfl⟩
theorem D292_1 : rDec M292 1 (.iconst 2) 1 2 := ⟨by decide +kernel, rfl⟩
theorem D292_2 : rDec M292 2 (.iload_n 0) 1 3 := ⟨by decide +kernel, rfl⟩
theorem D292_3 : rDec M292 3 (.imul) 1 4 := ⟨by decide +kernel, rfl⟩
theorem D292_4 : rDec M292 4 (.ishl) 1 5 := ⟨by decide +kernel, rfl⟩
theorem D292_5 : rDec M292 5 (.ireturn) 1 6 := ⟨by decide +kernel, rfl⟩
theorem P292_0 : rSnd lab M292 0 B292_0 := by
  refine s_Ent ?_
  refine s_ic D292_0 kc_i_2 (by decide) ?_
  refine s_ic D292_1 kc_i_2 (by decide) ?_
  refine s_Il gk0 (Or.inr ⟨0, D292_2, rfl⟩) ?_
  refine s_Bin q_imul n_mul rG2_x rE2_x D292_3 ?_
  refine s_Bin q_ishl n_shl rG2_x rE2_x D292_4 ?_
  exact s_Ri (Or.inl rfl) D292_5.1
