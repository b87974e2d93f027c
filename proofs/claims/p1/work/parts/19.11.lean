-- ===== rows and blocks, 11 =====
theorem D252_0 : rDec M252 0 (.aload_n 0) 1 1 := ⟨by decide +kernel, rfl⟩
theorem D252_1 : rDec M252 1 (.getfield 28) 3 4 := ⟨by decide +kernel, rfl⟩
theorem D252_4 : rDec M252 4 (.iload_n 1) 1 5 := ⟨by decide +kernel, rfl⟩
theorem D252_5 : rDec M252 5 (.ishr) 1 6 := ⟨by decide +kernel, rfl⟩
theorem D252_6 : rDec M252 6 (.iconst 1) 1 7 := ⟨by decide +kernel, rfl⟩
theorem D252_7 : rDec M252 7 (.iand) 1 8 := ⟨by decide +kernel, rfl⟩
theorem D252_8 : rDec M252 8 (.ifCond .eq 7) 3 11 := ⟨by decide +kernel, rfl⟩
theorem D252_11 : rDec M252 11 (.iconst 1) 1 12 := ⟨by decide +kernel, rfl⟩
theorem D252_12 : rDec M252 12 (.goto 4) 3 15 := ⟨by decide +kernel, rfl⟩
theorem D252_16 : rDec M252 16 (.ireturn) 1 17 := ⟨by decide +kernel, rfl⟩
theorem P252_16 : rSnd lab M252 16 B252_16 := by
  exact s_Ri (Or.inr ⟨rfl, by decide⟩) D252_16.1
theorem P252_0 : rSnd lab M252 0 B252_0 := by
  refine s_Ent ?_
  refine s_Al gk0 (Or.inr ⟨0, D252_0, rfl⟩) ?_
  refine s_Gf (ci := 4) (r := ("WordWright$Machine", kT4, 6)) rfl (show 1 < 6 from by decide) rfl (Or.inl wd170) (Or.inl rfl) rfl D252_1 ?_
  refine s_Il gk1 (Or.inr ⟨1, D252_4, rfl⟩) ?_
  refine s_Bin q_ishr n_shr g_shr rE2_x D252_5 ?_
  refine s_ic D252_6 kc_i_1 (by decide) ?_
  refine s_Bin q_iand n_and g_and rE2_x D252_7 ?_
  refine s_If c_eq (fun _ => rfl) (fun _ _ => rfl) (b_eq (tg := 15) (by decide)) D252_8.1 rSnd_none (?_ : rSnd _ _ 11 _)
  refine s_ic D252_11 kc_i_1 (by decide) ?_
  exact s_Go (pc' := 16) D252_12.1 (by decide) P252_16
theorem D253_0 : rDec M253 0 (.aload_n 0) 1 1 := ⟨by decide +kernel, rfl⟩
theorem D253_1 : rDec M253 1 (.getfield 9) 3 4 := ⟨by decide +kernel, rfl⟩
theorem D253_4 : rDec M253 4 (.aload_n 0) 1 5 := ⟨by decide +kernel, rfl⟩
theorem D253_5 : rDec M253 5 (.getfield 45) 3 8 := ⟨by decide +kernel, rfl⟩
theorem D253_8 : rDec M253 8 (.iload_n 1) 1 9 := ⟨by decide +kernel, rfl⟩
theorem D253_9 : rDec M253 9 (.iastore) 1 10 := ⟨by decide +kernel, rfl⟩
theorem D253_10 : rDec M253 10 (.aload_n 0) 1 11 := ⟨by decide +kernel, rfl⟩
theorem D253_11 : rDec M253 11 (.getfield 15) 3 14 := ⟨by decide +kernel, rfl⟩
theorem D253_14 : rDec M253 14 (.aload_n 0) 1 15 := ⟨by decide +kernel, rfl⟩
theorem D253_15 : rDec M253 15 (.getfield 45) 3 18 := ⟨by decide +kernel, rfl⟩
theorem D253_18 : rDec M253 18 (.iload_n 2) 1 19 := ⟨by decide +kernel, rfl⟩
theorem D253_19 : rDec M253 19 (.iastore) 1 20 := ⟨by decide +kernel, rfl⟩
theorem D253_20 : rDec M253 20 (.aload_n 0) 1 21 := ⟨by decide +kernel, rfl⟩
theorem D253_21 : rDec M253 21 (.getfield 18) 3 24 := ⟨by decide +kernel, rfl⟩
theorem D253_24 : rDec M253 24 (.aload_n 0) 1 25 := ⟨by decide +kernel, rfl⟩
theorem D253_25 : rDec M253 25 (.getfield 45) 3 28 := ⟨by decide +kernel, rfl⟩
theorem D253_28 : rDec M253 28 (.iload_n 3) 1 29 := ⟨by decide +kernel, rfl⟩
theorem D253_29 : rDec M253 29 (.iastore) 1 30 := ⟨by decide +kernel, rfl⟩
theorem D253_30 : rDec M253 30 (.aload_n 0) 1 31 := ⟨by decide +kernel, rfl⟩
theorem D253_31 : rDec M253 31 (.getfield 21) 3 34 := ⟨by decide +kernel, rfl⟩
theorem D253_34 : rDec M253 34 (.aload_n 0) 1 35 := ⟨by decide +kernel, rfl⟩
theorem D253_35 : rDec M253 35 (.getfield 45) 3 38 := ⟨by decide +kernel, rfl⟩
theorem D253_38 : rDec M253 38 (.iload 4) 2 40 := ⟨by decide +kernel, rfl⟩
theorem D253_40 : rDec M253 40 (.iastore) 1 41 := ⟨by decide +kernel, rfl⟩
theorem D253_41 : rDec M253 41 (.aload_n 0) 1 42 := ⟨by decide +kernel, rfl⟩
theorem D253_42 : rDec M253 42 (.dup) 1 43 := ⟨by decide +kernel, rfl⟩
theorem D253_43 : rDec M253 43 (.getfield 45) 3 46 := ⟨by decide +kernel, rfl⟩
theorem D253_46 : rDec M253 46 (.iconst 1) 1 47 := ⟨by decide +kernel, rfl⟩
theorem D253_47 : rDec M253 47 (.iadd) 1 48 := ⟨by decide +kernel, rfl⟩
theorem D253_48 : rDec M253 48 (.putfield 45) 3 51 := ⟨by decide +kernel, rfl⟩
theorem D253_51 : rDec M253 51 (.aload_n 0) 1 52 := ⟨by decide +kernel, rfl⟩
theorem D253_52 : rDec M253 52 (.invokevirtual 49) 3 55 := ⟨by decide +kernel, rfl⟩
theorem D253_55 : rDec M253 55 (.aload_n 0) 1 56 := ⟨by decide +kernel, rfl⟩
theorem D253_56 : rDec M253 56 (.getfield 45) 3 59 := ⟨by decide +kernel, rfl⟩
theorem D253_59 : rDec M253 59 (.iconst 1) 1 60 := ⟨by decide +kernel, rfl⟩
theorem D253_60 : rDec M253 60 (.isub) 1 61 := ⟨by decide +kernel, rfl⟩
theorem D253_61 : rDec M253 61 (.ireturn) 1 62 := ⟨by decide +kernel, rfl⟩
theorem P253_0 : rSnd lab M253 0 B253_0 := by
  refine s_Ent ?_
  refine s_Al gk0 (Or.inr ⟨0, D253_0, rfl⟩) ?_
  refine s_Gf (ci := 5) (r := ("WordWright$Program", kT5, 12)) rfl (show 1 < 12 from by decide) rfl (Or.inl wd384) (Or.inl rfl) rfl D253_1 ?_
  refine s_Al gk0 (Or.inr ⟨0, D253_4, rfl⟩) ?_
  refine s_Gf (ci := 5) (r := ("WordWright$Program", kT5, 12)) rfl (show 0 < 12 from by decide) rfl (Or.inl wd382) (Or.inl rfl) rfl D253_5 ?_
  refine s_Il gk1 (Or.inr ⟨1, D253_8, rfl⟩) ?_
  refine s_Ast (t := 0) rfl q_iast rfl (by decide) D253_9 ?_
  refine s_Al gk0 (Or.inr ⟨0, D253_10, rfl⟩) ?_
  refine s_Gf (ci := 5) (r := ("WordWright$Program", kT5, 12)) rfl (show 2 < 12 from by decide) rfl (Or.inl wd386) (Or.inl rfl) rfl D253_11 ?_
  refine s_Al gk0 (Or.inr ⟨0, D253_14, rfl⟩) ?_
  refine s_Gf (ci := 5) (r := ("WordWright$Program", kT5, 12)) rfl (show 0 < 12 from by decide) rfl (Or.inl wd382) (Or.inl rfl) rfl D253_15 ?_
  refine s_Il gk2 (Or.inr ⟨2, D253_18, rfl⟩) ?_
  refine s_Ast (t := 0) rfl q_iast rfl (by decide) D253_19 ?_
  refine s_Al gk0 (Or.inr ⟨0, D253_20, rfl⟩) ?_
  refine s_Gf (ci := 5) (r := ("WordWright$Program", kT5, 12)) rfl (show 3 < 12 from by decide) rfl (Or.inl wd388) (Or.inl rfl) rfl D253_21 ?_
  refine s_Al gk0 (Or.inr ⟨0, D253_24, rfl⟩) ?_
  refine s_Gf (ci := 5) (r := ("WordWright$Program", kT5, 12)) rfl (show 0 < 12 from by decide) rfl (Or.inl wd382) (Or.inl rfl) rfl D253_25 ?_
  refine s_Il gk3 (Or.inr ⟨3, D253_28, rfl⟩) ?_
  refine s_Ast (t := 0) rfl q_iast rfl (by decide) D253_29 ?_
  refine s_Al gk0 (Or.inr ⟨0, D253_30, rfl⟩) ?_
  refine s_Gf (ci := 5) (r := ("WordWright$Program", kT5, 12)) rfl (show 4 < 12 from by decide) rfl (Or.inl wd390) (Or.inl rfl) rfl D253_31 ?_
  refine s_Al gk0 (Or.inr ⟨0, D253_34, rfl⟩) ?_
  refine s_Gf (ci := 5) (r := ("WordWright$Program", kT5, 12)) rfl (show 0 < 12 from by decide) rfl (Or.inl wd382) (Or.inl rfl) rfl D253_35 ?_
  refine s_Il gk4 (Or.inl D253_38) ?_
  refine s_Ast (t := 0) rfl q_iast rfl (by decide) D253_40 ?_
  refine s_Al gk0 (Or.inr ⟨0, D253_41, rfl⟩) ?_
  refine s_Dup D253_42 ?_
  refine s_Gf (ci := 5) (r := ("WordWright$Program", kT5, 12)) rfl (show 0 < 12 from by decide) rfl (Or.inl wd382) (Or.inl rfl) rfl D253_43 ?_
  refine s_ic D253_46 kc_i_1 (by decide) ?_
  refine s_Bin q_iadd n_add rG2_x e_add D253_47 ?_
  refine s_Pf (ci := 5) (r := ("WordWright$Program", kT5, 12)) rfl (show 0 < 12 from by decide) rfl (Or.inl ⟨rfl, Or.inl wd382⟩) (Or.inl rfl) rfl (by decide) D253_48 ?_
  refine s_Al gk0 (Or.inr ⟨0, D253_51, rfl⟩) ?_
  refine s_Cv (ln := 3) (kd := 12) (C := "WordWright$Program") (by decide) (by decide +kernel) rfl (l_V rfl ok255 rfl wd1625 wd595 wd596 D253_52.1) (?_ : rSnd _ _ 55 _)
  refine s_Al gk0 (Or.inr ⟨0, D253_55, rfl⟩) ?_
  refine s_Gf (ci := 5) (r := ("WordWright$Program", kT5, 12)) rfl (show 0 < 12 from by decide) rfl (Or.inl wd382) (Or.inl rfl) rfl D253_56 ?_
  refine s_ic D253_59 kc_i_1 (by decide) ?_
  refine s_Bin q_isub n_sub rG2_x rE2_x D253_60 ?_
  exact s_Ri (Or.inl rfl) D253_61.1
theorem D254_0 : rDec M254 0 (.iconst 0) 1 1 := ⟨by decide +kernel, rfl⟩
theorem D254_1 : rDec M254 1 (.istore_n 1) 1 2 := ⟨by decide +kernel, rfl⟩
theorem D254_2 : rDec M254 2 (.iload_n 1) 1 3 := ⟨by decide +kernel, rfl⟩
theorem D254_3 : rDec M254 3 (.bipush 10) 2 5 := ⟨by decide +kernel, rfl⟩
theorem D254_5 : rDec M254 5 (.if_icmp .gt 16) 3 8 := ⟨by decide +kernel, rfl⟩
theorem D254_8 : rDec M254 8 (.aload_n 0) 1 9 := ⟨by decide +kernel, rfl⟩
theorem D254_9 : rDec M254 9 (.getfield 24) 3 12 := ⟨by decide +kernel, rfl⟩
theorem D254_12 : rDec M254 12 (.iload_n 1) 1 13 := ⟨by decide +kernel, rfl⟩
theorem D254_13 : rDec M254 13 (.iconst 0) 1 14 := ⟨by decide +kernel, rfl⟩
theorem D254_14 : rDec M254 14 (.bastore) 1 15 := ⟨by decide +kernel, rfl⟩
theorem D254_15 : rDec M254 15 (.iinc 1 1) 3 18 := ⟨by decide +kernel, rfl⟩
theorem D254_18 : rDec M254 18 (.goto (-16)) 3 21 := ⟨by decide +kernel, rfl⟩
theorem D254_21 : rDec M254 21 (.aload_n 0) 1 22 := ⟨by decide +kernel, rfl⟩
theorem D254_22 : rDec M254 22 (.getfield 24) 3 25 := ⟨by decide +kernel, rfl⟩
theorem D254_25 : rDec M254 25 (.iconst 0) 1 26 := ⟨by decide +kernel, rfl⟩
theorem D254_26 : rDec M254 26 (.aload_n 0) 1 27 := ⟨by decide +kernel, rfl⟩
theorem D254_27 : rDec M254 27 (.getfield 45) 3 30 := ⟨by decide +kernel, rfl⟩
theorem D254_30 : rDec M254 30 (.ifCond .le 7) 3 33 := ⟨by decide +kernel, rfl⟩
theorem D254_37 : rDec M254 37 (.iconst 0) 1 38 := ⟨by decide +kernel, rfl⟩
theorem D254_38 : rDec M254 38 (.bastore) 1 39 := ⟨by decide +kernel, rfl⟩
theorem D254_39 : rDec M254 39 (.iconst 0) 1 40 := ⟨by decide +kernel, rfl⟩
theorem D254_40 : rDec M254 40 (.istore_n 1) 1 41 := ⟨by decide +kernel, rfl⟩
theorem D254_41 : rDec M254 41 (.iload_n 1) 1 42 := ⟨by decide +kernel, rfl⟩
theorem D254_42 : rDec M254 42 (.iconst 3) 1 43 := ⟨by decide +kernel, rfl⟩
theorem D254_43 : rDec M254 43 (.if_icmp .ge 18) 3 46 := ⟨by decide +kernel, rfl⟩
theorem D254_46 : rDec M254 46 (.aload_n 0) 1 47 := ⟨by decide +kernel, rfl⟩
theorem D254_47 : rDec M254 47 (.getfield 30) 3 50 := ⟨by decide +kernel, rfl⟩
theorem D254_50 : rDec M254 50 (.iload_n 1) 1 51 := ⟨by decide +kernel, rfl⟩
theorem D254_51 : rDec M254 51 (.aaload) 1 52 := ⟨by decide +kernel, rfl⟩
theorem D254_52 : rDec M254 52 (.invokevirtual 74) 3 55 := ⟨by decide +kernel, rfl⟩
theorem D254_55 : rDec M254 55 (.iinc 1 1) 3 58 := ⟨by decide +kernel, rfl⟩
theorem D254_58 : rDec M254 58 (.goto (-17)) 3 61 := ⟨by decide +kernel, rfl⟩
theorem D254_61 : rDec M254 61 (.return_) 1 62 := ⟨by decide +kernel, rfl⟩
theorem P254_61 : rSnd lab M254 61 B254_61 := by
  exact s_Rv rfl D254_61.1
theorem P254_41 : rSnd lab M254 41 B254_41 := by
  refine s_Il gk1 (Or.inr ⟨1, D254_41, rfl⟩) ?_
  refine s_ic D254_42 kc_i_3 (by decide) ?_
  refine s_Ic c_ge (i_ge (tg := 61) (by decide)) D254_43.1 P254_61 (?_ : rSnd _ _ 46 _)
  refine s_Al gk0 (Or.inr ⟨0, D254_46, rfl⟩) ?_
  refine s_Gf (ci := 5) (r := ("WordWright$Program", kT5, 12)) rfl (show 6 < 12 from by decide) rfl (Or.inl wd393) (Or.inl rfl) rfl D254_47 ?_
  refine s_Il gk1 (Or.inr ⟨1, D254_50, rfl⟩) ?_
  refine s_Aal D254_51 ?_
  refine s_Cv (ln := 3) (kd := 8) (C := "WordWright$Language") (by decide) (by decide +kernel) rfl (l_V rfl ok235 rfl wd614 wd615 wd616 D254_52.1) (?_ : rSnd _ _ 55 _)
  refine s_Inc gk1 sk1 (show 1 < 2 from by decide) kc_i_1 D254_55 ?_
  exact s_Go (pc' := 41) D254_58.1 (by decide) (s_Jb rfl)
theorem P254_37 : rSnd lab M254 37 B254_37 := by
  refine s_ic D254_37 kc_i_0 (by decide) ?_
  refine s_Ast (t := 1) rfl q_zast rfl (by decide) D254_38 ?_
  refine s_ic D254_39 kc_i_0 (by decide) ?_
  refine s_Is sk1 (show 1 < 2 from by decide) (Or.inr ⟨1, D254_40, rfl⟩) ?_
  exact P254_41
theorem P254_21 : rSnd lab M254 21 B254_21 := by
  refine s_Al gk0 (Or.inr ⟨0, D254_21, rfl⟩) ?_
  refine s_Gf (ci := 5) (r := ("WordWright$Program", kT5, 12)) rfl (show 5 < 12 from by decide) rfl (Or.inl wd391) (Or.inl rfl) rfl D254_22 ?_
  refine s_ic D254_25 kc_i_0 (by decide) ?_
  refine s_Al gk0 (Or.inr ⟨0, D254_26, rfl⟩) ?_
  refine s_Gf (ci := 5) (r := ("WordWright$Program", kT5, 12)) rfl (show 0 < 12 from by decide) rfl (Or.inl wd382) (Or.inl rfl) rfl D254_27 ?_
  refine s_If c_le (fun _ => rfl) (fun _ _ => rfl) (b_le (tg := 37) (by decide)) D254_30.1 P254_37 (?_ : rSnd _ _ 33 _)
  exact rSnd_none
theorem P254_2 : rSnd lab M254 2 B254_2 := by
  refine s_Il gk1 (Or.inr ⟨1, D254_2, rfl⟩) ?_
  refine s_bi D254_3 kc_b_10 (by decide) ?_
  refine s_Ic c_gt (i_gt (tg := 21) (by decide)) D254_5.1 P254_21 (?_ : rSnd _ _ 8 _)
  refine s_Al gk0 (Or.inr ⟨0, D254_8, rfl⟩) ?_
  refine s_Gf (ci := 5) (r := ("WordWright$Program", kT5, 12)) rfl (show 5 < 12 from by decide) rfl (Or.inl wd391) (Or.inl rfl) rfl D254_9 ?_
  refine s_Il gk1 (Or.inr ⟨1, D254_12, rfl⟩) ?_
  refine s_ic D254_13 kc_i_0 (by decide) ?_
  refine s_Ast (t := 1) rfl q_zast rfl (by decide) D254_14 ?_
  refine s_Inc gk1 sk1 (show 1 < 2 from by decide) kc_i_1 D254_15 ?_
  exact s_Go (pc' := 2) D254_18.1 (by decide) (s_Jb rfl)
theorem P254_0 : rSnd lab M254 0 B254_0 := by
  refine s_Ent ?_
  refine s_ic D254_0 kc_i_0 (by decide) ?_
  refine s_Is sk1 (show 1 < 2 from by decide) (Or.inr ⟨1, D254_1, rfl⟩) ?_
  exact P254_2
theorem D255_0 : rDec M255 0 (.aload_n 0) 1 1 := ⟨by decide +kernel, rfl⟩
theorem D255_1 : rDec M255 1 (.iconst 0) 1 2 := ⟨by decide +kernel, rfl⟩
theorem D255_2 : rDec M255 2 (.putfield 52) 3 5 := ⟨by decide +kernel, rfl⟩
theorem D255_5 : rDec M255 5 (.return_) 1 6 := ⟨by decide +kernel, rfl⟩
theorem P255_0 : rSnd lab M255 0 B255_0 := by
  refine s_Ent ?_
  refine s_Al gk0 (Or.inr ⟨0, D255_0, rfl⟩) ?_
  refine s_ic D255_1 kc_i_0 (by decide) ?_
  refine s_Pf (ci := 5) (r := ("WordWright$Program", kT5, 12)) rfl (show 8 < 12 from by decide) rfl (Or.inl ⟨rfl, Or.inl wd397⟩) (Or.inl rfl) rfl (by decide) D255_2 ?_
  exact s_Rv rfl D255_5.1
theorem D256_0 : rDec M256 0 (.aload_n 0) 1 1 := ⟨by decide +kernel, rfl⟩
theorem D256_1 : rDec M256 1 (.invokespecial 3) 3 4 := ⟨by decide +kernel, rfl⟩
theorem D256_4 : rDec M256 4 (.aload_n 0) 1 5 := ⟨by decide +kernel, rfl⟩
theorem D256_5 : rDec M256 5 (.bipush 10) 2 7 := ⟨by decide +kernel, rfl⟩
theorem D256_7 : rDec M256 7 (.newarray .int) 2 9 := ⟨by decide +kernel, rfl⟩
theorem D256_9 : rDec M256 9 (.putfield 9) 3 12 := ⟨by decide +kernel, rfl⟩
theorem D256_12 : rDec M256 12 (.aload_n 0) 1 13 := ⟨by decide +kernel, rfl⟩
theorem D256_13 : rDec M256 13 (.bipush 10) 2 15 := ⟨by decide +kernel, rfl⟩
theorem D256_15 : rDec M256 15 (.newarray .int) 2 17 := ⟨by decide +kernel, rfl⟩
theorem D256_17 : rDec M256 17 (.putfield 15) 3 20 := ⟨by decide +kernel, rfl⟩
theorem D256_20 : rDec M256 20 (.aload_n 0) 1 21 := ⟨by decide +kernel, rfl⟩
theorem D256_21 : rDec M256 21 (.bipush 10) 2 23 := ⟨by decide +kernel, rfl⟩
theorem D256_23 : rDec M256 23 (.newarray .int) 2 25 := ⟨by decide +kernel, rfl⟩
theorem D256_25 : rDec M256 25 (.putfield 18) 3 28 := ⟨by decide +kernel, rfl⟩
theorem D256_28 : rDec M256 28 (.aload_n 0) 1 29 := ⟨by decide +kernel, rfl⟩
theorem D256_29 : rDec M256 29 (.bipush 10) 2 31 := ⟨by decide +kernel, rfl⟩
theorem D256_31 : rDec M256 31 (.newarray .int) 2 33 := ⟨by decide +kernel, rfl⟩
theorem D256_33 : rDec M256 33 (.putfield 21) 3 36 := ⟨by decide +kernel, rfl⟩
theorem D256_36 : rDec M256 36 (.aload_n 0) 1 37 := ⟨by decide +kernel, rfl⟩
theorem D256_37 : rDec M256 37 (.bipush 11) 2 39 := ⟨by decide +kernel, rfl⟩
theorem D256_39 : rDec M256 39 (.newarray .boolean) 2 41 := ⟨by decide +kernel, rfl⟩
theorem D256_41 : rDec M256 41 (.putfield 24) 3 44 := ⟨by decide +kernel, rfl⟩
theorem D256_44 : rDec M256 44 (.aload_n 0) 1 45 := ⟨by decide +kernel, rfl⟩
theorem D256_45 : rDec M256 45 (.bipush 33) 2 47 := ⟨by decide +kernel, rfl⟩
theorem D256_47 : rDec M256 47 (.anewarray 28) 3 50 := ⟨by decide +kernel, rfl⟩
theorem D256_50 : rDec M256 50 (.putfield 30) 3 53 := ⟨by decide +kernel, rfl⟩
theorem D256_53 : rDec M256 53 (.aload_n 0) 1 54 := ⟨by decide +kernel, rfl⟩
theorem D256_54 : rDec M256 54 (.iconst 3) 1 55 := ⟨by decide +kernel, rfl⟩
theorem D256_55 : rDec M256 55 (.anewarray 28) 3 58 := ⟨by decide +kernel, rfl⟩
theorem D256_58 : rDec M256 58 (.putfield 34) 3 61 := ⟨by decide +kernel, rfl⟩
theorem D256_61 : rDec M256 61 (.aload_n 0) 1 62 := ⟨by decide +kernel, rfl⟩
theorem D256_62 : rDec M256 62 (.new 28) 3 65 := ⟨by decide +kernel, rfl⟩
theorem D256_65 : rDec M256 65 (.dup) 1 66 := ⟨by decide +kernel, rfl⟩
theorem D256_66 : rDec M256 66 (.invokespecial 37) 3 69 := ⟨by decide +kernel, rfl⟩
theorem D256_69 : rDec M256 69 (.putfield 38) 3 72 := ⟨by decide +kernel, rfl⟩
theorem D256_72 : rDec M256 72 (.aload_n 0) 1 73 := ⟨by decide +kernel, rfl⟩
theorem D256_73 : rDec M256 73 (.new 28) 3 76 := ⟨by decide +kernel, rfl⟩
theorem D256_76 : rDec M256 76 (.dup) 1 77 := ⟨by decide +kernel, rfl⟩
theorem D256_77 : rDec M256 77 (.invokespecial 37) 3 80 := ⟨by decide +kernel, rfl⟩
theorem D256_80 : rDec M256 80 (.putfield 42) 3 83 := ⟨by decide +kernel, rfl⟩
theorem D256_83 : rDec M256 83 (.iconst 0) 1 84 := ⟨by decide +kernel, rfl⟩
theorem D256_84 : rDec M256 84 (.istore_n 1) 1 85 := ⟨by decide +kernel, rfl⟩
theorem D256_85 : rDec M256 85 (.iload_n 1) 1 86 := ⟨by decide +kernel, rfl⟩
theorem D256_86 : rDec M256 86 (.aload_n 0) 1 87 := ⟨by decide +kernel, rfl⟩
theorem D256_87 : rDec M256 87 (.getfield 30) 3 90 := ⟨by decide +kernel, rfl⟩
theorem D256_90 : rDec M256 90 (.arraylength) 1 91 := ⟨by decide +kernel, rfl⟩
theorem D256_91 : rDec M256 91 (.if_icmp .ge 22) 3 94 := ⟨by decide +kernel, rfl⟩
theorem D256_94 : rDec M256 94 (.aload_n 0) 1 95 := ⟨by decide +kernel, rfl⟩
theorem D256_95 : rDec M256 95 (.getfield 30) 3 98 := ⟨by decide +kernel, rfl⟩
theorem D256_98 : rDec M256 98 (.iload_n 1) 1 99 := ⟨by decide +kernel, rfl⟩
theorem D256_99 : rDec M256 99 (.new 28) 3 102 := ⟨by decide +kernel, rfl⟩
theorem D256_102 : rDec M256 102 (.dup) 1 103 := ⟨by decide +kernel, rfl⟩
theorem D256_103 : rDec M256 103 (.invokespecial 37) 3 106 := ⟨by decide +kernel, rfl⟩
theorem D256_106 : rDec M256 106 (.aastore) 1 107 := ⟨by decide +kernel, rfl⟩
theorem D256_107 : rDec M256 107 (.iinc 1 1) 3 110 := ⟨by decide +kernel, rfl⟩
theorem D256_110 : rDec M256 110 (.goto (-25)) 3 113 := ⟨by decide +kernel, rfl⟩
theorem D256_113 : rDec M256 113 (.iconst 0) 1 114 := ⟨by decide +kernel, rfl⟩
theorem D256_114 : rDec M256 114 (.istore_n 1) 1 115 := ⟨by decide +kernel, rfl⟩
theorem D256_115 : rDec M256 115 (.iload_n 1) 1 116 := ⟨by decide +kernel, rfl⟩
theorem D256_116 : rDec M256 116 (.iconst 3) 1 117 := ⟨by decide +kernel, rfl⟩
theorem D256_117 : rDec M256 117 (.if_icmp .ge 22) 3 120 := ⟨by decide +kernel, rfl⟩
theorem D256_120 : rDec M256 120 (.aload_n 0) 1 121 := ⟨by decide +kernel, rfl⟩
theorem D256_121 : rDec M256 121 (.getfield 34) 3 124 := ⟨by decide +kernel, rfl⟩
theorem D256_124 : rDec M256 124 (.iload_n 1) 1 125 := ⟨by decide +kernel, rfl⟩
theorem D256_125 : rDec M256 125 (.new 28) 3 128 := ⟨by decide +kernel, rfl⟩
theorem D256_128 : rDec M256 128 (.dup) 1 129 := ⟨by decide +kernel, rfl⟩
theorem D256_129 : rDec M256 129 (.invokespecial 37) 3 132 := ⟨by decide +kernel, rfl⟩
theorem D256_132 : rDec M256 132 (.aastore) 1 133 := ⟨by decide +kernel, rfl⟩
theorem D256_133 : rDec M256 133 (.iinc 1 1) 3 136 := ⟨by decide +kernel, rfl⟩
theorem D256_136 : rDec M256 136 (.goto (-21)) 3 139 := ⟨by decide +kernel, rfl⟩
theorem D256_139 : rDec M256 139 (.return_) 1 140 := ⟨by decide +kernel, rfl⟩
theorem P256_139 : rSnd lab M256 139 B256_139 := by
  exact s_Rv rfl D256_139.1
theorem P256_115 : rSnd lab M256 115 B256_115 := by
  refine s_Il gk1 (Or.inr ⟨1, D256_115, rfl⟩) ?_
  refine s_ic D256_116 kc_i_3 (by decide) ?_
  refine s_Ic c_ge (i_ge (tg := 139) (by decide)) D256_117.1 P256_139 (?_ : rSnd _ _ 120 _)
  refine s_Al gk0 (Or.inr ⟨0, D256_120, rfl⟩) ?_
  refine s_Gf (ci := 5) (r := ("WordWright$Program", kT5, 12)) rfl (show 9 < 12 from by decide) rfl (Or.inl wd398) (Or.inl rfl) rfl D256_121 ?_
  refine s_Il gk1 (Or.inr ⟨1, D256_124, rfl⟩) ?_
  refine s_New (ci := 3) (r := ("WordWright$Language", kT3, 3)) rfl rfl wd380 wd68 wd2 kr3 D256_125 ?_
  refine s_Dup D256_128 ?_
  refine s_Ci (id := 323) rfl (l_IN (j := 25) rfl ok239 rfl rfl rfl rfl wd70 D256_129.1) (?_ : rSnd _ _ 132 _)
  refine s_Aas okAs_ok D256_132 ?_
  refine s_Inc gk1 sk1 (show 1 < 2 from by decide) kc_i_1 D256_133 ?_
  exact s_Go (pc' := 115) D256_136.1 (by decide) (s_Jb rfl)
theorem P256_113 : rSnd lab M256 113 B256_113 := by
  refine s_ic D256_113 kc_i_0 (by decide) ?_
  refine s_Is sk1 (show 1 < 2 from by decide) (Or.inr ⟨1, D256_114, rfl⟩) ?_
  exact P256_115
theorem P256_85 : rSnd lab M256 85 B256_85 := by
  refine s_Il gk1 (Or.inr ⟨1, D256_85, rfl⟩) ?_
  refine s_Al gk0 (Or.inr ⟨0, D256_86, rfl⟩) ?_
  refine s_Gf (ci := 5) (r := ("WordWright$Program", kT5, 12)) rfl (show 6 < 12 from by decide) rfl (Or.inl wd393) (Or.inl rfl) rfl D256_87 ?_
  refine s_Len D256_90 ?_
  refine s_Ic c_ge (i_ge (tg := 113) (by decide)) D256_91.1 P256_113 (?_ : rSnd _ _ 94 _)
  refine s_Al gk0 (Or.inr ⟨0, D256_94, rfl⟩) ?_
  refine s_Gf (ci := 5) (r := ("WordWright$Program", kT5, 12)) rfl (show 6 < 12 from by decide) rfl (Or.inl wd393) (Or.inl rfl) rfl D256_95 ?_
  refine s_Il gk1 (Or.inr ⟨1, D256_98, rfl⟩) ?_
  refine s_New (ci := 3) (r := ("WordWright$Language", kT3, 3)) rfl rfl wd380 wd68 wd2 kr3 D256_99 ?_
  refine s_Dup D256_102 ?_
  refine s_Ci (id := 323) rfl (l_IN (j := 25) rfl ok239 rfl rfl rfl rfl wd70 D256_103.1) (?_ : rSnd _ _ 106 _)
  refine s_Aas okAs_ok D256_106 ?_
  refine s_Inc gk1 sk1 (show 1 < 2 from by decide) kc_i_1 D256_107 ?_
  exact s_Go (pc' := 85) D256_110.1 (by decide) (s_Jb rfl)
theorem P256_0 : rSnd lab M256 0 B256_0 := by
  refine s_Ent ?_
  refine s_Al gk0 (Or.inr ⟨0, D256_0, rfl⟩) ?_
  refine s_Oi rfl wd379 wd62 wd63 D256_1 ?_
  refine s_Al gk0 (Or.inr ⟨0, D256_4, rfl⟩) ?_
  refine s_bi D256_5 kc_b_10 (by decide) ?_
  refine s_Nwa (t := 0) rfl (q_newa (at_ := .int) (Or.inl rfl)) (fun ht _ => ht _ wd91) D256_7 ?_
  refine s_Pf (ci := 5) (r := ("WordWright$Program", kT5, 12)) rfl (show 1 < 12 from by decide) rfl (Or.inr ⟨rfl, wd384, rfl, rfl⟩) (Or.inl rfl) rfl (by decide) D256_9 ?_
  refine s_Al gk0 (Or.inr ⟨0, D256_12, rfl⟩) ?_
  refine s_bi D256_13 kc_b_10 (by decide) ?_
  refine s_Nwa (t := 0) rfl (q_newa (at_ := .int) (Or.inl rfl)) (fun ht _ => ht _ wd91) D256_15 ?_
  refine s_Pf (ci := 5) (r := ("WordWright$Program", kT5, 12)) rfl (show 2 < 12 from by decide) rfl (Or.inr ⟨rfl, wd386, rfl, rfl⟩) (Or.inl rfl) rfl (by decide) D256_17 ?_
  refine s_Al gk0 (Or.inr ⟨0, D256_20, rfl⟩) ?_
  refine s_bi D256_21 kc_b_10 (by decide) ?_
  refine s_Nwa (t := 0) rfl (q_newa (at_ := .int) (Or.inl rfl)) (fun ht _ => ht _ wd91) D256_23 ?_
  refine s_Pf (ci := 5) (r := ("WordWright$Program", kT5, 12)) rfl (show 3 < 12 from by decide) rfl (Or.inr ⟨rfl, wd388, rfl, rfl⟩) (Or.inl rfl) rfl (by decide) D256_25 ?_
  refine s_Al gk0 (Or.inr ⟨0, D256_28, rfl⟩) ?_
  refine s_bi D256_29 kc_b_10 (by decide) ?_
  refine s_Nwa (t := 0) rfl (q_newa (at_ := .int) (Or.inl rfl)) (fun ht _ => ht _ wd91) D256_31 ?_
  refine s_Pf (ci := 5) (r := ("WordWright$Program", kT5, 12)) rfl (show 4 < 12 from by decide) rfl (Or.inr ⟨rfl, wd390, rfl, rfl⟩) (Or.inl rfl) rfl (by decide) D256_33 ?_
  refine s_Al gk0 (Or.inr ⟨0, D256_36, rfl⟩) ?_
  refine s_bi D256_37 kc_b_11 (by decide) ?_
  refine s_Nwa (t := 1) rfl (q_newa (at_ := .boolean) (Or.inr (Or.inr rfl))) (fun ht _ => ht _ wd147) D256_39 ?_
  refine s_Pf (ci := 5) (r := ("WordWright$Program", kT5, 12)) rfl (show 5 < 12 from by decide) rfl (Or.inr ⟨rfl, wd391, rfl, rfl⟩) (Or.inl rfl) rfl (by decide) D256_41 ?_
  refine s_Al gk0 (Or.inr ⟨0, D256_44, rfl⟩) ?_
  refine s_bi D256_45 kc_b_33 (by decide) ?_
  refine s_Nwa (t := 5) rfl (q_anew rfl) (fun ht hk => ⟨ht _ wd380, hk.ng 30 rfl⟩) D256_47 ?_
  refine s_Pf (ci := 5) (r := ("WordWright$Program", kT5, 12)) rfl (show 6 < 12 from by decide) rfl (Or.inr ⟨rfl, wd393, rfl, rfl⟩) (Or.inl rfl) rfl (by decide) D256_50 ?_
  refine s_Al gk0 (Or.inr ⟨0, D256_53, rfl⟩) ?_
  refine s_ic D256_54 kc_i_3 (by decide) ?_
  refine s_Nwa (t := 5) rfl (q_anew rfl) (fun ht hk => ⟨ht _ wd380, hk.ng 30 rfl⟩) D256_55 ?_
  refine s_Pf (ci := 5) (r := ("WordWright$Program", kT5, 12)) rfl (show 9 < 12 from by decide) rfl (Or.inr ⟨rfl, wd398, rfl, rfl⟩) (Or.inl rfl) rfl (by decide) D256_58 ?_
  refine s_Al gk0 (Or.inr ⟨0, D256_61, rfl⟩) ?_
  refine s_New (ci := 3) (r := ("WordWright$Language", kT3, 3)) rfl rfl wd380 wd68 wd2 kr3 D256_62 ?_
  refine s_Dup D256_65 ?_
  refine s_Ci (id := 323) rfl (l_IN (j := 25) rfl ok239 rfl rfl rfl rfl wd70 D256_66.1) (?_ : rSnd _ _ 69 _)
  refine s_Pf (ci := 5) (r := ("WordWright$Program", kT5, 12)) rfl (show 10 < 12 from by decide) rfl (Or.inr ⟨rfl, wd399, rfl, rfl⟩) (Or.inl rfl) rfl (by decide) D256_69 ?_
  refine s_Al gk0 (Or.inr ⟨0, D256_72, rfl⟩) ?_
  refine s_New (ci := 3) (r := ("WordWright$Language", kT3, 3)) rfl rfl wd380 wd68 wd2 kr3 D256_73 ?_
  refine s_Dup D256_76 ?_
  refine s_Ci (id := 323) rfl (l_IN (j := 25) rfl ok239 rfl rfl rfl rfl wd70 D256_77.1) (?_ : rSnd _ _ 80 _)
  refine s_Pf (ci := 5) (r := ("WordWright$Program", kT5, 12)) rfl (show 11 < 12 from by decide) rfl (Or.inr ⟨rfl, wd400, rfl, rfl⟩) (Or.inl rfl) rfl (by decide) D256_80 ?_
  refine s_ic D256_83 kc_i_0 (by decide) ?_
  refine s_Is sk1 (show 1 < 2 from by decide) (Or.inr ⟨1, D256_84, rfl⟩) ?_
  exact P256_85
theorem D257_0 : rDec M257 0 (.aload_n 0) 1 1 := ⟨by decide +kernel, rfl⟩
theorem D257_1 : rDec M257 1 (.getfield 52) 3 4 := ⟨by decide +kernel, rfl⟩
theorem D257_4 : rDec M257 4 (.ifCond .eq 4) 3 7 := ⟨by decide +kernel, rfl⟩
theorem D257_8 : rDec M257 8 (.aload_n 0) 1 9 := ⟨by decide +kernel, rfl⟩
theorem D257_9 : rDec M257 9 (.iconst 1) 1 10 := ⟨by decide +kernel, rfl⟩
theorem D257_10 : rDec M257 10 (.putfield 52) 3 13 := ⟨by decide +kernel, rfl⟩
theorem D257_13 : rDec M257 13 (.aload_n 0) 1 14 := ⟨by decide +kernel, rfl⟩
theorem D257_14 : rDec M257 14 (.iconst 0) 1 15 := ⟨by decide +kernel, rfl⟩
theorem D257_15 : rDec M257 15 (.putfield 56) 3 18 := ⟨by decide +kernel, rfl⟩
theorem D257_18 : rDec M257 18 (.aload_n 0) 1 19 := ⟨by decide +kernel, rfl⟩
theorem D257_19 : rDec M257 19 (.invokevirtual 59) 3 22 := ⟨by decide +kernel, rfl⟩
theorem D257_22 : rDec M257 22 (.aload_n 0) 1 23 := ⟨by decide +kernel, rfl⟩
theorem D257_23 : rDec M257 23 (.getfield 45) 3 26 := ⟨by decide +kernel, rfl⟩
theorem D257_26 : rDec M257 26 (.ifCond .le 7) 3 29 := ⟨by decide +kernel, rfl⟩
theorem D257_33 : rDec M257 33 (.iconst 0) 1 34 := ⟨by decide +kernel, rfl⟩
theorem D257_34 : rDec M257 34 (.istore 4) 2 36 := ⟨by decide +kernel, rfl⟩
theorem D257_36 : rDec M257 36 (.iload 4) 2 38 := ⟨by decide +kernel, rfl⟩
theorem D257_38 : rDec M257 38 (.ifCond .eq 115) 3 41 := ⟨by decide +kernel, rfl⟩
theorem D257_153 : rDec M257 153 (.return_) 1 154 := ⟨by decide +kernel, rfl⟩
theorem P257_153 : rSnd lab M257 153 B257_153 := by
  exact s_Rv rfl D257_153.1
theorem P257_33 : rSnd lab M257 33 B257_33 := by
  refine s_ic D257_33 kc_i_0 (by decide) ?_
  refine s_Is sk4 (show 4 < 7 from by decide) (Or.inl D257_34) ?_
  refine s_Il gk4 (Or.inl D257_36) ?_
  refine s_If c_eq (fun _ => rfl) (fun _ _ => rfl) (b_eq (tg := 153) (by decide)) D257_38.1 P257_153 (?_ : rSnd _ _ 41 _)
  exact rSnd_none
theorem P257_8 : rSnd lab M257 8 B257_8 := by
  refine s_Al gk0 (Or.inr ⟨0, D257_8, rfl⟩) ?_
  refine s_ic D257_9 kc_i_1 (by decide) ?_
  refine s_Pf (ci := 5) (r := ("WordWright$Program", kT5, 12)) rfl (show 8 < 12 from by decide) rfl (Or.inl ⟨rfl, Or.inl wd397⟩) (Or.inl rfl) rfl (by decide) D257_10 ?_
  refine s_Al gk0 (Or.inr ⟨0, D257_13, rfl⟩) ?_
  refine s_ic D257_14 kc_i_0 (by decide) ?_
  refine s_Pf (ci := 5) (r := ("WordWright$Program", kT5, 12)) rfl (show 7 < 12 from by decide) rfl (Or.inl ⟨rfl, Or.inl wd395⟩) (Or.inl rfl) rfl (by decide) D257_15 ?_
  refine s_Al gk0 (Or.inr ⟨0, D257_18, rfl⟩) ?_
  refine s_Cv (ln := 3) (kd := 12) (C := "WordWright$Program") (by decide) (by decide +kernel) rfl (l_V rfl ok254 rfl wd610 wd612 ws18 D257_19.1) (?_ : rSnd _ _ 22 _)
  refine s_Al gk0 (Or.inr ⟨0, D257_22, rfl⟩) ?_
  refine s_Gf (ci := 5) (r := ("WordWright$Program", kT5, 12)) rfl (show 0 < 12 from by decide) rfl (Or.inl wd382) (Or.inl rfl) rfl D257_23 ?_
  refine s_If c_le (fun _ => rfl) (fun _ _ => rfl) (b_le (tg := 33) (by decide)) D257_26.1 P257_33 (?_ : rSnd _ _ 29 _)
  exact rSnd_none
theorem P257_0 : rSnd lab M257 0 B257_0 := by
  refine s_Ent ?_
  refine s_Al gk0 (Or.inr ⟨0, D257_0, rfl⟩) ?_
  refine s_Gf (ci := 5) (r := ("WordWright$Program", kT5, 12)) rfl (show 8 < 12 from by decide) rfl (Or.inl wd397) (Or.inl rfl) rfl D257_1 ?_
  refine s_If c_eq (fun _ => rfl) (fun _ _ => rfl) (b_eq (tg := 8) (by decide)) D257_4.1 P257_8 (?_ : rSnd _ _ 7 _)
  exact rSnd_none
theorem D258_0 : rDec M258 0 (.iload_n 1) 1 1 := ⟨by decide +kernel, rfl⟩
theorem D258_1 : rDec M258 1 (.aload_n 0) 1 2 := ⟨by decide +kernel, rfl⟩
theorem D258_2 : rDec M258 2 (.getfield 45) 3 5 := ⟨by decide +kernel, rfl⟩
theorem D258_5 : rDec M258 5 (.if_icmp .ge 7) 3 8 := ⟨by decide +kernel, rfl⟩
theorem D258_12 : rDec M258 12 (.bipush 10) 2 14 := ⟨by decide +kernel, rfl⟩
theorem D258_14 : rDec M258 14 (.ireturn) 1 15 := ⟨by decide +kernel, rfl⟩
theorem P258_12 : rSnd lab M258 12 B258_12 := by
  refine s_bi D258_12 kc_b_10 (by decide) ?_
  exact s_Ri (Or.inl rfl) D258_14.1
theorem P258_0 : rSnd lab M258 0 B258_0 := by
  refine s_Ent ?_
  refine s_Il gk1 (Or.inr ⟨1, D258_0, rfl⟩) ?_
  refine s_Al gk0 (Or.inr ⟨0, D258_1, rfl⟩) ?_
  refine s_Gf (ci := 5) (r := ("WordWright$Program", kT5, 12)) rfl (show 0 < 12 from by decide) rfl (Or.inl wd382) (Or.inl rfl) rfl D258_2 ?_
  refine s_Ic c_ge (i_ge (tg := 12) (by decide)) D258_5.1 P258_12 (?_ : rSnd _ _ 8 _)
  exact rSnd_none
theorem D259_0 : rDec M259 0 (.iload_n 1) 1 1 := ⟨by decide +kernel, rfl⟩
theorem D259_1 : rDec M259 1 (.iconst (-1)) 1 2 := ⟨by decide +kernel, rfl⟩
theorem D259_2 : rDec M259 2 (.if_icmp .ne 8) 3 5 := ⟨by decide +kernel, rfl⟩
theorem D259_5 : rDec M259 5 (.aload_n 0) 1 6 := ⟨by decide +kernel, rfl⟩
theorem D259_6 : rDec M259 6 (.iconst 0) 1 7 := ⟨by decide +kernel, rfl⟩
theorem D259_7 : rDec M259 7 (.putfield 34) 3 10 := ⟨by decide +kernel, rfl⟩
theorem D259_10 : rDec M259 10 (.aload_n 0) 1 11 := ⟨by decide +kernel, rfl⟩
theorem D259_11 : rDec M259 11 (.getfield 15) 3 14 := ⟨by decide +kernel, rfl⟩
theorem D259_14 : rDec M259 14 (.aload_n 0) 1 15 := ⟨by decide +kernel, rfl⟩
theorem D259_15 : rDec M259 15 (.getfield 34) 3 18 := ⟨by decide +kernel, rfl⟩
theorem D259_18 : rDec M259 18 (.iload_n 1) 1 19 := ⟨by decide +kernel, rfl⟩
theorem D259_19 : rDec M259 19 (.iastore) 1 20 := ⟨by decide +kernel, rfl⟩
theorem D259_20 : rDec M259 20 (.aload_n 0) 1 21 := ⟨by decide +kernel, rfl⟩
theorem D259_21 : rDec M259 21 (.getfield 18) 3 24 := ⟨by decide +kernel, rfl⟩
theorem D259_24 : rDec M259 24 (.aload_n 0) 1 25 := ⟨by decide +kernel, rfl⟩
theorem D259_25 : rDec M259 25 (.getfield 34) 3 28 := ⟨by decide +kernel, rfl⟩
theorem D259_28 : rDec M259 28 (.iload_n 2) 1 29 := ⟨by decide +kernel, rfl⟩
theorem D259_29 : rDec M259 29 (.iastore) 1 30 := ⟨by decide +kernel, rfl⟩
theorem D259_30 : rDec M259 30 (.aload_n 0) 1 31 := ⟨by decide +kernel, rfl⟩
theorem D259_31 : rDec M259 31 (.dup) 1 32 := ⟨by decide +kernel, rfl⟩
theorem D259_32 : rDec M259 32 (.getfield 34) 3 35 := ⟨by decide +kernel, rfl⟩
theorem D259_35 : rDec M259 35 (.iconst 1) 1 36 := ⟨by decide +kernel, rfl⟩
theorem D259_36 : rDec M259 36 (.iadd) 1 37 := ⟨by decide +kernel, rfl⟩
theorem D259_37 : rDec M259 37 (.putfield 34) 3 40 := ⟨by decide +kernel, rfl⟩
theorem D259_40 : rDec M259 40 (.aload_n 0) 1 41 := ⟨by decide +kernel, rfl⟩
theorem D259_41 : rDec M259 41 (.getfield 34) 3 44 := ⟨by decide +kernel, rfl⟩
theorem D259_44 : rDec M259 44 (.iconst 1) 1 45 := ⟨by decide +kernel, rfl⟩
theorem D259_45 : rDec M259 45 (.isub) 1 46 := ⟨by decide +kernel, rfl⟩
theorem D259_46 : rDec M259 46 (.ireturn) 1 47 := ⟨by decide +kernel, rfl⟩
theorem P259_10 : rSnd lab M259 10 B259_10 := by
  refine s_Al gk0 (Or.inr ⟨0, D259_10, rfl⟩) ?_
  refine s_Gf (ci := 6) (r := ("WordWright$Schemas", kT6, 8)) rfl (show 3 < 8 from by decide) rfl (Or.inl wd351) (Or.inl rfl) rfl D259_11 ?_
  refine s_Al gk0 (Or.inr ⟨0, D259_14, rfl⟩) ?_
  refine s_Gf (ci := 6) (r := ("WordWright$Schemas", kT6, 8)) rfl (show 2 < 8 from by decide) rfl (Or.inl wd349) (Or.inl rfl) rfl D259_15 ?_
  refine s_Il gk1 (Or.inr ⟨1, D259_18, rfl⟩) ?_
  refine s_Ast (t := 0) rfl q_iast rfl (by decide) D259_19 ?_
  refine s_Al gk0 (Or.inr ⟨0, D259_20, rfl⟩) ?_
  refine s_Gf (ci := 6) (r := ("WordWright$Schemas", kT6, 8)) rfl (show 4 < 8 from by decide) rfl (Or.inl wd352) (Or.inl rfl) rfl D259_21 ?_
  refine s_Al gk0 (Or.inr ⟨0, D259_24, rfl⟩) ?_
  refine s_Gf (ci := 6) (r := ("WordWright$Schemas", kT6, 8)) rfl (show 2 < 8 from by decide) rfl (Or.inl wd349) (Or.inl rfl) rfl D259_25 ?_
  refine s_Il gk2 (Or.inr ⟨2, D259_28, rfl⟩) ?_
  refine s_Ast (t := 0) rfl q_iast rfl (by decide) D259_29 ?_
  refine s_Al gk0 (Or.inr ⟨0, D259_30, rfl⟩) ?_
  refine s_Dup D259_31 ?_
  refine s_Gf (ci := 6) (r := ("WordWright$Schemas", kT6, 8)) rfl (show 2 < 8 from by decide) rfl (Or.inl wd349) (Or.inl rfl) rfl D259_32 ?_
  refine s_ic D259_35 kc_i_1 (by decide) ?_
  refine s_Bin q_iadd n_add rG2_x e_add D259_36 ?_
  refine s_Pf (ci := 6) (r := ("WordWright$Schemas", kT6, 8)) rfl (show 2 < 8 from by decide) rfl (Or.inl ⟨rfl, Or.inl wd349⟩) (Or.inl rfl) rfl (by decide) D259_37 ?_
  refine s_Al gk0 (Or.inr ⟨0, D259_40, rfl⟩) ?_
  refine s_Gf (ci := 6) (r := ("WordWright$Schemas", kT6, 8)) rfl (show 2 < 8 from by decide) rfl (Or.inl wd349) (Or.inl rfl) rfl D259_41 ?_
  refine s_ic D259_44 kc_i_1 (by decide) ?_
  refine s_Bin q_isub n_sub rG2_x rE2_x D259_45 ?_
  exact s_Ri (Or.inl rfl) D259_46.1
theorem P259_0 : rSnd lab M259 0 B259_0 := by
  refine s_Ent ?_
  refine s_Il gk1 (Or.inr ⟨1, D259_0, rfl⟩) ?_
  refine s_ic D259_1 kc_i_m1 (by decide) ?_
  refine s_Ic c_ne (i_ne (tg := 10) (by decide)) D259_2.1 P259_10 (?_ : rSnd _ _ 5 _)
  refine s_Al gk0 (Or.inr ⟨0, D259_5, rfl⟩) ?_
  refine s_ic D259_6 kc_i_0 (by decide) ?_
  refine s_Pf (ci := 6) (r := ("WordWright$Schemas", kT6, 8)) rfl (show 2 < 8 from by decide) rfl (Or.inl ⟨rfl, Or.inl wd349⟩) (Or.inl rfl) rfl (by decide) D259_7 ?_
  exact P259_10
theorem D260_0 : rDec M260 0 (.aload_n 0) 1 1 := ⟨by decide +kernel, rfl⟩
theorem D260_1 : rDec M260 1 (.invokespecial 3) 3 4 := ⟨by decide +kernel, rfl⟩
theorem D260_4 : rDec M260 4 (.aload_n 0) 1 5 := ⟨by decide +kernel, rfl⟩
theorem D260_5 : rDec M260 5 (.bipush 16) 2 7 := ⟨by decide +kernel, rfl⟩
theorem D260_7 : rDec M260 7 (.newarray .int) 2 9 := ⟨by decide +kernel, rfl⟩
theorem D260_9 : rDec M260 9 (.putfield 9) 3 12 := ⟨by decide +kernel, rfl⟩
theorem D260_12 : rDec M260 12 (.aload_n 0) 1 13 := ⟨by decide +kernel, rfl⟩
theorem D260_13 : rDec M260 13 (.bipush 30) 2 15 := ⟨by decide +kernel, rfl⟩
theorem D260_15 : rDec M260 15 (.newarray .int) 2 17 := ⟨by decide +kernel, rfl⟩
theorem D260_17 : rDec M260 17 (.putfield 15) 3 20 := ⟨by decide +kernel, rfl⟩
theorem D260_20 : rDec M260 20 (.aload_n 0) 1 21 := ⟨by decide +kernel, rfl⟩
theorem D260_21 : rDec M260 21 (.bipush 30) 2 23 := ⟨by decide +kernel, rfl⟩
theorem D260_23 : rDec M260 23 (.newarray .int) 2 25 := ⟨by decide +kernel, rfl⟩
theorem D260_25 : rDec M260 25 (.putfield 18) 3 28 := ⟨by decide +kernel, rfl⟩
theorem D260_28 : rDec M260 28 (.aload_n 0) 1 29 := ⟨by decide +kernel, rfl⟩
theorem D260_29 : rDec M260 29 (.iconst 4) 1 30 := ⟨by decide +kernel, rfl⟩
theorem D260_30 : rDec M260 30 (.newarray .int) 2 32 := ⟨by decide +kernel, rfl⟩
theorem D260_32 : rDec M260 32 (.putfield 21) 3 35 := ⟨by decide +kernel, rfl⟩
theorem D260_35 : rDec M260 35 (.aload_n 0) 1 36 := ⟨by decide +kernel, rfl⟩
theorem D260_36 : rDec M260 36 (.bipush 10) 2 38 := ⟨by decide +kernel, rfl⟩
theorem D260_38 : rDec M260 38 (.newarray .int) 2 40 := ⟨by decide +kernel, rfl⟩
theorem D260_40 : rDec M260 40 (.putfield 24) 3 43 := ⟨by decide +kernel, rfl⟩
theorem D260_43 : rDec M260 43 (.aload_n 0) 1 44 := ⟨by decide +kernel, rfl⟩
theorem D260_44 : rDec M260 44 (.new 27) 3 47 := ⟨by decide +kernel, rfl⟩
theorem D260_47 : rDec M260 47 (.dup) 1 48 := ⟨by decide +kernel, rfl⟩
theorem D260_48 : rDec M260 48 (.invokespecial 29) 3 51 := ⟨by decide +kernel, rfl⟩
theorem D260_51 : rDec M260 51 (.putfield 30) 3 54 := ⟨by decide +kernel, rfl⟩
theorem D260_54 : rDec M260 54 (.return_) 1 55 := ⟨by decide +kernel, rfl⟩
theorem P260_0 : rSnd lab M260 0 B260_0 := by
  refine s_Ent ?_
  refine s_Al gk0 (Or.inr ⟨0, D260_0, rfl⟩) ?_
  refine s_Oi rfl wd343 wd62 wd63 D260_1 ?_
  refine s_Al gk0 (Or.inr ⟨0, D260_4, rfl⟩) ?_
  refine s_bi D260_5 kc_b_16 (by decide) ?_
  refine s_Nwa (t := 0) rfl (q_newa (at_ := .int) (Or.inl rfl)) (fun ht _ => ht _ wd91) D260_7 ?_
  refine s_Pf (ci := 6) (r := ("WordWright$Schemas", kT6, 8)) rfl (show 1 < 8 from by decide) rfl (Or.inr ⟨rfl, wd347, rfl, rfl⟩) (Or.inl rfl) rfl (by decide) D260_9 ?_
  refine s_Al gk0 (Or.inr ⟨0, D260_12, rfl⟩) ?_
  refine s_bi D260_13 kc_b_30 (by decide) ?_
  refine s_Nwa (t := 0) rfl (q_newa (at_ := .int) (Or.inl rfl)) (fun ht _ => ht _ wd91) D260_15 ?_
  refine s_Pf (ci := 6) (r := ("WordWright$Schemas", kT6, 8)) rfl (show 3 < 8 from by decide) rfl (Or.inr ⟨rfl, wd351, rfl, rfl⟩) (Or.inl rfl) rfl (by decide) D260_17 ?_
  refine s_Al gk0 (Or.inr ⟨0, D260_20, rfl⟩) ?_
  refine s_bi D260_21 kc_b_30 (by decide) ?_
  refine s_Nwa (t := 0) rfl (q_newa (at_ := .int) (Or.inl rfl)) (fun ht _ => ht _ wd91) D260_23 ?_
  refine s_Pf (ci := 6) (r := ("WordWright$Schemas", kT6, 8)) rfl (show 4 < 8 from by decide) rfl (Or.inr ⟨rfl, wd352, rfl, rfl⟩) (Or.inl rfl) rfl (by decide) D260_25 ?_
  refine s_Al gk0 (Or.inr ⟨0, D260_28, rfl⟩) ?_
  refine s_ic D260_29 kc_i_4 (by decide) ?_
  refine s_Nwa (t := 0) rfl (q_newa (at_ := .int) (Or.inl rfl)) (fun ht _ => ht _ wd91) D260_30 ?_
  refine s_Pf (ci := 6) (r := ("WordWright$Schemas", kT6, 8)) rfl (show 5 < 8 from by decide) rfl (Or.inr ⟨rfl, wd353, rfl, rfl⟩) (Or.inl rfl) rfl (by decide) D260_32 ?_
  refine s_Al gk0 (Or.inr ⟨0, D260_35, rfl⟩) ?_
  refine s_bi D260_36 kc_b_10 (by decide) ?_
  refine s_Nwa (t := 0) rfl (q_newa (at_ := .int) (Or.inl rfl)) (fun ht _ => ht _ wd91) D260_38 ?_
  refine s_Pf (ci := 6) (r := ("WordWright$Schemas", kT6, 8)) rfl (show 6 < 8 from by decide) rfl (Or.inr ⟨rfl, wd355, rfl, rfl⟩) (Or.inl rfl) rfl (by decide) D260_40 ?_
  refine s_Al gk0 (Or.inr ⟨0, D260_43, rfl⟩) ?_
  refine s_New (ci := 4) (r := ("WordWright$Machine", kT4, 6)) rfl rfl wd344 wd159 wd6 kr4 D260_44 ?_
  refine s_Dup D260_47 ?_
  refine s_Ci (id := 343) rfl (l_IN (j := 26) rfl ok251 rfl rfl rfl rfl wd161 D260_48.1) (?_ : rSnd _ _ 51 _)
  refine s_Pf (ci := 6) (r := ("WordWright$Schemas", kT6, 8)) rfl (show 7 < 8 from by decide) rfl (Or.inr ⟨rfl, wd356, rfl, rfl⟩) (Or.inl rfl) rfl (by decide) D260_51 ?_
  exact s_Rv rfl D260_54.1
theorem D261_0 : rDec M261 0 (.iload_n 1) 1 1 := ⟨by decide +kernel, rfl⟩
theorem D261_1 : rDec M261 1 (.bipush 10) 2 3 := ⟨by decide +kernel, rfl⟩
theorem D261_3 : rDec M261 3 (.idiv) 1 4 := ⟨by decide +kernel, rfl⟩
theorem D261_4 : rDec M261 4 (.bipush 10) 2 6 := ⟨by decide +kernel, rfl⟩
theorem D261_6 : rDec M261 6 (.idiv) 1 7 := ⟨by decide +kernel, rfl⟩
theorem D261_7 : rDec M261 7 (.istore 5) 2 9 := ⟨by decide +kernel, rfl⟩
theorem D261_9 : rDec M261 9 (.iload_n 1) 1 10 := ⟨by decide +kernel, rfl⟩
theorem D261_10 : rDec M261 10 (.bipush 10) 2 12 := ⟨by decide +kernel, rfl⟩
theorem D261_12 : rDec M261 12 (.idiv) 1 13 := ⟨by decide +kernel, rfl⟩
theorem D261_13 : rDec M261 13 (.bipush 10) 2 15 := ⟨by decide +kernel, rfl⟩
theorem D261_15 : rDec M261 15 (.irem) 1 16 := ⟨by decide +kernel, rfl⟩
theorem D261_16 : rDec M261 16 (.istore 6) 2 18 := ⟨by decide +kernel, rfl⟩
theorem D261_18 : rDec M261 18 (.iload_n 1) 1 19 := ⟨by decide +kernel, rfl⟩
theorem D261_19 : rDec M261 19 (.bipush 10) 2 21 := ⟨by decide +kernel, rfl⟩
theorem D261_21 : rDec M261 21 (.irem) 1 22 := ⟨by decide +kernel, rfl⟩
theorem D261_22 : rDec M261 22 (.istore 7) 2 24 := ⟨by decide +kernel, rfl⟩
theorem D261_24 : rDec M261 24 (.iconst 0) 1 25 := ⟨by decide +kernel, rfl⟩
theorem D261_25 : rDec M261 25 (.istore 8) 2 27 := ⟨by decide +kernel, rfl⟩
theorem D261_27 : rDec M261 27 (.iload 8) 2 29 := ⟨by decide +kernel, rfl⟩
theorem D261_29 : rDec M261 29 (.aload_n 2) 1 30 := ⟨by decide +kernel, rfl⟩
theorem D261_30 : rDec M261 30 (.getfield 74) 3 33 := ⟨by decide +kernel, rfl⟩
theorem D261_33 : rDec M261 33 (.if_icmp .ge 116) 3 36 := ⟨by decide +kernel, rfl⟩
theorem D261_36 : rDec M261 36 (.aload_n 2) 1 37 := ⟨by decide +kernel, rfl⟩
theorem D261_37 : rDec M261 37 (.getfield 77) 3 40 := ⟨by decide +kernel, rfl⟩
theorem D261_40 : rDec M261 40 (.iload 8) 2 42 := ⟨by decide +kernel, rfl⟩
theorem D261_42 : rDec M261 42 (.iaload) 1 43 := ⟨by decide +kernel, rfl⟩
theorem D261_43 : rDec M261 43 (.iload 5) 2 45 := ⟨by decide +kernel, rfl⟩
theorem D261_45 : rDec M261 45 (.if_icmp .ne 98) 3 48 := ⟨by decide +kernel, rfl⟩
theorem D261_48 : rDec M261 48 (.aload_n 0) 1 49 := ⟨by decide +kernel, rfl⟩
theorem D261_49 : rDec M261 49 (.getfield 25) 3 52 := ⟨by decide +kernel, rfl⟩
theorem D261_52 : rDec M261 52 (.iload_n 1) 1 53 := ⟨by decide +kernel, rfl⟩
theorem D261_53 : rDec M261 53 (.iaload) 1 54 := ⟨by decide +kernel, rfl⟩
theorem D261_54 : rDec M261 54 (.iconst 4) 1 55 := ⟨by decide +kernel, rfl⟩
theorem D261_55 : rDec M261 55 (.imul) 1 56 := ⟨by decide +kernel, rfl⟩
theorem D261_56 : rDec M261 56 (.aload_n 2) 1 57 := ⟨by decide +kernel, rfl⟩
theorem D261_57 : rDec M261 57 (.getfield 80) 3 60 := ⟨by decide +kernel, rfl⟩
theorem D261_60 : rDec M261 60 (.iload 8) 2 62 := ⟨by decide +kernel, rfl⟩
theorem D261_62 : rDec M261 62 (.iaload) 1 63 := ⟨by decide +kernel, rfl⟩
theorem D261_63 : rDec M261 63 (.iadd) 1 64 := ⟨by decide +kernel, rfl⟩
theorem D261_64 : rDec M261 64 (.istore 9) 2 66 := ⟨by decide +kernel, rfl⟩
theorem D261_66 : rDec M261 66 (.aload_n 3) 1 67 := ⟨by decide +kernel, rfl⟩
theorem D261_67 : rDec M261 67 (.iload 6) 2 69 := ⟨by decide +kernel, rfl⟩
theorem D261_69 : rDec M261 69 (.aload_n 2) 1 70 := ⟨by decide +kernel, rfl⟩
theorem D261_70 : rDec M261 70 (.getfield 80) 3 73 := ⟨by decide +kernel, rfl⟩
theorem D261_73 : rDec M261 73 (.iload 8) 2 75 := ⟨by decide +kernel, rfl⟩
theorem D261_75 : rDec M261 75 (.iaload) 1 76 := ⟨by decide +kernel, rfl⟩
theorem D261_76 : rDec M261 76 (.invokevirtual 83) 3 79 := ⟨by decide +kernel, rfl⟩
theorem D261_79 : rDec M261 79 (.istore 10) 2 81 := ⟨by decide +kernel, rfl⟩
theorem D261_81 : rDec M261 81 (.aload_n 2) 1 82 := ⟨by decide +kernel, rfl⟩
theorem D261_82 : rDec M261 82 (.getfield 87) 3 85 := ⟨by decide +kernel, rfl⟩
theorem D261_85 : rDec M261 85 (.iload 8) 2 87 := ⟨by decide +kernel, rfl⟩
theorem D261_87 : rDec M261 87 (.iaload) 1 88 := ⟨by decide +kernel, rfl⟩
theorem D261_88 : rDec M261 88 (.iconst (-1)) 1 89 := ⟨by decide +kernel, rfl⟩
theorem D261_89 : rDec M261 89 (.if_icmp .ne 8) 3 92 := ⟨by decide +kernel, rfl⟩
theorem D261_97 : rDec M261 97 (.aload 4) 2 99 := ⟨by decide +kernel, rfl⟩
theorem D261_99 : rDec M261 99 (.iload 7) 2 101 := ⟨by decide +kernel, rfl⟩
theorem D261_101 : rDec M261 101 (.aload_n 2) 1 102 := ⟨by decide +kernel, rfl⟩
theorem D261_102 : rDec M261 102 (.getfield 87) 3 105 := ⟨by decide +kernel, rfl⟩
theorem D261_105 : rDec M261 105 (.iload 8) 2 107 := ⟨by decide +kernel, rfl⟩
theorem D261_107 : rDec M261 107 (.iaload) 1 108 := ⟨by decide +kernel, rfl⟩
theorem D261_108 : rDec M261 108 (.invokevirtual 83) 3 111 := ⟨by decide +kernel, rfl⟩
theorem D261_111 : rDec M261 111 (.istore 11) 2 113 := ⟨by decide +kernel, rfl⟩
theorem D261_113 : rDec M261 113 (.aload_n 0) 1 114 := ⟨by decide +kernel, rfl⟩
theorem D261_114 : rDec M261 114 (.aload_n 2) 1 115 := ⟨by decide +kernel, rfl⟩
theorem D261_115 : rDec M261 115 (.getfield 90) 3 118 := ⟨by decide +kernel, rfl⟩
theorem D261_118 : rDec M261 118 (.iload 8) 2 120 := ⟨by decide +kernel, rfl⟩
theorem D261_120 : rDec M261 120 (.iaload) 1 121 := ⟨by decide +kernel, rfl⟩
theorem D261_121 : rDec M261 121 (.bipush 10) 2 123 := ⟨by decide +kernel, rfl⟩
theorem D261_123 : rDec M261 123 (.imul) 1 124 := ⟨by decide +kernel, rfl⟩
theorem D261_124 : rDec M261 124 (.iload 10) 2 126 := ⟨by decide +kernel, rfl⟩
theorem D261_126 : rDec M261 126 (.iadd) 1 127 := ⟨by decide +kernel, rfl⟩
theorem D261_127 : rDec M261 127 (.bipush 10) 2 129 := ⟨by decide +kernel, rfl⟩
theorem D261_129 : rDec M261 129 (.imul) 1 130 := ⟨by decide +kernel, rfl⟩
theorem D261_130 : rDec M261 130 (.iload 11) 2 132 := ⟨by decide +kernel, rfl⟩
theorem D261_132 : rDec M261 132 (.iadd) 1 133 := ⟨by decide +kernel, rfl⟩
theorem D261_133 : rDec M261 133 (.iload 9) 2 135 := ⟨by decide +kernel, rfl⟩
theorem D261_135 : rDec M261 135 (.ldc 64) 2 137 := ⟨by decide +kernel, rfl⟩
theorem D261_137 : rDec M261 137 (.invokestatic 93) 3 140 := ⟨by decide +kernel, rfl⟩
theorem D261_140 : rDec M261 140 (.invokevirtual 56) 3 143 := ⟨by decide +kernel, rfl⟩
theorem D261_143 : rDec M261 143 (.iinc 8 1) 3 146 := ⟨by decide +kernel, rfl⟩
theorem D261_146 : rDec M261 146 (.goto (-119)) 3 149 := ⟨by decide +kernel, rfl⟩
theorem D261_149 : rDec M261 149 (.return_) 1 150 := ⟨by decide +kernel, rfl⟩
theorem P261_149 : rSnd lab M261 149 B261_149 := by
  exact s_Rv rfl D261_149.1
theorem P261_143 : rSnd lab M261 143 B261_143 := by
  refine s_Inc gk8 sk8 (show 8 < 12 from by decide) kc_i_1 D261_143 ?_
  exact s_Go (pc' := 27) D261_146.1 (by decide) (s_Jb rfl)
theorem P261_97 : rSnd lab M261 97 B261_97 := by
  refine s_Al gk4 (Or.inl D261_97) ?_
  refine s_Il gk7 (Or.inl D261_99) ?_
  refine s_Al gk2 (Or.inr ⟨2, D261_101, rfl⟩) ?_
  refine s_Gf (ci := 4) (r := ("WordWright$Machine", kT4, 6)) rfl (show 5 < 6 from by decide) rfl (Or.inl wd187) (Or.inl rfl) rfl D261_102 ?_
  refine s_Il gk8 (Or.inl D261_105) ?_
  refine s_Ial D261_107 ?_
  refine s_Cv (ln := 3) (kd := 8) (C := "WordWright$Language") (by decide) (by decide +kernel) rfl (l_V rfl ok231 rfl wd766 wd505 wd506 D261_108.1) (?_ : rSnd _ _ 111 _)
  refine s_Is sk11 (show 11 < 12 from by decide) (Or.inl D261_111) ?_
  refine s_Al gk0 (Or.inr ⟨0, D261_113, rfl⟩) ?_
  refine s_Al gk2 (Or.inr ⟨2, D261_114, rfl⟩) ?_
  refine s_Gf (ci := 4) (r := ("WordWright$Machine", kT4, 6)) rfl (show 4 < 6 from by decide) rfl (Or.inl wd183) (Or.inl rfl) rfl D261_115 ?_
  refine s_Il gk8 (Or.inl D261_118) ?_
  refine s_Ial D261_120 ?_
  refine s_bi D261_121 kc_b_10 (by decide) ?_
  refine s_Bin q_imul n_mul rG2_x rE2_x D261_123 ?_
  refine s_Il gk10 (Or.inl D261_124) ?_
  refine s_Bin q_iadd n_add rG2_x e_add D261_126 ?_
  refine s_bi D261_127 kc_b_10 (by decide) ?_
  refine s_Bin q_imul n_mul rG2_x rE2_x D261_129 ?_
  refine s_Il gk11 (Or.inl D261_130) ?_
  refine s_Bin q_iadd n_add rG2_x e_add D261_132 ?_
  refine s_Il gk9 (Or.inl D261_133) ?_
  refine s_ld rfl wd761 D261_135 kc_I_2097152 (by decide) ?_
  refine s_Min rfl wd767 wd536 wd18 wd537 D261_137 ?_
  refine s_Cv (ln := 3) (kd := 16) (C := "WordWright$Search") (by decide) (by decide +kernel) rfl (l_V rfl ok267 rfl wd751 wd753 ws30 D261_140.1) (?_ : rSnd _ _ 143 _)
  exact P261_143
theorem P261_27 : rSnd lab M261 27 B261_27 := by
  refine s_Il gk8 (Or.inl D261_27) ?_
  refine s_Al gk2 (Or.inr ⟨2, D261_29, rfl⟩) ?_
  refine s_Gf (ci := 4) (r := ("WordWright$Machine", kT4, 6)) rfl (show 0 < 6 from by decide) rfl (Or.inl wd166) (Or.inl rfl) rfl D261_30 ?_
  refine s_Ic c_ge (i_ge (tg := 149) (by decide)) D261_33.1 P261_149 (?_ : rSnd _ _ 36 _)
  refine s_Al gk2 (Or.inr ⟨2, D261_36, rfl⟩) ?_
  refine s_Gf (ci := 4) (r := ("WordWright$Machine", kT4, 6)) rfl (show 2 < 6 from by decide) rfl (Or.inl wd175) (Or.inl rfl) rfl D261_37 ?_
  refine s_Il gk8 (Or.inl D261_40) ?_
  refine s_Ial D261_42 ?_
  refine s_Il gk5 (Or.inl D261_43) ?_
  refine s_Ic c_ne (i_ne (tg := 143) (by decide)) D261_45.1 P261_143 (?_ : rSnd _ _ 48 _)
  refine s_Al gk0 (Or.inr ⟨0, D261_48, rfl⟩) ?_
  refine s_Gf (ci := 7) (r := ("WordWright$Search", kT7, 7)) rfl (show 2 < 7 from by decide) rfl (Or.inl wd214) (Or.inl rfl) rfl D261_49 ?_
  refine s_Il gk1 (Or.inr ⟨1, D261_52, rfl⟩) ?_
  refine s_Ial D261_53 ?_
  refine s_ic D261_54 kc_i_4 (by decide) ?_
  refine s_Bin q_imul n_mul rG2_x rE2_x D261_55 ?_
  refine s_Al gk2 (Or.inr ⟨2, D261_56, rfl⟩) ?_
  refine s_Gf (ci := 4) (r := ("WordWright$Machine", kT4, 6)) rfl (show 3 < 6 from by decide) rfl (Or.inl wd179) (Or.inl rfl) rfl D261_57 ?_
  refine s_Il gk8 (Or.inl D261_60) ?_
  refine s_Ial D261_62 ?_
  refine s_Bin q_iadd n_add rG2_x e_add D261_63 ?_
  refine s_Is sk9 (show 9 < 12 from by decide) (Or.inl D261_64) ?_
  refine s_Al gk3 (Or.inr ⟨3, D261_66, rfl⟩) ?_
  refine s_Il gk6 (Or.inl D261_67) ?_
  refine s_Al gk2 (Or.inr ⟨2, D261_69, rfl⟩) ?_
  refine s_Gf (ci := 4) (r := ("WordWright$Machine", kT4, 6)) rfl (show 3 < 6 from by decide) rfl (Or.inl wd179) (Or.inl rfl) rfl D261_70 ?_
  refine s_Il gk8 (Or.inl D261_73) ?_
  refine s_Ial D261_75 ?_
  refine s_Cv (ln := 3) (kd := 8) (C := "WordWright$Language") (by decide) (by decide +kernel) rfl (l_V rfl ok231 rfl wd766 wd505 wd506 D261_76.1) (?_ : rSnd _ _ 79 _)
  refine s_Is sk10 (show 10 < 12 from by decide) (Or.inl D261_79) ?_
  refine s_Al gk2 (Or.inr ⟨2, D261_81, rfl⟩) ?_
  refine s_Gf (ci := 4) (r := ("WordWright$Machine", kT4, 6)) rfl (show 5 < 6 from by decide) rfl (Or.inl wd187) (Or.inl rfl) rfl D261_82 ?_
  refine s_Il gk8 (Or.inl D261_85) ?_
  refine s_Ial D261_87 ?_
  refine s_ic D261_88 kc_i_m1 (by decide) ?_
  refine s_Ic c_ne (i_ne (tg := 97) (by decide)) D261_89.1 P261_97 (?_ : rSnd _ _ 92 _)
  exact rSnd_none
theorem P261_0 : rSnd lab M261 0 B261_0 := by
  refine s_Ent ?_
  refine s_Il gk1 (Or.inr ⟨1, D261_0, rfl⟩) ?_
  refine s_bi D261_1 kc_b_10 (by decide) ?_
  refine s_Div q_idiv n_div g_div D261_3 ?_
  refine s_bi D261_4 kc_b_10 (by decide) ?_
  refine s_Div q_idiv n_div g_div D261_6 ?_
  refine s_Is sk5 (show 5 < 12 from by decide) (Or.inl D261_7) ?_
  refine s_Il gk1 (Or.inr ⟨1, D261_9, rfl⟩) ?_
  refine s_bi D261_10 kc_b_10 (by decide) ?_
  refine s_Div q_idiv n_div g_div D261_12 ?_
  refine s_bi D261_13 kc_b_10 (by decide) ?_
  refine s_Div q_irem n_rem rG2_x D261_15 ?_
  refine s_Is sk6 (show 6 < 12 from by decide) (Or.inl D261_16) ?_
  refine s_Il gk1 (Or.inr ⟨1, D261_18, rfl⟩) ?_
  refine s_bi D261_19 kc_b_10 (by decide) ?_
  refine s_Div q_irem n_rem rG2_x D261_21 ?_
  refine s_Is sk7 (show 7 < 12 from by decide) (Or.inl D261_22) ?_
  refine s_ic D261_24 kc_i_0 (by decide) ?_
  refine s_Is sk8 (show 8 < 12 from by decide) (Or.inl D261_25) ?_
  exact P261_27
theorem D262_0 : rDec M262 0 (.aload_n 0) 1 1 := ⟨by decide +kernel, rfl⟩
theorem D262_1 : rDec M262 1 (.invokespecial 3) 3 4 := ⟨by decide +kernel, rfl⟩
theorem D262_4 : rDec M262 4 (.aload_n 0) 1 5 := ⟨by decide +kernel, rfl⟩
theorem D262_5 : rDec M262 5 (.new 9) 3 8 := ⟨by decide +kernel, rfl⟩
theorem D262_8 : rDec M262 8 (.dup) 1 9 := ⟨by decide +kernel, rfl⟩
theorem D262_9 : rDec M262 9 (.invokespecial 11) 3 12 := ⟨by decide +kernel, rfl⟩
theorem D262_12 : rDec M262 12 (.putfield 12) 3 15 := ⟨by decide +kernel, rfl⟩
theorem D262_15 : rDec M262 15 (.aload_n 0) 1 16 := ⟨by decide +kernel, rfl⟩
theorem D262_16 : rDec M262 16 (.new 18) 3 19 := ⟨by decide +kernel, rfl⟩
theorem D262_19 : rDec M262 19 (.dup) 1 20 := ⟨by decide +kernel, rfl⟩
theorem D262_20 : rDec M262 20 (.invokespecial 20) 3 23 := ⟨by decide +kernel, rfl⟩
theorem D262_23 : rDec M262 23 (.putfield 21) 3 26 := ⟨by decide +kernel, rfl⟩
theorem D262_26 : rDec M262 26 (.aload_n 0) 1 27 := ⟨by decide +kernel, rfl⟩
theorem D262_27 : rDec M262 27 (.sipush 400) 3 30 := ⟨by decide +kernel, rfl⟩
theorem D262_30 : rDec M262 30 (.newarray .int) 2 32 := ⟨by decide +kernel, rfl⟩
theorem D262_32 : rDec M262 32 (.putfield 25) 3 35 := ⟨by decide +kernel, rfl⟩
theorem D262_35 : rDec M262 35 (.aload_n 0) 1 36 := ⟨by decide +kernel, rfl⟩
theorem D262_36 : rDec M262 36 (.sipush 400) 3 39 := ⟨by decide +kernel, rfl⟩
theorem D262_39 : rDec M262 39 (.newarray .int) 2 41 := ⟨by decide +kernel, rfl⟩
theorem D262_41 : rDec M262 41 (.putfield 29) 3 44 := ⟨by decide +kernel, rfl⟩
theorem D262_44 : rDec M262 44 (.aload_n 0) 1 45 := ⟨by decide +kernel, rfl⟩
theorem D262_45 : rDec M262 45 (.iconst 4) 1 46 := ⟨by decide +kernel, rfl⟩
theorem D262_46 : rDec M262 46 (.newarray .int) 2 48 := ⟨by decide +kernel, rfl⟩
theorem D262_48 : rDec M262 48 (.putfield 32) 3 51 := ⟨by decide +kernel, rfl⟩
theorem D262_51 : rDec M262 51 (.aload_n 0) 1 52 := ⟨by decide +kernel, rfl⟩
theorem D262_52 : rDec M262 52 (.bipush 8) 2 54 := ⟨by decide +kernel, rfl⟩
theorem D262_54 : rDec M262 54 (.newarray .int) 2 56 := ⟨by decide +kernel, rfl⟩
theorem D262_56 : rDec M262 56 (.putfield 35) 3 59 := ⟨by decide +kernel, rfl⟩
theorem D262_59 : rDec M262 59 (.aload_n 0) 1 60 := ⟨by decide +kernel, rfl⟩
theorem D262_60 : rDec M262 60 (.getfield 12) 3 63 := ⟨by decide +kernel, rfl⟩
theorem D262_63 : rDec M262 63 (.bipush 15) 2 65 := ⟨by decide +kernel, rfl⟩
theorem D262_65 : rDec M262 65 (.invokevirtual 38) 3 68 := ⟨by decide +kernel, rfl⟩
theorem D262_68 : rDec M262 68 (.return_) 1 69 := ⟨by decide +kernel, rfl⟩
theorem P262_0 : rSnd lab M262 0 B262_0 := by
  refine s_Ent ?_
  refine s_Al gk0 (Or.inr ⟨0, D262_0, rfl⟩) ?_
  refine s_Oi rfl wd157 wd62 wd63 D262_1 ?_
  refine s_Al gk0 (Or.inr ⟨0, D262_4, rfl⟩) ?_
  refine s_New (ci := 4) (r := ("WordWright$Machine", kT4, 6)) rfl rfl wd158 wd159 wd6 kr4 D262_5 ?_
  refine s_Dup D262_8 ?_
  refine s_Ci (id := 343) rfl (l_IN (j := 27) rfl ok251 rfl rfl rfl rfl wd161 D262_9.1) (?_ : rSnd _ _ 12 _)
  refine s_Pf (ci := 7) (r := ("WordWright$Search", kT7, 7)) rfl (show 0 < 7 from by decide) rfl (Or.inr ⟨rfl, wd212, rfl, rfl⟩) (Or.inl rfl) rfl (by decide) D262_12 ?_
  refine s_Al gk0 (Or.inr ⟨0, D262_15, rfl⟩) ?_
  refine s_New (ci := 3) (r := ("WordWright$Language", kT3, 3)) rfl rfl wd202 wd68 wd2 kr3 D262_16 ?_
  refine s_Dup D262_19 ?_
  refine s_Ci (id := 323) rfl (l_IN (j := 28) rfl ok239 rfl rfl rfl rfl wd70 D262_20.1) (?_ : rSnd _ _ 23 _)
  refine s_Pf (ci := 7) (r := ("WordWright$Search", kT7, 7)) rfl (show 1 < 7 from by decide) rfl (Or.inr ⟨rfl, wd213, rfl, rfl⟩) (Or.inl rfl) rfl (by decide) D262_23 ?_
  refine s_Al gk0 (Or.inr ⟨0, D262_26, rfl⟩) ?_
  refine s_si D262_27 kc_s_400 (by decide) ?_
  refine s_Nwa (t := 0) rfl (q_newa (at_ := .int) (Or.inl rfl)) (fun ht _ => ht _ wd91) D262_30 ?_
  refine s_Pf (ci := 7) (r := ("WordWright$Search", kT7, 7)) rfl (show 2 < 7 from by decide) rfl (Or.inr ⟨rfl, wd214, rfl, rfl⟩) (Or.inl rfl) rfl (by decide) D262_32 ?_
  refine s_Al gk0 (Or.inr ⟨0, D262_35, rfl⟩) ?_
  refine s_si D262_36 kc_s_400 (by decide) ?_
  refine s_Nwa (t := 0) rfl (q_newa (at_ := .int) (Or.inl rfl)) (fun ht _ => ht _ wd91) D262_39 ?_
  refine s_Pf (ci := 7) (r := ("WordWright$Search", kT7, 7)) rfl (show 3 < 7 from by decide) rfl (Or.inr ⟨rfl, wd215, rfl, rfl⟩) (Or.inl rfl) rfl (by decide) D262_41 ?_
  refine s_Al gk0 (Or.inr ⟨0, D262_44, rfl⟩) ?_
  refine s_ic D262_45 kc_i_4 (by decide) ?_
  refine s_Nwa (t := 0) rfl (q_newa (at_ := .int) (Or.inl rfl)) (fun ht _ => ht _ wd91) D262_46 ?_
  refine s_Pf (ci := 7) (r := ("WordWright$Search", kT7, 7)) rfl (show 5 < 7 from by decide) rfl (Or.inr ⟨rfl, wd217, rfl, rfl⟩) (Or.inl rfl) rfl (by decide) D262_48 ?_
  refine s_Al gk0 (Or.inr ⟨0, D262_51, rfl⟩) ?_
  refine s_bi D262_52 kc_b_8 (by decide) ?_
  refine s_Nwa (t := 0) rfl (q_newa (at_ := .int) (Or.inl rfl)) (fun ht _ => ht _ wd91) D262_54 ?_
  refine s_Pf (ci := 7) (r := ("WordWright$Search", kT7, 7)) rfl (show 6 < 7 from by decide) rfl (Or.inr ⟨rfl, wd218, rfl, rfl⟩) (Or.inl rfl) rfl (by decide) D262_56 ?_
  refine s_Al gk0 (Or.inr ⟨0, D262_59, rfl⟩) ?_
  refine s_Gf (ci := 7) (r := ("WordWright$Search", kT7, 7)) rfl (show 0 < 7 from by decide) rfl (Or.inl wd212) (Or.inl rfl) rfl D262_60 ?_
  refine s_bi D262_63 kc_b_15 (by decide) ?_
  refine s_Cv (ln := 3) (kd := 10) (C := "WordWright$Machine") (by decide) (by decide +kernel) rfl (l_V rfl ok250 rfl wd204 wd205 wd206 D262_65.1) (?_ : rSnd _ _ 68 _)
  exact s_Rv rfl D262_68.1
theorem D263_0 : rDec M263 0 (.iconst 0) 1 1 := ⟨by decide +kernel, rfl⟩
theorem D263_1 : rDec M263 1 (.istore 6) 2 3 := ⟨by decide +kernel, rfl⟩
theorem D263_3 : rDec M263 3 (.iload_n 1) 1 4 := ⟨by decide +kernel, rfl⟩
theorem D263_4 : rDec M263 4 (.istore 7) 2 6 := ⟨by decide +kernel, rfl⟩
theorem D263_6 : rDec M263 6 (.iload 7) 2 8 := ⟨by decide +kernel, rfl⟩
theorem D263_8 : rDec M263 8 (.iload_n 2) 1 9 := ⟨by decide +kernel, rfl⟩
theorem D263_9 : rDec M263 9 (.if_icmp .ge 100) 3 12 := ⟨by decide +kernel, rfl⟩
theorem D263_12 : rDec M263 12 (.aload_n 0) 1 13 := ⟨by decide +kernel, rfl⟩
theorem D263_13 : rDec M263 13 (.getfield 29) 3 16 := ⟨by decide +kernel, rfl⟩
theorem D263_16 : rDec M263 16 (.iload 7) 2 18 := ⟨by decide +kernel, rfl⟩
theorem D263_18 : rDec M263 18 (.iaload) 1 19 := ⟨by decide +kernel, rfl⟩
theorem D263_19 : rDec M263 19 (.istore 8) 2 21 := ⟨by decide +kernel, rfl⟩
theorem D263_21 : rDec M263 21 (.aload_n 3) 1 22 := ⟨by decide +kernel, rfl⟩
theorem D263_22 : rDec M263 22 (.iload 8) 2 24 := ⟨by decide +kernel, rfl⟩
theorem D263_24 : rDec M263 24 (.bipush 10) 2 26 := ⟨by decide +kernel, rfl⟩
theorem D263_26 : rDec M263 26 (.idiv) 1 27 := ⟨by decide +kernel, rfl⟩
theorem D263_27 : rDec M263 27 (.bipush 10) 2 29 := ⟨by decide +kernel, rfl⟩
theorem D263_29 : rDec M263 29 (.idiv) 1 30 := ⟨by decide +kernel, rfl⟩
theorem D263_30 : rDec M263 30 (.invokevirtual 69) 3 33 := ⟨by decide +kernel, rfl⟩
theorem D263_33 : rDec M263 33 (.ifCond .eq 36) 3 36 := ⟨by decide +kernel, rfl⟩
theorem D263_36 : rDec M263 36 (.aload 4) 2 38 := ⟨by decide +kernel, rfl⟩
theorem D263_38 : rDec M263 38 (.iload 8) 2 40 := ⟨by decide +kernel, rfl⟩
theorem D263_40 : rDec M263 40 (.bipush 10) 2 42 := ⟨by decide +kernel, rfl⟩
theorem D263_42 : rDec M263 42 (.idiv) 1 43 := ⟨by decide +kernel, rfl⟩
theorem D263_43 : rDec M263 43 (.bipush 10) 2 45 := ⟨by decide +kernel, rfl⟩
theorem D263_45 : rDec M263 45 (.irem) 1 46 := ⟨by decide +kernel, rfl⟩
theorem D263_46 : rDec M263 46 (.invokevirtual 73) 3 49 := ⟨by decide +kernel, rfl⟩
theorem D263_49 : rDec M263 49 (.ifCond .eq 20) 3 52 := ⟨by decide +kernel, rfl⟩
theorem D263_52 : rDec M263 52 (.aload 5) 2 54 := ⟨by decide +kernel, rfl⟩
theorem D263_54 : rDec M263 54 (.iload 8) 2 56 := ⟨by decide +kernel, rfl⟩
theorem D263_56 : rDec M263 56 (.bipush 10) 2 58 := ⟨by decide +kernel, rfl⟩
theorem D263_58 : rDec M263 58 (.irem) 1 59 := ⟨by decide +kernel, rfl⟩
theorem D263_59 : rDec M263 59 (.invokevirtual 73) 3 62 := ⟨by decide +kernel, rfl⟩
theorem D263_62 : rDec M263 62 (.ifCond .ne 7) 3 65 := ⟨by decide +kernel, rfl⟩
theorem D263_65 : rDec M263 65 (.iconst 1) 1 66 := ⟨by decide +kernel, rfl⟩
theorem D263_66 : rDec M263 66 (.goto 4) 3 69 := ⟨by decide +kernel, rfl⟩
theorem D263_69 : rDec M263 69 (.iconst 0) 1 70 := ⟨by decide +kernel, rfl⟩
theorem D263_70 : rDec M263 70 (.istore 9) 2 72 := ⟨by decide +kernel, rfl⟩
theorem D263_72 : rDec M263 72 (.iload 9) 2 74 := ⟨by decide +kernel, rfl⟩
theorem D263_74 : rDec M263 74 (.ifCond .eq 29) 3 77 := ⟨by decide +kernel, rfl⟩
theorem D263_77 : rDec M263 77 (.iload 6) 2 79 := ⟨by decide +kernel, rfl⟩
theorem D263_79 : rDec M263 79 (.ifCond .eq 15) 3 82 := ⟨by decide +kernel, rfl⟩
theorem D263_94 : rDec M263 94 (.aload_n 0) 1 95 := ⟨by decide +kernel, rfl⟩
theorem D263_95 : rDec M263 95 (.getfield 25) 3 98 := ⟨by decide +kernel, rfl⟩
theorem D263_98 : rDec M263 98 (.iload 8) 2 100 := ⟨by decide +kernel, rfl⟩
theorem D263_100 : rDec M263 100 (.iaload) 1 101 := ⟨by decide +kernel, rfl⟩
theorem D263_101 : rDec M263 101 (.istore 6) 2 103 := ⟨by decide +kernel, rfl⟩
theorem D263_103 : rDec M263 103 (.iinc 7 1) 3 106 := ⟨by decide +kernel, rfl⟩
theorem D263_106 : rDec M263 106 (.goto (-100)) 3 109 := ⟨by decide +kernel, rfl⟩
theorem D263_109 : rDec M263 109 (.iload 6) 2 111 := ⟨by decide +kernel, rfl⟩
theorem D263_111 : rDec M263 111 (.ireturn) 1 112 := ⟨by decide +kernel, rfl⟩
theorem P263_109 : rSnd lab M263 109 B263_109 := by
  refine s_Il gk6 (Or.inl D263_109) ?_
  exact s_Ri (Or.inl rfl) D263_111.1
theorem P263_103 : rSnd lab M263 103 B263_103 := by
  refine s_Inc gk7 sk7 (show 7 < 10 from by decide) kc_i_1 D263_103 ?_
  exact s_Go (pc' := 6) D263_106.1 (by decide) (s_Jb rfl)
theorem P263_94 : rSnd lab M263 94 B263_94 := by
  refine s_Al gk0 (Or.inr ⟨0, D263_94, rfl⟩) ?_
  refine s_Gf (ci := 7) (r := ("WordWright$Search", kT7, 7)) rfl (show 2 < 7 from by decide) rfl (Or.inl wd214) (Or.inl rfl) rfl D263_95 ?_
  refine s_Il gk8 (Or.inl D263_98) ?_
  refine s_Ial D263_100 ?_
  refine s_Is sk6 (show 6 < 10 from by decide) (Or.inl D263_101) ?_
  exact P263_103
theorem P263_70 : rSnd lab M263 70 B263_70 := by
  refine s_Is sk9 (show 9 < 10 from by decide) (Or.inl D263_70) ?_
  refine s_Il gk9 (Or.inl D263_72) ?_
  refine s_If c_eq (fun _ => rfl) (fun _ _ => rfl) (b_eq (tg := 103) (by decide)) D263_74.1 P263_103 (?_ : rSnd _ _ 77 _)
  refine s_Il gk6 (Or.inl D263_77) ?_
  refine s_If c_eq (fun _ => rfl) (fun _ _ => rfl) (b_eq (tg := 94) (by decide)) D263_79.1 P263_94 (?_ : rSnd _ _ 82 _)
  exact rSnd_none
theorem P263_69 : rSnd lab M263 69 B263_69 := by
  refine s_ic D263_69 kc_i_0 (by decide) ?_
  exact P263_70
theorem P263_6 : rSnd lab M263 6 B263_6 := by
  refine s_Il gk7 (Or.inl D263_6) ?_
  refine s_Il gk2 (Or.inr ⟨2, D263_8, rfl⟩) ?_
  refine s_Ic c_ge (i_ge (tg := 109) (by decide)) D263_9.1 P263_109 (?_ : rSnd _ _ 12 _)
  refine s_Al gk0 (Or.inr ⟨0, D263_12, rfl⟩) ?_
  refine s_Gf (ci := 7) (r := ("WordWright$Search", kT7, 7)) rfl (show 3 < 7 from by decide) rfl (Or.inl wd215) (Or.inl rfl) rfl D263_13 ?_
  refine s_Il gk7 (Or.inl D263_16) ?_
  refine s_Ial D263_18 ?_
  refine s_Is sk8 (show 8 < 10 from by decide) (Or.inl D263_19) ?_
  refine s_Al gk3 (Or.inr ⟨3, D263_21, rfl⟩) ?_
  refine s_Il gk8 (Or.inl D263_22) ?_
  refine s_bi D263_24 kc_b_10 (by decide) ?_
  refine s_Div q_idiv n_div g_div D263_26 ?_
  refine s_bi D263_27 kc_b_10 (by decide) ?_
  refine s_Div q_idiv n_div g_div D263_29 ?_
  refine s_Cv (ln := 3) (kd := 10) (C := "WordWright$Machine") (by decide) (by decide +kernel) rfl (l_V rfl ok252 rfl wd759 wd717 wd718 D263_30.1) (?_ : rSnd _ _ 33 _)
  refine s_If c_eq (fun _ => rfl) (fun _ _ => rfl) (b_eq (tg := 69) (by decide)) D263_33.1 P263_69 (?_ : rSnd _ _ 36 _)
  refine s_Al gk4 (Or.inl D263_36) ?_
  refine s_Il gk8 (Or.inl D263_38) ?_
  refine s_bi D263_40 kc_b_10 (by decide) ?_
  refine s_Div q_idiv n_div g_div D263_42 ?_
  refine s_bi D263_43 kc_b_10 (by decide) ?_
  refine s_Div q_irem n_rem rG2_x D263_45 ?_
  refine s_Cv (ln := 3) (kd := 8) (C := "WordWright$Language") (by decide) (by decide +kernel) rfl (l_V rfl ok240 rfl wd760 wd509 wd510 D263_46.1) (?_ : rSnd _ _ 49 _)
  refine s_If c_eq (fun _ => rfl) (fun _ _ => rfl) (b_eq (tg := 69) (by decide)) D263_49.1 P263_69 (?_ : rSnd _ _ 52 _)
  refine s_Al gk5 (Or.inl D263_52) ?_
  refine s_Il gk8 (Or.inl D263_54) ?_
  refine s_bi D263_56 kc_b_10 (by decide) ?_
  refine s_Div q_irem n_rem rG2_x D263_58 ?_
  refine s_Cv (ln := 3) (kd := 8) (C := "WordWright$Language") (by decide) (by decide +kernel) rfl (l_V rfl ok240 rfl wd760 wd509 wd510 D263_59.1) (?_ : rSnd _ _ 62 _)
  refine s_If c_ne (fun _ => rfl) (fun _ _ => rfl) (b_ne (tg := 69) (by decide)) D263_62.1 P263_69 (?_ : rSnd _ _ 65 _)
  refine s_ic D263_65 kc_i_1 (by decide) ?_
  exact s_Go (pc' := 70) D263_66.1 (by decide) P263_70
theorem P263_0 : rSnd lab M263 0 B263_0 := by
  refine s_Ent ?_
  refine s_ic D263_0 kc_i_0 (by decide) ?_
  refine s_Is sk6 (show 6 < 10 from by decide) (Or.inl D263_1) ?_
  refine s_Il gk1 (Or.inr ⟨1, D263_3, rfl⟩) ?_
  refine s_Is sk7 (show 7 < 10 from by decide) (Or.inl D263_4) ?_
  exact P263_6
theorem D264_0 : rDec M264 0 (.aload_n 0) 1 1 := ⟨by decide +kernel, rfl⟩
theorem D264_1 : rDec M264 1 (.aload_n 0) 1 2 := ⟨by decide +kernel, rfl⟩
theorem D264_2 : rDec M264 2 (.getfield 12) 3 5 := ⟨by decide +kernel, rfl⟩
theorem D264_5 : rDec M264 5 (.aload_n 1) 1 6 := ⟨by decide +kernel, rfl⟩
theorem D264_6 : rDec M264 6 (.aload_n 2) 1 7 := ⟨by decide +kernel, rfl⟩
theorem D264_7 : rDec M264 7 (.invokevirtual 42) 3 10 := ⟨by decide +kernel, rfl⟩
theorem D264_10 : rDec M264 10 (.ireturn) 1 11 := ⟨by decide +kernel, rfl⟩
theorem P264_0 : rSnd lab M264 0 B264_0 := by
  refine s_Ent ?_
  refine s_Al gk0 (Or.inr ⟨0, D264_0, rfl⟩) ?_
  refine s_Al gk0 (Or.inr ⟨0, D264_1, rfl⟩) ?_
  refine s_Gf (ci := 7) (r := ("WordWright$Search", kT7, 7)) rfl (show 0 < 7 from by decide) rfl (Or.inl wd212) (Or.inl rfl) rfl D264_2 ?_
  refine s_Al gk1 (Or.inr ⟨1, D264_5, rfl⟩) ?_
  refine s_Al gk2 (Or.inr ⟨2, D264_6, rfl⟩) ?_
  refine s_Cv (ln := 3) (kd := 16) (C := "WordWright$Search") (by decide) (by decide +kernel) rfl (l_V rfl ok265 rfl wd746 wd747 wd748 D264_7.1) (?_ : rSnd _ _ 10 _)
  exact s_Ri (Or.inl rfl) D264_10.1
theorem D265_0 : rDec M265 0 (.aload_n 0) 1 1 := ⟨by decide +kernel, rfl⟩
theorem D265_1 : rDec M265 1 (.getfield 25) 3 4 := ⟨by decide +kernel, rfl⟩
theorem D265_4 : rDec M265 4 (.iconst 0) 1 5 := ⟨by decide +kernel, rfl⟩
theorem D265_5 : rDec M265 5 (.invokestatic 46) 3 8 := ⟨by decide +kernel, rfl⟩
theorem D265_8 : rDec M265 8 (.aload_n 0) 1 9 := ⟨by decide +kernel, rfl⟩
theorem D265_9 : rDec M265 9 (.iconst 0) 1 10 := ⟨by decide +kernel, rfl⟩
theorem D265_10 : rDec M265 10 (.putfield 52) 3 13 := ⟨by decide +kernel, rfl⟩
theorem D265_13 : rDec M265 13 (.aload_n 0) 1 14 := ⟨by decide +kernel, rfl⟩
theorem D265_14 : rDec M265 14 (.iconst 0) 1 15 := ⟨by decide +kernel, rfl⟩
theorem D265_15 : rDec M265 15 (.iconst 1) 1 16 := ⟨by decide +kernel, rfl⟩
theorem D265_16 : rDec M265 16 (.invokevirtual 56) 3 19 := ⟨by decide +kernel, rfl⟩
theorem D265_19 : rDec M265 19 (.iconst 0) 1 20 := ⟨by decide +kernel, rfl⟩
theorem D265_20 : rDec M265 20 (.istore 4) 2 22 := ⟨by decide +kernel, rfl⟩
theorem D265_22 : rDec M265 22 (.iconst 0) 1 23 := ⟨by decide +kernel, rfl⟩
theorem D265_23 : rDec M265 23 (.istore 5) 2 25 := ⟨by decide +kernel, rfl⟩
theorem D265_25 : rDec M265 25 (.iload 5) 2 27 := ⟨by decide +kernel, rfl⟩
theorem D265_27 : rDec M265 27 (.sipush 400) 3 30 := ⟨by decide +kernel, rfl⟩
theorem D265_30 : rDec M265 30 (.if_icmp .ge 91) 3 33 := ⟨by decide +kernel, rfl⟩
theorem D265_33 : rDec M265 33 (.iload 4) 2 35 := ⟨by decide +kernel, rfl⟩
theorem D265_35 : rDec M265 35 (.aload_n 0) 1 36 := ⟨by decide +kernel, rfl⟩
theorem D265_36 : rDec M265 36 (.getfield 52) 3 39 := ⟨by decide +kernel, rfl⟩
theorem D265_39 : rDec M265 39 (.if_icmp .ge 82) 3 42 := ⟨by decide +kernel, rfl⟩
theorem D265_42 : rDec M265 42 (.aload_n 0) 1 43 := ⟨by decide +kernel, rfl⟩
theorem D265_43 : rDec M265 43 (.getfield 52) 3 46 := ⟨by decide +kernel, rfl⟩
theorem D265_46 : rDec M265 46 (.istore 6) 2 48 := ⟨by decide +kernel, rfl⟩
theorem D265_48 : rDec M265 48 (.aload_n 0) 1 49 := ⟨by decide +kernel, rfl⟩
theorem D265_49 : rDec M265 49 (.iload 4) 2 51 := ⟨by decide +kernel, rfl⟩
theorem D265_51 : rDec M265 51 (.iload 6) 2 53 := ⟨by decide +kernel, rfl⟩
theorem D265_53 : rDec M265 53 (.aload_n 1) 1 54 := ⟨by decide +kernel, rfl⟩
theorem D265_54 : rDec M265 54 (.aload_n 2) 1 55 := ⟨by decide +kernel, rfl⟩
theorem D265_55 : rDec M265 55 (.aload_n 3) 1 56 := ⟨by decide +kernel, rfl⟩
theorem D265_56 : rDec M265 56 (.invokevirtual 60) 3 59 := ⟨by decide +kernel, rfl⟩
theorem D265_59 : rDec M265 59 (.istore 7) 2 61 := ⟨by decide +kernel, rfl⟩
theorem D265_61 : rDec M265 61 (.iload 7) 2 63 := ⟨by decide +kernel, rfl⟩
theorem D265_63 : rDec M265 63 (.ifCond .eq 17) 3 66 := ⟨by decide +kernel, rfl⟩
theorem D265_66 : rDec M265 66 (.iload 7) 2 68 := ⟨by decide +kernel, rfl⟩
theorem D265_68 : rDec M265 68 (.ldc 64) 2 70 := ⟨by decide +kernel, rfl⟩
theorem D265_70 : rDec M265 70 (.if_icmp .ne 7) 3 73 := ⟨by decide +kernel, rfl⟩
theorem D265_77 : rDec M265 77 (.iload 7) 2 79 := ⟨by decide +kernel, rfl⟩
theorem D265_79 : rDec M265 79 (.ireturn) 1 80 := ⟨by decide +kernel, rfl⟩
theorem D265_80 : rDec M265 80 (.iload 4) 2 82 := ⟨by decide +kernel, rfl⟩
theorem D265_82 : rDec M265 82 (.istore 8) 2 84 := ⟨by decide +kernel, rfl⟩
theorem D265_84 : rDec M265 84 (.iload 8) 2 86 := ⟨by decide +kernel, rfl⟩
theorem D265_86 : rDec M265 86 (.iload 6) 2 88 := ⟨by decide +kernel, rfl⟩
theorem D265_88 : rDec M265 88 (.if_icmp .ge 23) 3 91 := ⟨by decide +kernel, rfl⟩
theorem D265_91 : rDec M265 91 (.aload_n 0) 1 92 := ⟨by decide +kernel, rfl⟩
theorem D265_92 : rDec M265 92 (.aload_n 0) 1 93 := ⟨by decide +kernel, rfl⟩
theorem D265_93 : rDec M265 93 (.getfield 29) 3 96 := ⟨by decide +kernel, rfl⟩
theorem D265_96 : rDec M265 96 (.iload 8) 2 98 := ⟨by decide +kernel, rfl⟩
theorem D265_98 : rDec M265 98 (.iaload) 1 99 := ⟨by decide +kernel, rfl⟩
theorem D265_99 : rDec M265 99 (.aload_n 1) 1 100 := ⟨by decide +kernel, rfl⟩
theorem D265_100 : rDec M265 100 (.aload_n 2) 1 101 := ⟨by decide +kernel, rfl⟩
theorem D265_101 : rDec M265 101 (.aload_n 3) 1 102 := ⟨by decide +kernel, rfl⟩
theorem D265_102 : rDec M265 102 (.invokevirtual 65) 3 105 := ⟨by decide +kernel, rfl⟩
theorem D265_105 : rDec M265 105 (.iinc 8 1) 3 108 := ⟨by decide +kernel, rfl⟩
theorem D265_108 : rDec M265 108 (.goto (-24)) 3 111 := ⟨by decide +kernel, rfl⟩
theorem D265_111 : rDec M265 111 (.iload 6) 2 113 := ⟨by decide +kernel, rfl⟩
theorem D265_113 : rDec M265 113 (.istore 4) 2 115 := ⟨by decide +kernel, rfl⟩
theorem D265_115 : rDec M265 115 (.iinc 5 1) 3 118 := ⟨by decide +kernel, rfl⟩
theorem D265_118 : rDec M265 118 (.goto (-93)) 3 121 := ⟨by decide +kernel, rfl⟩
theorem D265_121 : rDec M265 121 (.iconst 0) 1 122 := ⟨by decide +kernel, rfl⟩
theorem D265_122 : rDec M265 122 (.ireturn) 1 123 := ⟨by decide +kernel, rfl⟩
theorem P265_121 : rSnd lab M265 121 B265_121 := by
  refine s_ic D265_121 kc_i_0 (by decide) ?_
  exact s_Ri (Or.inl rfl) D265_122.1
theorem P265_111 : rSnd lab M265 111 B265_111 := by
  refine s_Il gk6 (Or.inl D265_111) ?_
  refine s_Is sk4 (show 4 < 9 from by decide) (Or.inl D265_113) ?_
  refine s_Inc gk5 sk5 (show 5 < 9 from by decide) kc_i_1 D265_115 ?_
  exact s_Go (pc' := 25) D265_118.1 (by decide) (s_Jb rfl)
theorem P265_84 : rSnd lab M265 84 B265_84 := by
  refine s_Il gk8 (Or.inl D265_84) ?_
  refine s_Il gk6 (Or.inl D265_86) ?_
  refine s_Ic c_ge (i_ge (tg := 111) (by decide)) D265_88.1 P265_111 (?_ : rSnd _ _ 91 _)
  refine s_Al gk0 (Or.inr ⟨0, D265_91, rfl⟩) ?_
  refine s_Al gk0 (Or.inr ⟨0, D265_92, rfl⟩) ?_
  refine s_Gf (ci := 7) (r := ("WordWright$Search", kT7, 7)) rfl (show 3 < 7 from by decide) rfl (Or.inl wd215) (Or.inl rfl) rfl D265_93 ?_
  refine s_Il gk8 (Or.inl D265_96) ?_
  refine s_Ial D265_98 ?_
  refine s_Al gk1 (Or.inr ⟨1, D265_99, rfl⟩) ?_
  refine s_Al gk2 (Or.inr ⟨2, D265_100, rfl⟩) ?_
  refine s_Al gk3 (Or.inr ⟨3, D265_101, rfl⟩) ?_
  refine s_Cv (ln := 3) (kd := 16) (C := "WordWright$Search") (by decide) (by decide +kernel) rfl (l_V rfl ok261 rfl wd762 wd764 ws32 D265_102.1) (?_ : rSnd _ _ 105 _)
  refine s_Inc gk8 sk8 (show 8 < 9 from by decide) kc_i_1 D265_105 ?_
  exact s_Go (pc' := 84) D265_108.1 (by decide) (s_Jb rfl)
theorem P265_80 : rSnd lab M265 80 B265_80 := by
  refine s_Il gk4 (Or.inl D265_80) ?_
  refine s_Is sk8 (show 8 < 9 from by decide) (Or.inl D265_82) ?_
  exact P265_84
theorem P265_77 : rSnd lab M265 77 B265_77 := by
  refine s_Il gk7 (Or.inl D265_77) ?_
  exact s_Ri (Or.inl rfl) D265_79.1
theorem P265_25 : rSnd lab M265 25 B265_25 := by
  refine s_Il gk5 (Or.inl D265_25) ?_
  refine s_si D265_27 kc_s_400 (by decide) ?_
  refine s_Ic c_ge (i_ge (tg := 121) (by decide)) D265_30.1 P265_121 (?_ : rSnd _ _ 33 _)
  refine s_Il gk4 (Or.inl D265_33) ?_
  refine s_Al gk0 (Or.inr ⟨0, D265_35, rfl⟩) ?_
  refine s_Gf (ci := 7) (r := ("WordWright$Search", kT7, 7)) rfl (show 4 < 7 from by decide) rfl (Or.inl wd216) (Or.inl rfl) rfl D265_36 ?_
  refine s_Ic c_ge (i_ge (tg := 121) (by decide)) D265_39.1 P265_121 (?_ : rSnd _ _ 42 _)
  refine s_Al gk0 (Or.inr ⟨0, D265_42, rfl⟩) ?_
  refine s_Gf (ci := 7) (r := ("WordWright$Search", kT7, 7)) rfl (show 4 < 7 from by decide) rfl (Or.inl wd216) (Or.inl rfl) rfl D265_43 ?_
  refine s_Is sk6 (show 6 < 9 from by decide) (Or.inl D265_46) ?_
  refine s_Al gk0 (Or.inr ⟨0, D265_48, rfl⟩) ?_
  refine s_Il gk4 (Or.inl D265_49) ?_
  refine s_Il gk6 (Or.inl D265_51) ?_
  refine s_Al gk1 (Or.inr ⟨1, D265_53, rfl⟩) ?_
  refine s_Al gk2 (Or.inr ⟨2, D265_54, rfl⟩) ?_
  refine s_Al gk3 (Or.inr ⟨3, D265_55, rfl⟩) ?_
  refine s_Cv (ln := 3) (kd := 16) (C := "WordWright$Search") (by decide) (by decide +kernel) rfl (l_V rfl ok263 rfl wd755 wd757 ws31 D265_56.1) (?_ : rSnd _ _ 59 _)
  refine s_Is sk7 (show 7 < 9 from by decide) (Or.inl D265_59) ?_
  refine s_Il gk7 (Or.inl D265_61) ?_
  refine s_If c_eq (fun _ => rfl) (fun _ _ => rfl) (b_eq (tg := 80) (by decide)) D265_63.1 P265_80 (?_ : rSnd _ _ 66 _)
  refine s_Il gk7 (Or.inl D265_66) ?_
  refine s_ld rfl wd761 D265_68 kc_I_2097152 (by decide) ?_
  refine s_Ic c_ne (i_ne (tg := 77) (by decide)) D265_70.1 P265_77 (?_ : rSnd _ _ 73 _)
  exact rSnd_none
theorem P265_0 : rSnd lab M265 0 B265_0 := by
  refine s_Ent ?_
  refine s_Al gk0 (Or.inr ⟨0, D265_0, rfl⟩) ?_
  refine s_Gf (ci := 7) (r := ("WordWright$Search", kT7, 7)) rfl (show 2 < 7 from by decide) rfl (Or.inl wd214) (Or.inl rfl) rfl D265_1 ?_
  refine s_ic D265_4 kc_i_0 (by decide) ?_
  refine s_Cs (id := 3) rfl (l_S rfl ok3 rfl wd750 wd257 D265_5.1) (?_ : rSnd _ _ 8 _)
  refine s_Al gk0 (Or.inr ⟨0, D265_8, rfl⟩) ?_
  refine s_ic D265_9 kc_i_0 (by decide) ?_
  refine s_Pf (ci := 7) (r := ("WordWright$Search", kT7, 7)) rfl (show 4 < 7 from by decide) rfl (Or.inl ⟨rfl, Or.inl wd216⟩) (Or.inl rfl) rfl (by decide) D265_10 ?_
  refine s_Al gk0 (Or.inr ⟨0, D265_13, rfl⟩) ?_
  refine s_ic D265_14 kc_i_0 (by decide) ?_
  refine s_ic D265_15 kc_i_1 (by decide) ?_
  refine s_Cv (ln := 3) (kd := 16) (C := "WordWright$Search") (by decide) (by decide +kernel) rfl (l_V rfl ok267 rfl wd751 wd753 ws30 D265_16.1) (?_ : rSnd _ _ 19 _)
  refine s_ic D265_19 kc_i_0 (by decide) ?_
  refine s_Is sk4 (show 4 < 9 from by decide) (Or.inl D265_20) ?_
  refine s_ic D265_22 kc_i_0 (by decide) ?_
  refine s_Is sk5 (show 5 < 9 from by decide) (Or.inl D265_23) ?_
  exact P265_25
theorem D266_0 : rDec M266 0 (.aload_n 0) 1 1 := ⟨by decide +kernel, rfl⟩
theorem D266_1 : rDec M266 1 (.aload_n 0) 1 2 := ⟨by decide +kernel, rfl⟩
theorem D266_2 : rDec M266 2 (.getfield 12) 3 5 := ⟨by decide +kernel, rfl⟩
theorem D266_5 : rDec M266 5 (.aload_n 1) 1 6 := ⟨by decide +kernel, rfl⟩
theorem D266_6 : rDec M266 6 (.aload_n 0) 1 7 := ⟨by decide +kernel, rfl⟩
theorem D266_7 : rDec M266 7 (.getfield 21) 3 10 := ⟨by decide +kernel, rfl⟩
theorem D266_10 : rDec M266 10 (.invokevirtual 42) 3 13 := ⟨by decide +kernel, rfl⟩
theorem D266_13 : rDec M266 13 (.ireturn) 1 14 := ⟨by decide +kernel, rfl⟩
theorem P266_0 : rSnd lab M266 0 B266_0 := by
  refine s_Ent ?_
  refine s_Al gk0 (Or.inr ⟨0, D266_0, rfl⟩) ?_
  refine s_Al gk0 (Or.inr ⟨0, D266_1, rfl⟩) ?_
  refine s_Gf (ci := 7) (r := ("WordWright$Search", kT7, 7)) rfl (show 0 < 7 from by decide) rfl (Or.inl wd212) (Or.inl rfl) rfl D266_2 ?_
  refine s_Al gk1 (Or.inr ⟨1, D266_5, rfl⟩) ?_
  refine s_Al gk0 (Or.inr ⟨0, D266_6, rfl⟩) ?_
  refine s_Gf (ci := 7) (r := ("WordWright$Search", kT7, 7)) rfl (show 1 < 7 from by decide) rfl (Or.inl wd213) (Or.inl rfl) rfl D266_7 ?_
  refine s_Cv (ln := 3) (kd := 16) (C := "WordWright$Search") (by decide) (by decide +kernel) rfl (l_V rfl ok265 rfl wd746 wd747 wd748 D266_10.1) (?_ : rSnd _ _ 13 _)
  exact s_Ri (Or.inl rfl) D266_13.1
theorem D267_0 : rDec M267 0 (.aload_n 0) 1 1 := ⟨by decide +kernel, rfl⟩
theorem D267_1 : rDec M267 1 (.getfield 25) 3 4 := ⟨by decide +kernel, rfl⟩
theorem D267_4 : rDec M267 4 (.iload_n 1) 1 5 := ⟨by decide +kernel, rfl⟩
theorem D267_5 : rDec M267 5 (.iaload) 1 6 := ⟨by decide +kernel, rfl⟩
theorem D267_6 : rDec M267 6 (.ifCond .ne 33) 3 9 := ⟨by decide +kernel, rfl⟩
theorem D267_9 : rDec M267 9 (.aload_n 0) 1 10 := ⟨by decide +kernel, rfl⟩
theorem D267_10 : rDec M267 10 (.getfield 25) 3 13 := ⟨by decide +kernel, rfl⟩
theorem D267_13 : rDec M267 13 (.iload_n 1) 1 14 := ⟨by decide +kernel, rfl⟩
theorem D267_14 : rDec M267 14 (.iload_n 2) 1 15 := ⟨by decide +kernel, rfl⟩
theorem D267_15 : rDec M267 15 (.iastore) 1 16 := ⟨by decide +kernel, rfl⟩
theorem D267_16 : rDec M267 16 (.aload_n 0) 1 17 := ⟨by decide +kernel, rfl⟩
theorem D267_17 : rDec M267 17 (.getfield 29) 3 20 := ⟨by decide +kernel, rfl⟩
theorem D267_20 : rDec M267 20 (.aload_n 0) 1 21 := ⟨by decide +kernel, rfl⟩
theorem D267_21 : rDec M267 21 (.getfield 52) 3 24 := ⟨by decide +kernel, rfl⟩
theorem D267_24 : rDec M267 24 (.iload_n 1) 1 25 := ⟨by decide +kernel, rfl⟩
theorem D267_25 : rDec M267 25 (.iastore) 1 26 := ⟨by decide +kernel, rfl⟩
theorem D267_26 : rDec M267 26 (.aload_n 0) 1 27 := ⟨by decide +kernel, rfl⟩
theorem D267_27 : rDec M267 27 (.dup) 1 28 := ⟨by decide +kernel, rfl⟩
theorem D267_28 : rDec M267 28 (.getfield 52) 3 31 := ⟨by decide +kernel, rfl⟩
theorem D267_31 : rDec M267 31 (.iconst 1) 1 32 := ⟨by decide +kernel, rfl⟩
theorem D267_32 : rDec M267 32 (.iadd) 1 33 := ⟨by decide +kernel, rfl⟩
theorem D267_33 : rDec M267 33 (.putfield 52) 3 36 := ⟨by decide +kernel, rfl⟩
theorem D267_36 : rDec M267 36 (.goto 20) 3 39 := ⟨by decide +kernel, rfl⟩
theorem D267_39 : rDec M267 39 (.iload_n 2) 1 40 := ⟨by decide +kernel, rfl⟩
theorem D267_40 : rDec M267 40 (.aload_n 0) 1 41 := ⟨by decide +kernel, rfl⟩
theorem D267_41 : rDec M267 41 (.getfield 25) 3 44 := ⟨by decide +kernel, rfl⟩
theorem D267_44 : rDec M267 44 (.iload_n 1) 1 45 := ⟨by decide +kernel, rfl⟩
theorem D267_45 : rDec M267 45 (.iaload) 1 46 := ⟨by decide +kernel, rfl⟩
theorem D267_46 : rDec M267 46 (.if_icmp .ge 10) 3 49 := ⟨by decide +kernel, rfl⟩
theorem D267_56 : rDec M267 56 (.return_) 1 57 := ⟨by decide +kernel, rfl⟩
theorem P267_56 : rSnd lab M267 56 B267_56 := by
  exact s_Rv rfl D267_56.1
theorem P267_39 : rSnd lab M267 39 B267_39 := by
  refine s_Il gk2 (Or.inr ⟨2, D267_39, rfl⟩) ?_
  refine s_Al gk0 (Or.inr ⟨0, D267_40, rfl⟩) ?_
  refine s_Gf (ci := 7) (r := ("WordWright$Search", kT7, 7)) rfl (show 2 < 7 from by decide) rfl (Or.inl wd214) (Or.inl rfl) rfl D267_41 ?_
  refine s_Il gk1 (Or.inr ⟨1, D267_44, rfl⟩) ?_
  refine s_Ial D267_45 ?_
  refine s_Ic c_ge (i_ge (tg := 56) (by decide)) D267_46.1 P267_56 (?_ : rSnd _ _ 49 _)
  exact rSnd_none
theorem P267_0 : rSnd lab M267 0 B267_0 := by
  refine s_Ent ?_
  refine s_Al gk0 (Or.inr ⟨0, D267_0, rfl⟩) ?_
  refine s_Gf (ci := 7) (r := ("WordWright$Search", kT7, 7)) rfl (show 2 < 7 from by decide) rfl (Or.inl wd214) (Or.inl rfl) rfl D267_1 ?_
  refine s_Il gk1 (Or.inr ⟨1, D267_4, rfl⟩) ?_
  refine s_Ial D267_5 ?_
  refine s_If c_ne (fun _ => rfl) (fun _ _ => rfl) (b_ne (tg := 39) (by decide)) D267_6.1 P267_39 (?_ : rSnd _ _ 9 _)
  refine s_Al gk0 (Or.inr ⟨0, D267_9, rfl⟩) ?_
  refine s_Gf (ci := 7) (r := ("WordWright$Search", kT7, 7)) rfl (show 2 < 7 from by decide) rfl (Or.inl wd214) (Or.inl rfl) rfl D267_10 ?_
  refine s_Il gk1 (Or.inr ⟨1, D267_13, rfl⟩) ?_
  refine s_Il gk2 (Or.inr ⟨2, D267_14, rfl⟩) ?_
  refine s_Ast (t := 0) rfl q_iast rfl (by decide) D267_15 ?_
  refine s_Al gk0 (Or.inr ⟨0, D267_16, rfl⟩) ?_
  refine s_Gf (ci := 7) (r := ("WordWright$Search", kT7, 7)) rfl (show 3 < 7 from by decide) rfl (Or.inl wd215) (Or.inl rfl) rfl D267_17 ?_
  refine s_Al gk0 (Or.inr ⟨0, D267_20, rfl⟩) ?_
  refine s_Gf (ci := 7) (r := ("WordWright$Search", kT7, 7)) rfl (show 4 < 7 from by decide) rfl (Or.inl wd216) (Or.inl rfl) rfl D267_21 ?_
  refine s_Il gk1 (Or.inr ⟨1, D267_24, rfl⟩) ?_
  refine s_Ast (t := 0) rfl q_iast rfl (by decide) D267_25 ?_
  refine s_Al gk0 (Or.inr ⟨0, D267_26, rfl⟩) ?_
  refine s_Dup D267_27 ?_
  refine s_Gf (ci := 7) (r := ("WordWright$Search", kT7, 7)) rfl (show 4 < 7 from by decide) rfl (Or.inl wd216) (Or.inl rfl) rfl D267_28 ?_
  refine s_ic D267_31 kc_i_1 (by decide) ?_
  refine s_Bin q_iadd n_add rG2_x e_add D267_32 ?_
  refine s_Pf (ci := 7) (r := ("WordWright$Search", kT7, 7)) rfl (show 4 < 7 from by decide) rfl (Or.inl ⟨rfl, Or.inl wd216⟩) (Or.inl rfl) rfl (by decide) D267_33 ?_
  exact s_Go (pc' := 56) D267_36.1 (by decide) P267_56
theorem D268_0 : rDec M268 0 (.aload_n 0) 1 1 := ⟨by decide +kernel, rfl⟩
theorem D268_1 : rDec M268 1 (.getfield 15) 3 4 := ⟨by decide +kernel, rfl⟩
theorem D268_4 : rDec M268 4 (.iconst 0) 1 5 := ⟨by decide +kernel, rfl⟩
theorem D268_5 : rDec M268 5 (.invokestatic 47) 3 8 := ⟨by decide +kernel, rfl⟩
theorem D268_8 : rDec M268 8 (.iconst 0) 1 9 := ⟨by decide +kernel, rfl⟩
theorem D268_9 : rDec M268 9 (.istore_n 3) 1 10 := ⟨by decide +kernel, rfl⟩
theorem D268_10 : rDec M268 10 (.iload_n 3) 1 11 := ⟨by decide +kernel, rfl⟩
theorem D268_11 : rDec M268 11 (.iconst 4) 1 12 := ⟨by decide +kernel, rfl⟩
theorem D268_12 : rDec M268 12 (.if_icmp .ge 90) 3 15 := ⟨by decide +kernel, rfl⟩
theorem D268_15 : rDec M268 15 (.iconst 0) 1 16 := ⟨by decide +kernel, rfl⟩
theorem D268_16 : rDec M268 16 (.istore 4) 2 18 := ⟨by decide +kernel, rfl⟩
theorem D268_18 : rDec M268 18 (.iload 4) 2 20 := ⟨by decide +kernel, rfl⟩
theorem D268_20 : rDec M268 20 (.aload_n 1) 1 21 := ⟨by decide +kernel, rfl⟩
theorem D268_21 : rDec M268 21 (.getfield 78) 3 24 := ⟨by decide +kernel, rfl⟩
theorem D268_24 : rDec M268 24 (.iload_n 3) 1 25 := ⟨by decide +kernel, rfl⟩
theorem D268_25 : rDec M268 25 (.iaload) 1 26 := ⟨by decide +kernel, rfl⟩
theorem D268_26 : rDec M268 26 (.if_icmp .gt 70) 3 29 := ⟨by decide +kernel, rfl⟩
theorem D268_29 : rDec M268 29 (.iconst 1) 1 30 := ⟨by decide +kernel, rfl⟩
theorem D268_30 : rDec M268 30 (.iconst 2) 1 31 := ⟨by decide +kernel, rfl⟩
theorem D268_31 : rDec M268 31 (.iload 4) 2 33 := ⟨by decide +kernel, rfl⟩
theorem D268_33 : rDec M268 33 (.imul) 1 34 := ⟨by decide +kernel, rfl⟩
theorem D268_34 : rDec M268 34 (.ishl) 1 35 := ⟨by decide +kernel, rfl⟩
theorem D268_35 : rDec M268 35 (.istore 5) 2 37 := ⟨by decide +kernel, rfl⟩
theorem D268_37 : rDec M268 37 (.iconst 0) 1 38 := ⟨by decide +kernel, rfl⟩
theorem D268_38 : rDec M268 38 (.istore 6) 2 40 := ⟨by decide +kernel, rfl⟩
theorem D268_40 : rDec M268 40 (.iload 6) 2 42 := ⟨by decide +kernel, rfl⟩
theorem D268_42 : rDec M268 42 (.iload 5) 2 44 := ⟨by decide +kernel, rfl⟩
theorem D268_44 : rDec M268 44 (.if_icmp .ge 46) 3 47 := ⟨by decide +kernel, rfl⟩
theorem D268_47 : rDec M268 47 (.aload_n 2) 1 48 := ⟨by decide +kernel, rfl⟩
theorem D268_48 : rDec M268 48 (.aload_n 1) 1 49 := ⟨by decide +kernel, rfl⟩
theorem D268_49 : rDec M268 49 (.getfield 83) 3 52 := ⟨by decide +kernel, rfl⟩
theorem D268_52 : rDec M268 52 (.iload_n 3) 1 53 := ⟨by decide +kernel, rfl⟩
theorem D268_53 : rDec M268 53 (.iaload) 1 54 := ⟨by decide +kernel, rfl⟩
theorem D268_54 : rDec M268 54 (.aaload) 1 55 := ⟨by decide +kernel, rfl⟩
theorem D268_55 : rDec M268 55 (.iload 5) 2 57 := ⟨by decide +kernel, rfl⟩
theorem D268_57 : rDec M268 57 (.iload 6) 2 59 := ⟨by decide +kernel, rfl⟩
theorem D268_59 : rDec M268 59 (.iadd) 1 60 := ⟨by decide +kernel, rfl⟩
theorem D268_60 : rDec M268 60 (.invokevirtual 86) 3 63 := ⟨by decide +kernel, rfl⟩
theorem D268_63 : rDec M268 63 (.ifCond .eq 21) 3 66 := ⟨by decide +kernel, rfl⟩
theorem D268_66 : rDec M268 66 (.aload_n 0) 1 67 := ⟨by decide +kernel, rfl⟩
theorem D268_67 : rDec M268 67 (.getfield 15) 3 70 := ⟨by decide +kernel, rfl⟩
theorem D268_70 : rDec M268 70 (.iload_n 3) 1 71 := ⟨by decide +kernel, rfl⟩
theorem D268_71 : rDec M268 71 (.iconst 3) 1 72 := ⟨by decide +kernel, rfl⟩
theorem D268_72 : rDec M268 72 (.imul) 1 73 := ⟨by decide +kernel, rfl⟩
theorem D268_73 : rDec M268 73 (.iload 4) 2 75 := ⟨by decide +kernel, rfl⟩
theorem D268_75 : rDec M268 75 (.iadd) 1 76 := ⟨by decide +kernel, rfl⟩
theorem D268_76 : rDec M268 76 (.dup2) 1 77 := ⟨by decide +kernel, rfl⟩
theorem D268_77 : rDec M268 77 (.iaload) 1 78 := ⟨by decide +kernel, rfl⟩
theorem D268_78 : rDec M268 78 (.iconst 1) 1 79 := ⟨by decide +kernel, rfl⟩
theorem D268_79 : rDec M268 79 (.iload 6) 2 81 := ⟨by decide +kernel, rfl⟩
theorem D268_81 : rDec M268 81 (.ishl) 1 82 := ⟨by decide +kernel, rfl⟩
theorem D268_82 : rDec M268 82 (.ior) 1 83 := ⟨by decide +kernel, rfl⟩
theorem D268_83 : rDec M268 83 (.iastore) 1 84 := ⟨by decide +kernel, rfl⟩
theorem D268_84 : rDec M268 84 (.iinc 6 1) 3 87 := ⟨by decide +kernel, rfl⟩
theorem D268_87 : rDec M268 87 (.goto (-47)) 3 90 := ⟨by decide +kernel, rfl⟩
theorem D268_90 : rDec M268 90 (.iinc 4 1) 3 93 := ⟨by decide +kernel, rfl⟩
theorem D268_93 : rDec M268 93 (.goto (-75)) 3 96 := ⟨by decide +kernel, rfl⟩
theorem D268_96 : rDec M268 96 (.iinc 3 1) 3 99 := ⟨by decide +kernel, rfl⟩
theorem D268_99 : rDec M268 99 (.goto (-89)) 3 102 := ⟨by decide +kernel, rfl⟩
theorem D268_102 : rDec M268 102 (.return_) 1 103 := ⟨by decide +kernel, rfl⟩
theorem P268_102 : rSnd lab M268 102 B268_102 := by
  exact s_Rv rfl D268_102.1
theorem P268_96 : rSnd lab M268 96 B268_96 := by
  refine s_Inc gk3 sk3 (show 3 < 7 from by decide) kc_i_1 D268_96 ?_
  exact s_Go (pc' := 10) D268_99.1 (by decide) (s_Jb rfl)
theorem P268_90 : rSnd lab M268 90 B268_90 := by
  refine s_Inc gk4 sk4 (show 4 < 7 from by decide) kc_i_1 D268_90 ?_
  exact s_Go (pc' := 18) D268_93.1 (by decide) (s_Jb rfl)
theorem P268_84 : rSnd lab M268 84 B268_84 := by
  refine s_Inc gk6 sk6 (show 6 < 7 from by decide) kc_i_1 D268_84 ?_
  exact s_Go (pc' := 40) D268_87.1 (by decide) (s_Jb rfl)
theorem P268_40 : rSnd lab M268 40 B268_40 := by
  refine s_Il gk6 (Or.inl D268_40) ?_
  refine s_Il gk5 (Or.inl D268_42) ?_
  refine s_Ic c_ge (i_ge (tg := 90) (by decide)) D268_44.1 P268_90 (?_ : rSnd _ _ 47 _)
  refine s_Al gk2 (Or.inr ⟨2, D268_47, rfl⟩) ?_
  refine s_Al gk1 (Or.inr ⟨1, D268_48, rfl⟩) ?_
  refine s_Gf (ci := 2) (r := ("WordWright$Equations", kT2, 8)) rfl (show 0 < 8 from by decide) rfl (Or.inl wd260) (Or.inl rfl) rfl D268_49 ?_
  refine s_Il gk3 (Or.inr ⟨3, D268_52, rfl⟩) ?_
  refine s_Ial D268_53 ?_
  refine s_Aal D268_54 ?_
  refine s_Il gk5 (Or.inl D268_55) ?_
  refine s_Il gk6 (Or.inl D268_57) ?_
  refine s_Bin q_iadd n_add rG2_x e_add D268_59 ?_
  refine s_Cv (ln := 3) (kd := 8) (C := "WordWright$Language") (by decide) (by decide +kernel) rfl (l_V rfl ok238 rfl wd493 wd494 wd495 D268_60.1) (?_ : rSnd _ _ 63 _)
  refine s_If c_eq (fun _ => rfl) (fun _ _ => rfl) (b_eq (tg := 84) (by decide)) D268_63.1 P268_84 (?_ : rSnd _ _ 66 _)
  refine s_Al gk0 (Or.inr ⟨0, D268_66, rfl⟩) ?_
  refine s_Gf (ci := 8) (r := ("WordWright$Solver", kT8, 11)) rfl (show 2 < 11 from by decide) rfl (Or.inl wd306) (Or.inl rfl) rfl D268_67 ?_
  refine s_Il gk3 (Or.inr ⟨3, D268_70, rfl⟩) ?_
  refine s_ic D268_71 kc_i_3 (by decide) ?_
  refine s_Bin q_imul n_mul rG2_x rE2_x D268_72 ?_
  refine s_Il gk4 (Or.inl D268_73) ?_
  refine s_Bin q_iadd n_add rG2_x e_add D268_75 ?_
  refine s_Dup2 D268_76 ?_
  refine s_Ial D268_77 ?_
  refine s_ic D268_78 kc_i_1 (by decide) ?_
  refine s_Il gk6 (Or.inl D268_79) ?_
  refine s_Bin q_ishl n_shl rG2_x rE2_x D268_81 ?_
  refine s_Bin q_ior n_or rG2_x rE2_x D268_82 ?_
  refine s_Ast (t := 0) rfl q_iast rfl (by decide) D268_83 ?_
  exact P268_84
theorem P268_18 : rSnd lab M268 18 B268_18 := by
  refine s_Il gk4 (Or.inl D268_18) ?_
  refine s_Al gk1 (Or.inr ⟨1, D268_20, rfl⟩) ?_
  refine s_Gf (ci := 2) (r := ("WordWright$Equations", kT2, 8)) rfl (show 1 < 8 from by decide) rfl (Or.inl wd262) (Or.inl rfl) rfl D268_21 ?_
  refine s_Il gk3 (Or.inr ⟨3, D268_24, rfl⟩) ?_
  refine s_Ial D268_25 ?_
  refine s_Ic c_gt (i_gt (tg := 96) (by decide)) D268_26.1 P268_96 (?_ : rSnd _ _ 29 _)
  refine s_ic D268_29 kc_i_1 (by decide) ?_
  refine s_ic D268_30 kc_i_2 (by decide) ?_
  refine s_Il gk4 (Or.inl D268_31) ?_
  refine s_Bin q_imul n_mul rG2_x rE2_x D268_33 ?_
  refine s_Bin q_ishl n_shl rG2_x rE2_x D268_34 ?_
  refine s_Is sk5 (show 5 < 7 from by decide) (Or.inl D268_35) ?_
  refine s_ic D268_37 kc_i_0 (by decide) ?_
  refine s_Is sk6 (show 6 < 7 from by decide) (Or.inl D268_38) ?_
  exact P268_40
theorem P268_10 : rSnd lab M268 10 B268_10 := by
  refine s_Il gk3 (Or.inr ⟨3, D268_10, rfl⟩) ?_
  refine s_ic D268_11 kc_i_4 (by decide) ?_
  refine s_Ic c_ge (i_ge (tg := 102) (by decide)) D268_12.1 P268_102 (?_ : rSnd _ _ 15 _)
  refine s_ic D268_15 kc_i_0 (by decide) ?_
  refine s_Is sk4 (show 4 < 7 from by decide) (Or.inl D268_16) ?_
  exact P268_18
theorem P268_0 : rSnd lab M268 0 B268_0 := by
  refine s_Ent ?_
  refine s_Al gk0 (Or.inr ⟨0, D268_0, rfl⟩) ?_
  refine s_Gf (ci := 8) (r := ("WordWright$Solver", kT8, 11)) rfl (show 2 < 11 from by decide) rfl (Or.inl wd306) (Or.inl rfl) rfl D268_1 ?_
  refine s_ic D268_4 kc_i_0 (by decide) ?_
  refine s_Cs (id := 3) rfl (l_S rfl ok3 rfl wd492 wd257 D268_5.1) (?_ : rSnd _ _ 8 _)
  refine s_ic D268_8 kc_i_0 (by decide) ?_
  refine s_Is sk3 (show 3 < 7 from by decide) (Or.inr ⟨3, D268_9, rfl⟩) ?_
  exact P268_10
theorem D269_0 : rDec M269 0 (.iload_n 1) 1 1 := ⟨by decide +kernel, rfl⟩
theorem D269_1 : rDec M269 1 (.istore_n 2) 1 2 := ⟨by decide +kernel, rfl⟩
theorem D269_2 : rDec M269 2 (.iconst 0) 1 3 := ⟨by decide +kernel, rfl⟩
theorem D269_3 : rDec M269 3 (.istore_n 3) 1 4 := ⟨by decide +kernel, rfl⟩
theorem D269_4 : rDec M269 4 (.iload_n 3) 1 5 := ⟨by decide +kernel, rfl⟩
theorem D269_5 : rDec M269 5 (.iconst 4) 1 6 := ⟨by decide +kernel, rfl⟩
theorem D269_6 : rDec M269 6 (.if_icmp .ge 22) 3 9 := ⟨by decide +kernel, rfl⟩
theorem D269_9 : rDec M269 9 (.aload_n 0) 1 10 := ⟨by decide +kernel, rfl⟩
theorem D269_10 : rDec M269 10 (.getfield 18) 3 13 := ⟨by decide +kernel, rfl⟩
theorem D269_13 : rDec M269 13 (.iload_n 3) 1 14 := ⟨by decide +kernel, rfl⟩
theorem D269_14 : rDec M269 14 (.iload_n 2) 1 15 := ⟨by decide +kernel, rfl⟩
theorem D269_15 : rDec M269 15 (.iconst 3) 1 16 := ⟨by decide +kernel, rfl⟩
theorem D269_16 : rDec M269 16 (.irem) 1 17 := ⟨by decide +kernel, rfl⟩
theorem D269_17 : rDec M269 17 (.iastore) 1 18 := ⟨by decide +kernel, rfl⟩
theorem D269_18 : rDec M269 18 (.iload_n 2) 1 19 := ⟨by decide +kernel, rfl⟩
theorem D269_19 : rDec M269 19 (.iconst 3) 1 20 := ⟨by decide +kernel, rfl⟩
theorem D269_20 : rDec M269 20 (.idiv) 1 21 := ⟨by decide +kernel, rfl⟩
theorem D269_21 : rDec M269 21 (.istore_n 2) 1 22 := ⟨by decide +kernel, rfl⟩
theorem D269_22 : rDec M269 22 (.iinc 3 1) 3 25 := ⟨by decide +kernel, rfl⟩
theorem D269_25 : rDec M269 25 (.goto (-21)) 3 28 := ⟨by decide +kernel, rfl⟩
theorem D269_28 : rDec M269 28 (.iconst 0) 1 29 := ⟨by decide +kernel, rfl⟩
theorem D269_29 : rDec M269 29 (.istore_n 3) 1 30 := ⟨by decide +kernel, rfl⟩
theorem D269_30 : rDec M269 30 (.iload_n 3) 1 31 := ⟨by decide +kernel, rfl⟩
theorem D269_31 : rDec M269 31 (.aload_n 0) 1 32 := ⟨by decide +kernel, rfl⟩
theorem D269_32 : rDec M269 32 (.getfield 21) 3 35 := ⟨by decide +kernel, rfl⟩
theorem D269_35 : rDec M269 35 (.arraylength) 1 36 := ⟨by decide +kernel, rfl⟩
theorem D269_36 : rDec M269 36 (.if_icmp .ge 16) 3 39 := ⟨by decide +kernel, rfl⟩
theorem D269_39 : rDec M269 39 (.aload_n 0) 1 40 := ⟨by decide +kernel, rfl⟩
theorem D269_40 : rDec M269 40 (.getfield 21) 3 43 := ⟨by decide +kernel, rfl⟩
theorem D269_43 : rDec M269 43 (.iload_n 3) 1 44 := ⟨by decide +kernel, rfl⟩
theorem D269_44 : rDec M269 44 (.iload_n 3) 1 45 := ⟨by decide +kernel, rfl⟩
theorem D269_45 : rDec M269 45 (.iastore) 1 46 := ⟨by decide +kernel, rfl⟩
theorem D269_46 : rDec M269 46 (.iinc 3 1) 3 49 := ⟨by decide +kernel, rfl⟩
theorem D269_49 : rDec M269 49 (.goto (-19)) 3 52 := ⟨by decide +kernel, rfl⟩
theorem D269_52 : rDec M269 52 (.iconst 0) 1 53 := ⟨by decide +kernel, rfl⟩
theorem D269_53 : rDec M269 53 (.istore_n 3) 1 54 := ⟨by decide +kernel, rfl⟩
theorem D269_54 : rDec M269 54 (.iload_n 3) 1 55 := ⟨by decide +kernel, rfl⟩
theorem D269_55 : rDec M269 55 (.iconst 4) 1 56 := ⟨by decide +kernel, rfl⟩
theorem D269_56 : rDec M269 56 (.if_icmp .ge 19) 3 59 := ⟨by decide +kernel, rfl⟩
theorem D269_59 : rDec M269 59 (.aload_n 0) 1 60 := ⟨by decide +kernel, rfl⟩
theorem D269_60 : rDec M269 60 (.getfield 33) 3 63 := ⟨by decide +kernel, rfl⟩
theorem D269_63 : rDec M269 63 (.bipush 8) 2 65 := ⟨by decide +kernel, rfl⟩
theorem D269_65 : rDec M269 65 (.iload_n 3) 1 66 := ⟨by decide +kernel, rfl⟩
theorem D269_66 : rDec M269 66 (.iadd) 1 67 := ⟨by decide +kernel, rfl⟩
theorem D269_67 : rDec M269 67 (.iload_n 3) 1 68 := ⟨by decide +kernel, rfl⟩
theorem D269_68 : rDec M269 68 (.iastore) 1 69 := ⟨by decide +kernel, rfl⟩
theorem D269_69 : rDec M269 69 (.iinc 3 1) 3 72 := ⟨by decide +kernel, rfl⟩
theorem D269_72 : rDec M269 72 (.goto (-18)) 3 75 := ⟨by decide +kernel, rfl⟩
theorem D269_75 : rDec M269 75 (.return_) 1 76 := ⟨by decide +kernel, rfl⟩
theorem P269_75 : rSnd lab M269 75 B269_75 := by
  exact s_Rv rfl D269_75.1
theorem P269_54 : rSnd lab M269 54 B269_54 := by
  refine s_Il gk3 (Or.inr ⟨3, D269_54, rfl⟩) ?_
  refine s_ic D269_55 kc_i_4 (by decide) ?_
  refine s_Ic c_ge (i_ge (tg := 75) (by decide)) D269_56.1 P269_75 (?_ : rSnd _ _ 59 _)
  refine s_Al gk0 (Or.inr ⟨0, D269_59, rfl⟩) ?_
  refine s_Gf (ci := 8) (r := ("WordWright$Solver", kT8, 11)) rfl (show 9 < 11 from by decide) rfl (Or.inl wd313) (Or.inl rfl) rfl D269_60 ?_
  refine s_bi D269_63 kc_b_8 (by decide) ?_
  refine s_Il gk3 (Or.inr ⟨3, D269_65, rfl⟩) ?_
  refine s_Bin q_iadd n_add rG2_x e_add D269_66 ?_
  refine s_Il gk3 (Or.inr ⟨3, D269_67, rfl⟩) ?_
  refine s_Ast (t := 0) rfl q_iast rfl (by decide) D269_68 ?_
  refine s_Inc gk3 sk3 (show 3 < 4 from by decide) kc_i_1 D269_69 ?_
  exact s_Go (pc' := 54) D269_72.1 (by decide) (s_Jb rfl)
theorem P269_52 : rSnd lab M269 52 B269_52 := by
  refine s_ic D269_52 kc_i_0 (by decide) ?_
  refine s_Is sk3 (show 3 < 4 from by decide) (Or.inr ⟨3, D269_53, rfl⟩) ?_
  exact P269_54
theorem P269_30 : rSnd lab M269 30 B269_30 := by
  refine s_Il gk3 (Or.inr ⟨3, D269_30, rfl⟩) ?_
  refine s_Al gk0 (Or.inr ⟨0, D269_31, rfl⟩) ?_
  refine s_Gf (ci := 8) (r := ("WordWright$Solver", kT8, 11)) rfl (show 4 < 11 from by decide) rfl (Or.inl wd308) (Or.inl rfl) rfl D269_32 ?_
  refine s_Len D269_35 ?_
  refine s_Ic c_ge (i_ge (tg := 52) (by decide)) D269_36.1 P269_52 (?_ : rSnd _ _ 39 _)
  refine s_Al gk0 (Or.inr ⟨0, D269_39, rfl⟩) ?_
  refine s_Gf (ci := 8) (r := ("WordWright$Solver", kT8, 11)) rfl (show 4 < 11 from by decide) rfl (Or.inl wd308) (Or.inl rfl) rfl D269_40 ?_
  refine s_Il gk3 (Or.inr ⟨3, D269_43, rfl⟩) ?_
  refine s_Il gk3 (Or.inr ⟨3, D269_44, rfl⟩) ?_
  refine s_Ast (t := 0) rfl q_iast rfl (by decide) D269_45 ?_
  refine s_Inc gk3 sk3 (show 3 < 4 from by decide) kc_i_1 D269_46 ?_
  exact s_Go (pc' := 30) D269_49.1 (by decide) (s_Jb rfl)
theorem P269_28 : rSnd lab M269 28 B269_28 := by
  refine s_ic D269_28 kc_i_0 (by decide) ?_
  refine s_Is sk3 (show 3 < 4 from by decide) (Or.inr ⟨3, D269_29, rfl⟩) ?_
  exact P269_30
theorem P269_4 : rSnd lab M269 4 B269_4 := by
  refine s_Il gk3 (Or.inr ⟨3, D269_4, rfl⟩) ?_
  refine s_ic D269_5 kc_i_4 (by decide) ?_
  refine s_Ic c_ge (i_ge (tg := 28) (by decide)) D269_6.1 P269_28 (?_ : rSnd _ _ 9 _)
  refine s_Al gk0 (Or.inr ⟨0, D269_9, rfl⟩) ?_
  refine s_Gf (ci := 8) (r := ("WordWright$Solver", kT8, 11)) rfl (show 3 < 11 from by decide) rfl (Or.inl wd307) (Or.inl rfl) rfl D269_10 ?_
  refine s_Il gk3 (Or.inr ⟨3, D269_13, rfl⟩) ?_
  refine s_Il gk2 (Or.inr ⟨2, D269_14, rfl⟩) ?_
  refine s_ic D269_15 kc_i_3 (by decide) ?_
  refine s_Div q_irem n_rem rG2_x D269_16 ?_
  refine s_Ast (t := 0) rfl q_iast rfl (by decide) D269_17 ?_
  refine s_Il gk2 (Or.inr ⟨2, D269_18, rfl⟩) ?_
  refine s_ic D269_19 kc_i_3 (by decide) ?_
  refine s_Div q_idiv n_div g_div D269_20 ?_
  refine s_Is sk2 (show 2 < 4 from by decide) (Or.inr ⟨2, D269_21, rfl⟩) ?_
  refine s_Inc gk3 sk3 (show 3 < 4 from by decide) kc_i_1 D269_22 ?_
  exact s_Go (pc' := 4) D269_25.1 (by decide) (s_Jb rfl)
theorem P269_0 : rSnd lab M269 0 B269_0 := by
  refine s_Ent ?_
  refine s_Il gk1 (Or.inr ⟨1, D269_0, rfl⟩) ?_
  refine s_Is sk2 (show 2 < 4 from by decide) (Or.inr ⟨2, D269_1, rfl⟩) ?_
  refine s_ic D269_2 kc_i_0 (by decide) ?_
  refine s_Is sk3 (show 3 < 4 from by decide) (Or.inr ⟨3, D269_3, rfl⟩) ?_
  exact P269_4
theorem D270_0 : rDec M270 0 (.aload_n 0) 1 1 := ⟨by decide +kernel, rfl⟩
theorem D270_1 : rDec M270 1 (.invokevirtual 118) 3 4 := ⟨by decide +kernel, rfl⟩
theorem D270_4 : rDec M270 4 (.iconst 1) 1 5 := ⟨by decide +kernel, rfl⟩
theorem D270_5 : rDec M270 5 (.istore_n 1) 1 6 := ⟨by decide +kernel, rfl⟩
theorem D270_6 : rDec M270 6 (.iconst 0) 1 7 := ⟨by decide +kernel, rfl⟩
theorem D270_7 : rDec M270 7 (.istore_n 2) 1 8 := ⟨by decide +kernel, rfl⟩
theorem D270_8 : rDec M270 8 (.iload_n 2) 1 9 := ⟨by decide +kernel, rfl⟩
theorem D270_9 : rDec M270 9 (.iconst 4) 1 10 := ⟨by decide +kernel, rfl⟩
theorem D270_10 : rDec M270 10 (.if_icmp .ge 21) 3 13 := ⟨by decide +kernel, rfl⟩
theorem D270_13 : rDec M270 13 (.iload_n 1) 1 14 := ⟨by decide +kernel, rfl⟩
theorem D270_14 : rDec M270 14 (.ifCond .le 17) 3 17 := ⟨by decide +kernel, rfl⟩
theorem D270_17 : rDec M270 17 (.iload_n 1) 1 18 := ⟨by decide +kernel, rfl⟩
theorem D270_18 : rDec M270 18 (.aload_n 0) 1 19 := ⟨by decide +kernel, rfl⟩
theorem D270_19 : rDec M270 19 (.iload_n 2) 1 20 := ⟨by decide +kernel, rfl⟩
theorem D270_20 : rDec M270 20 (.invokevirtual 121) 3 23 := ⟨by decide +kernel, rfl⟩
theorem D270_23 : rDec M270 23 (.imul) 1 24 := ⟨by decide +kernel, rfl⟩
theorem D270_24 : rDec M270 24 (.istore_n 1) 1 25 := ⟨by decide +kernel, rfl⟩
theorem D270_25 : rDec M270 25 (.iinc 2 1) 3 28 := ⟨by decide +kernel, rfl⟩
theorem D270_28 : rDec M270 28 (.goto (-20)) 3 31 := ⟨by decide +kernel, rfl⟩
theorem D270_31 : rDec M270 31 (.iload_n 1) 1 32 := ⟨by decide +kernel, rfl⟩
theorem D270_32 : rDec M270 32 (.ireturn) 1 33 := ⟨by decide +kernel, rfl⟩
theorem P270_31 : rSnd lab M270 31 B270_31 := by
  refine s_Il gk1 (Or.inr ⟨1, D270_31, rfl⟩) ?_
  exact s_Ri (Or.inl rfl) D270_32.1
theorem P270_8 : rSnd lab M270 8 B270_8 := by
  refine s_Il gk2 (Or.inr ⟨2, D270_8, rfl⟩) ?_
  refine s_ic D270_9 kc_i_4 (by decide) ?_
  refine s_Ic c_ge (i_ge (tg := 31) (by decide)) D270_10.1 P270_31 (?_ : rSnd _ _ 13 _)
  refine s_Il gk1 (Or.inr ⟨1, D270_13, rfl⟩) ?_
  refine s_If c_le (fun _ => rfl) (fun _ _ => rfl) (b_le (tg := 31) (by decide)) D270_14.1 P270_31 (?_ : rSnd _ _ 17 _)
  refine s_Il gk1 (Or.inr ⟨1, D270_17, rfl⟩) ?_
  refine s_Al gk0 (Or.inr ⟨0, D270_18, rfl⟩) ?_
  refine s_Il gk2 (Or.inr ⟨2, D270_19, rfl⟩) ?_
  refine s_Cv (ln := 3) (kd := 18) (C := "WordWright$Solver") (by decide) (by decide +kernel) rfl (l_V rfl ok271 rfl wd554 wd556 ws11 D270_20.1) (?_ : rSnd _ _ 23 _)
  refine s_Bin q_imul n_mul rG2_x rE2_x D270_23 ?_
  refine s_Is sk1 (show 1 < 3 from by decide) (Or.inr ⟨1, D270_24, rfl⟩) ?_
  refine s_Inc gk2 sk2 (show 2 < 3 from by decide) kc_i_1 D270_25 ?_
  exact s_Go (pc' := 8) D270_28.1 (by decide) (s_Jb rfl)
theorem P270_0 : rSnd lab M270 0 B270_0 := by
  refine s_Ent ?_
  refine s_Al gk0 (Or.inr ⟨0, D270_0, rfl⟩) ?_
  refine s_Cv (ln := 3) (kd := 18) (C := "WordWright$Solver") (by decide) (by decide +kernel) rfl (l_V rfl ok272 rfl wd542 wd544 ws8 D270_1.1) (?_ : rSnd _ _ 4 _)
  refine s_ic D270_4 kc_i_1 (by decide) ?_
  refine s_Is sk1 (show 1 < 3 from by decide) (Or.inr ⟨1, D270_5, rfl⟩) ?_
  refine s_ic D270_6 kc_i_0 (by decide) ?_
  refine s_Is sk2 (show 2 < 3 from by decide) (Or.inr ⟨2, D270_7, rfl⟩) ?_
  exact P270_8
