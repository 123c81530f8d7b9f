theorem arr_step {S S2 : sS} {m0 r f : Nat} {k : sK} (hm : S.1 m0 = some (.inl 7)) (hr : S.1 r = none) (h2 : S2 = ((sNew S r k).1, up2 (sNew S r k).2.1 m0 f (some r), (sNew S r k).2.2.1, (sNew S r k).2.2.2)) :
    sFr S S2 (fun b => b = m0) ∧ S2.1 m0 = some (.inl 7) ∧ (∀ j, S2.2.1 m0 j = if j = f then some r else S.2.1 m0 j) ∧ S2.2.2.1 m0 = S.2.2.1 m0 ∧ S2.1 r = some k ∧ (∀ x, S2.2.2.1 r x = 0) ∧ r ≠ m0 := by
  have hmr : m0 ≠ r := sk_ne hm hr
  have k1 : ∀ b, b ≠ r → S2.1 b = S.1 b := fun b hb => by rw [h2]; exact va_up_ne _ _ hb
  have k2 : ∀ b, b ≠ r → b ≠ m0 → S2.2.1 b = S.2.1 b := fun b hb hb2 => by
    rw [h2]
    show up2 (upr S.2.1 r _) m0 f (some r) b = _
    rw [up2_off _ _ hb2, upr_off _ _ hb]
  have k3 : ∀ b, b ≠ r → S2.2.2.1 b = S.2.2.1 b ∧ S2.2.2.2 b = S.2.2.2 b := fun b hb => by rw [h2]; exact ⟨upr_off _ _ hb, upr_off _ _ hb⟩
  refine ⟨fun b hb => ?_, by rw [k1 m0 hmr]; exact hm, fun j => ?_, (k3 m0 hmr).1, by rw [h2]; exact va_up_self _ _ _, fun x => ?_, fun z => hmr z.symm⟩
  · have hbr : b ≠ r := fun z => hb (by rw [z]; exact hr)
    exact ⟨k1 b hbr, fun hn => ⟨k2 b hbr hn, (k3 b hbr).1, (k3 b hbr).2⟩⟩
  · rw [h2]
    show up2 (upr S.2.1 r _) m0 f (some r) m0 j = _
    by_cases e : j = f
    · rw [e, up2_self, if_pos rfl]
    · rw [up2_ne _ _ e, if_neg e, upr_off _ _ hmr]
  · rw [h2]
    show upr S.2.2.1 r _ r x = 0
    rw [upr_self]
set_option maxHeartbeats 4000000 in
set_option maxRecDepth 100000 in
theorem m_M_init (l : Launch) (D : va_G) (dA : Nat → ClassId) (S : sS) (sz : Nat) (m0 : Nat) (hm : S.1 m0 = some (.inl 7)) (hz : ∀ i, isC i → S.2.2.1 m0 i = 0) :
    cV l y_M_init c_M_init 1 (rmk 1 8 57344) D dA S sz [.ref m0] (fun u => Mo u m0 0 (fun _ _ => False) (fun _ => False) (fun _ => False) [] 0) (8) (57344) := by
  refine s_met (cc := c_M_init) (maxL := 1) (by decide) rfl (by simp [Value.category]) (by simp [lg_sl, Value.category]) ?_
  intro p e s m args below meth c ls hx hb hr hts hown hlocks hin hml hK hX hsz hM hl
  have hg := gd_hts hts
  have hl : lc ls 1 [some (va_rf (some m0))] := hl
  refine q_al_n (i := 0) hx hb d_M_init_0 rfl hl rfl ?_
  refine W.objInit hx hb hown (hg _ kw_454) (hg _ kw_23) (hg _ kw_24) rfl (by rw [hml]; exact hl.sz) rfl d_M_init_1 (Nat.le_of_ble_eq_true rfl) (Nat.le_of_ble_eq_true rfl) ?_
  refine q_al_n (i := 0) hx hb d_M_init_4 rfl hl rfl ?_
  refine lv_sipush (v := nI 4096) hx hb d_M_init_5 (by decide) ?_
  refine s_newi (t := 0) (ty := .int) (atype := .int) hx hb (hg _ kw_52) rfl rfl (fun _ h => h) hK rfl rfl hM (nI_pos (by omega)) (nI_clamp (by omega)) (by decide) (by show _ ≤ 8; omega) (by show _ ≤ 57344; omega) d_M_init_8 (fun q0 H hq0 hM => ?_)
  obtain ⟨N0, eN0⟩ : ∃ S9 : sS, S9 = sNew S q0 (.inr (0, 4096)) := ⟨_, rfl⟩
  rw [← eN0] at hM
  have kn0 : N0.1 m0 = some (.inl 7) := by rw [eN0]; show va_up S.1 q0 _ m0 = _; rw [va_up_ne _ _ (sk_ne hm hq0)]; exact hm
  obtain ⟨ka0, rb0, ic0, ld0⟩ := N0
  dsimp only at kn0
  refine s_putFr (C := R_M) (T := F_M) (N := 13) (ci := 7) hx hb hg in_M ft_M ft_M_ok fn_M hown hK hM kn0 rfl 2 (by decide) rfl (hg _ kw_457) (fun _ h9 => h9) rfl hin rfl (some q0) (rf_narrowA _ _) (rf_fitsA _ _) d_M_init_10 (fun H locs hM => ?_)
  obtain ⟨S1, eS1⟩ : ∃ S9 : sS, S9 = (ka0, up2 rb0 m0 2 (some q0), ic0, ld0) := ⟨_, rfl⟩
  rw [← eS1] at hM
  obtain ⟨F1, hm1, hf1, ht1, hk1, hv1, hn1⟩ := arr_step (S2 := S1) (f := 2) (k := .inr (0, 4096)) hm hq0 (by rw [eS1, ← eN0])
  refine q_al_n (i := 0) hx hb d_M_init_13 rfl hl rfl ?_
  refine lv_sipush (v := nI 4096) hx hb d_M_init_14 (by decide) ?_
  refine s_newi (t := 0) (ty := .int) (atype := .int) hx hb (hg _ kw_52) rfl rfl (fun _ h => h) hK rfl rfl hM (nI_pos (by omega)) (nI_clamp (by omega)) (by decide) (by show _ ≤ 8; omega) (by show _ ≤ 57344; omega) d_M_init_17 (fun q1 H hq1 hM => ?_)
  obtain ⟨N1, eN1⟩ : ∃ S9 : sS, S9 = sNew S1 q1 (.inr (0, 4096)) := ⟨_, rfl⟩
  rw [← eN1] at hM
  have kn1 : N1.1 m0 = some (.inl 7) := by rw [eN1]; show va_up S1.1 q1 _ m0 = _; rw [va_up_ne _ _ (sk_ne hm1 hq1)]; exact hm1
  obtain ⟨ka1, rb1, ic1, ld1⟩ := N1
  dsimp only at kn1
  refine s_putFr (C := R_M) (T := F_M) (N := 13) (ci := 7) hx hb hg in_M ft_M ft_M_ok fn_M hown hK hM kn1 rfl 3 (by decide) rfl (hg _ kw_458) (fun _ h9 => h9) rfl hin rfl (some q1) (rf_narrowA _ _) (rf_fitsA _ _) d_M_init_19 (fun H locs hM => ?_)
  obtain ⟨S2, eS2⟩ : ∃ S9 : sS, S9 = (ka1, up2 rb1 m0 3 (some q1), ic1, ld1) := ⟨_, rfl⟩
  rw [← eS2] at hM
  obtain ⟨F2, hm2, hf2, ht2, hk2, hv2, hn2⟩ := arr_step (S2 := S2) (f := 3) (k := .inr (0, 4096)) hm1 hq1 (by rw [eS2, ← eN1])
  refine q_al_n (i := 0) hx hb d_M_init_22 rfl hl rfl ?_
  refine lv_sipush (v := nI 8192) hx hb d_M_init_23 (by decide) ?_
  refine s_newi (t := 0) (ty := .int) (atype := .int) hx hb (hg _ kw_52) rfl rfl (fun _ h => h) hK rfl rfl hM (nI_pos (by omega)) (nI_clamp (by omega)) (by decide) (by show _ ≤ 8; omega) (by show _ ≤ 57344; omega) d_M_init_26 (fun q2 H hq2 hM => ?_)
  obtain ⟨N2, eN2⟩ : ∃ S9 : sS, S9 = sNew S2 q2 (.inr (0, 8192)) := ⟨_, rfl⟩
  rw [← eN2] at hM
  have kn2 : N2.1 m0 = some (.inl 7) := by rw [eN2]; show va_up S2.1 q2 _ m0 = _; rw [va_up_ne _ _ (sk_ne hm2 hq2)]; exact hm2
  obtain ⟨ka2, rb2, ic2, ld2⟩ := N2
  dsimp only at kn2
  refine s_putFr (C := R_M) (T := F_M) (N := 13) (ci := 7) hx hb hg in_M ft_M ft_M_ok fn_M hown hK hM kn2 rfl 5 (by decide) rfl (hg _ kw_460) (fun _ h9 => h9) rfl hin rfl (some q2) (rf_narrowA _ _) (rf_fitsA _ _) d_M_init_28 (fun H locs hM => ?_)
  obtain ⟨S3, eS3⟩ : ∃ S9 : sS, S9 = (ka2, up2 rb2 m0 5 (some q2), ic2, ld2) := ⟨_, rfl⟩
  rw [← eS3] at hM
  obtain ⟨F3, hm3, hf3, ht3, hk3, hv3, hn3⟩ := arr_step (S2 := S3) (f := 5) (k := .inr (0, 8192)) hm2 hq2 (by rw [eS3, ← eN2])
  refine q_al_n (i := 0) hx hb d_M_init_31 rfl hl rfl ?_
  refine lv_sipush (v := nI 8192) hx hb d_M_init_32 (by decide) ?_
  refine s_newi (t := 4) (ty := .boolean) (atype := .boolean) hx hb (hg _ kw_495) rfl rfl (fun _ h => h) hK rfl rfl hM (nI_pos (by omega)) (nI_clamp (by omega)) (by decide) (by show _ ≤ 8; omega) (by show _ ≤ 57344; omega) d_M_init_35 (fun q3 H hq3 hM => ?_)
  obtain ⟨N3, eN3⟩ : ∃ S9 : sS, S9 = sNew S3 q3 (.inr (4, 8192)) := ⟨_, rfl⟩
  rw [← eN3] at hM
  have kn3 : N3.1 m0 = some (.inl 7) := by rw [eN3]; show va_up S3.1 q3 _ m0 = _; rw [va_up_ne _ _ (sk_ne hm3 hq3)]; exact hm3
  obtain ⟨ka3, rb3, ic3, ld3⟩ := N3
  dsimp only at kn3
  refine s_putFr (C := R_M) (T := F_M) (N := 13) (ci := 7) hx hb hg in_M ft_M ft_M_ok fn_M hown hK hM kn3 rfl 6 (by decide) rfl (hg _ kw_461) (fun _ h9 => h9) rfl hin rfl (some q3) (rf_narrowA _ _) (rf_fitsA _ _) d_M_init_37 (fun H locs hM => ?_)
  obtain ⟨S4, eS4⟩ : ∃ S9 : sS, S9 = (ka3, up2 rb3 m0 6 (some q3), ic3, ld3) := ⟨_, rfl⟩
  rw [← eS4] at hM
  obtain ⟨F4, hm4, hf4, ht4, hk4, hv4, hn4⟩ := arr_step (S2 := S4) (f := 6) (k := .inr (4, 8192)) hm3 hq3 (by rw [eS4, ← eN3])
  refine q_al_n (i := 0) hx hb d_M_init_40 rfl hl rfl ?_
  refine lv_sipush (v := nI 8192) hx hb d_M_init_41 (by decide) ?_
  refine s_newi (t := 4) (ty := .boolean) (atype := .boolean) hx hb (hg _ kw_495) rfl rfl (fun _ h => h) hK rfl rfl hM (nI_pos (by omega)) (nI_clamp (by omega)) (by decide) (by show _ ≤ 8; omega) (by show _ ≤ 57344; omega) d_M_init_44 (fun q4 H hq4 hM => ?_)
  obtain ⟨N4, eN4⟩ : ∃ S9 : sS, S9 = sNew S4 q4 (.inr (4, 8192)) := ⟨_, rfl⟩
  rw [← eN4] at hM
  have kn4 : N4.1 m0 = some (.inl 7) := by rw [eN4]; show va_up S4.1 q4 _ m0 = _; rw [va_up_ne _ _ (sk_ne hm4 hq4)]; exact hm4
  obtain ⟨ka4, rb4, ic4, ld4⟩ := N4
  dsimp only at kn4
  refine s_putFr (C := R_M) (T := F_M) (N := 13) (ci := 7) hx hb hg in_M ft_M ft_M_ok fn_M hown hK hM kn4 rfl 7 (by decide) rfl (hg _ kw_462) (fun _ h9 => h9) rfl hin rfl (some q4) (rf_narrowA _ _) (rf_fitsA _ _) d_M_init_46 (fun H locs hM => ?_)
  obtain ⟨S5, eS5⟩ : ∃ S9 : sS, S9 = (ka4, up2 rb4 m0 7 (some q4), ic4, ld4) := ⟨_, rfl⟩
  rw [← eS5] at hM
  obtain ⟨F5, hm5, hf5, ht5, hk5, hv5, hn5⟩ := arr_step (S2 := S5) (f := 7) (k := .inr (4, 8192)) hm4 hq4 (by rw [eS5, ← eN4])
  refine q_al_n (i := 0) hx hb d_M_init_49 rfl hl rfl ?_
  refine lv_sipush (v := nI 8192) hx hb d_M_init_50 (by decide) ?_
  refine s_newi (t := 4) (ty := .boolean) (atype := .boolean) hx hb (hg _ kw_495) rfl rfl (fun _ h => h) hK rfl rfl hM (nI_pos (by omega)) (nI_clamp (by omega)) (by decide) (by show _ ≤ 8; omega) (by show _ ≤ 57344; omega) d_M_init_53 (fun q5 H hq5 hM => ?_)
  obtain ⟨N5, eN5⟩ : ∃ S9 : sS, S9 = sNew S5 q5 (.inr (4, 8192)) := ⟨_, rfl⟩
  rw [← eN5] at hM
  have kn5 : N5.1 m0 = some (.inl 7) := by rw [eN5]; show va_up S5.1 q5 _ m0 = _; rw [va_up_ne _ _ (sk_ne hm5 hq5)]; exact hm5
  obtain ⟨ka5, rb5, ic5, ld5⟩ := N5
  dsimp only at kn5
  refine s_putFr (C := R_M) (T := F_M) (N := 13) (ci := 7) hx hb hg in_M ft_M ft_M_ok fn_M hown hK hM kn5 rfl 8 (by decide) rfl (hg _ kw_463) (fun _ h9 => h9) rfl hin rfl (some q5) (rf_narrowA _ _) (rf_fitsA _ _) d_M_init_55 (fun H locs hM => ?_)
  obtain ⟨S6, eS6⟩ : ∃ S9 : sS, S9 = (ka5, up2 rb5 m0 8 (some q5), ic5, ld5) := ⟨_, rfl⟩
  rw [← eS6] at hM
  obtain ⟨F6, hm6, hf6, ht6, hk6, hv6, hn6⟩ := arr_step (S2 := S6) (f := 8) (k := .inr (4, 8192)) hm5 hq5 (by rw [eS6, ← eN5])
  refine q_al_n (i := 0) hx hb d_M_init_58 rfl hl rfl ?_
  refine lv_sipush (v := nI 8192) hx hb d_M_init_59 (by decide) ?_
  refine s_newi (t := 4) (ty := .boolean) (atype := .boolean) hx hb (hg _ kw_495) rfl rfl (fun _ h => h) hK rfl rfl hM (nI_pos (by omega)) (nI_clamp (by omega)) (by decide) (by show _ ≤ 8; omega) (by show _ ≤ 57344; omega) d_M_init_62 (fun q6 H hq6 hM => ?_)
  obtain ⟨N6, eN6⟩ : ∃ S9 : sS, S9 = sNew S6 q6 (.inr (4, 8192)) := ⟨_, rfl⟩
  rw [← eN6] at hM
  have kn6 : N6.1 m0 = some (.inl 7) := by rw [eN6]; show va_up S6.1 q6 _ m0 = _; rw [va_up_ne _ _ (sk_ne hm6 hq6)]; exact hm6
  obtain ⟨ka6, rb6, ic6, ld6⟩ := N6
  dsimp only at kn6
  refine s_putFr (C := R_M) (T := F_M) (N := 13) (ci := 7) hx hb hg in_M ft_M ft_M_ok fn_M hown hK hM kn6 rfl 9 (by decide) rfl (hg _ kw_464) (fun _ h9 => h9) rfl hin rfl (some q6) (rf_narrowA _ _) (rf_fitsA _ _) d_M_init_64 (fun H locs hM => ?_)
  obtain ⟨S7, eS7⟩ : ∃ S9 : sS, S9 = (ka6, up2 rb6 m0 9 (some q6), ic6, ld6) := ⟨_, rfl⟩
  rw [← eS7] at hM
  obtain ⟨F7, hm7, hf7, ht7, hk7, hv7, hn7⟩ := arr_step (S2 := S7) (f := 9) (k := .inr (4, 8192)) hm6 hq6 (by rw [eS7, ← eN6])
  refine q_al_n (i := 0) hx hb d_M_init_67 rfl hl rfl ?_
  refine lv_sipush (v := nI 8192) hx hb d_M_init_68 (by decide) ?_
  refine s_newi (t := 0) (ty := .int) (atype := .int) hx hb (hg _ kw_52) rfl rfl (fun _ h => h) hK rfl rfl hM (nI_pos (by omega)) (nI_clamp (by omega)) (by decide) (by show _ ≤ 8; omega) (by show _ ≤ 57344; omega) d_M_init_71 (fun q7 H hq7 hM => ?_)
  obtain ⟨N7, eN7⟩ : ∃ S9 : sS, S9 = sNew S7 q7 (.inr (0, 8192)) := ⟨_, rfl⟩
  rw [← eN7] at hM
  have kn7 : N7.1 m0 = some (.inl 7) := by rw [eN7]; show va_up S7.1 q7 _ m0 = _; rw [va_up_ne _ _ (sk_ne hm7 hq7)]; exact hm7
  obtain ⟨ka7, rb7, ic7, ld7⟩ := N7
  dsimp only at kn7
  refine s_putFr (C := R_M) (T := F_M) (N := 13) (ci := 7) hx hb hg in_M ft_M ft_M_ok fn_M hown hK hM kn7 rfl 11 (by decide) rfl (hg _ kw_466) (fun _ h9 => h9) rfl hin rfl (some q7) (rf_narrowA _ _) (rf_fitsA _ _) d_M_init_73 (fun H locs hM => ?_)
  obtain ⟨S8, eS8⟩ : ∃ S9 : sS, S9 = (ka7, up2 rb7 m0 11 (some q7), ic7, ld7) := ⟨_, rfl⟩
  rw [← eS8] at hM
  obtain ⟨F8, hm8, hf8, ht8, hk8, hv8, hn8⟩ := arr_step (S2 := S8) (f := 11) (k := .inr (0, 8192)) hm7 hq7 (by rw [eS8, ← eN7])
  have K0 := (F8.kd (F7.kd (F6.kd (F5.kd (F4.kd (F3.kd (F2.kd hk1)))))))
  have V0 : ∀ x, S8.2.2.1 q0 x = 0 := fun x => by
    have g2 := ((F2 q0 (sk_nn hk1)).2 hn1).2.1
    have g3 := ((F3 q0 (sk_nn (F2.kd hk1))).2 hn1).2.1
    have g4 := ((F4 q0 (sk_nn (F3.kd (F2.kd hk1)))).2 hn1).2.1
    have g5 := ((F5 q0 (sk_nn (F4.kd (F3.kd (F2.kd hk1))))).2 hn1).2.1
    have g6 := ((F6 q0 (sk_nn (F5.kd (F4.kd (F3.kd (F2.kd hk1)))))).2 hn1).2.1
    have g7 := ((F7 q0 (sk_nn (F6.kd (F5.kd (F4.kd (F3.kd (F2.kd hk1))))))).2 hn1).2.1
    have g8 := ((F8 q0 (sk_nn (F7.kd (F6.kd (F5.kd (F4.kd (F3.kd (F2.kd hk1)))))))).2 hn1).2.1
    rw [g8, g7, g6, g5, g4, g3, g2]; exact hv1 x
  have K1 := (F8.kd (F7.kd (F6.kd (F5.kd (F4.kd (F3.kd hk2))))))
  have V1 : ∀ x, S8.2.2.1 q1 x = 0 := fun x => by
    have g3 := ((F3 q1 (sk_nn hk2)).2 hn2).2.1
    have g4 := ((F4 q1 (sk_nn (F3.kd hk2))).2 hn2).2.1
    have g5 := ((F5 q1 (sk_nn (F4.kd (F3.kd hk2)))).2 hn2).2.1
    have g6 := ((F6 q1 (sk_nn (F5.kd (F4.kd (F3.kd hk2))))).2 hn2).2.1
    have g7 := ((F7 q1 (sk_nn (F6.kd (F5.kd (F4.kd (F3.kd hk2)))))).2 hn2).2.1
    have g8 := ((F8 q1 (sk_nn (F7.kd (F6.kd (F5.kd (F4.kd (F3.kd hk2))))))).2 hn2).2.1
    rw [g8, g7, g6, g5, g4, g3]; exact hv2 x
  have K2 := (F8.kd (F7.kd (F6.kd (F5.kd (F4.kd hk3)))))
  have V2 : ∀ x, S8.2.2.1 q2 x = 0 := fun x => by
    have g4 := ((F4 q2 (sk_nn hk3)).2 hn3).2.1
    have g5 := ((F5 q2 (sk_nn (F4.kd hk3))).2 hn3).2.1
    have g6 := ((F6 q2 (sk_nn (F5.kd (F4.kd hk3)))).2 hn3).2.1
    have g7 := ((F7 q2 (sk_nn (F6.kd (F5.kd (F4.kd hk3))))).2 hn3).2.1
    have g8 := ((F8 q2 (sk_nn (F7.kd (F6.kd (F5.kd (F4.kd hk3)))))).2 hn3).2.1
    rw [g8, g7, g6, g5, g4]; exact hv3 x
  have K3 := (F8.kd (F7.kd (F6.kd (F5.kd hk4))))
  have V3 : ∀ x, S8.2.2.1 q3 x = 0 := fun x => by
    have g5 := ((F5 q3 (sk_nn hk4)).2 hn4).2.1
    have g6 := ((F6 q3 (sk_nn (F5.kd hk4))).2 hn4).2.1
    have g7 := ((F7 q3 (sk_nn (F6.kd (F5.kd hk4)))).2 hn4).2.1
    have g8 := ((F8 q3 (sk_nn (F7.kd (F6.kd (F5.kd hk4))))).2 hn4).2.1
    rw [g8, g7, g6, g5]; exact hv4 x
  have K4 := (F8.kd (F7.kd (F6.kd hk5)))
  have V4 : ∀ x, S8.2.2.1 q4 x = 0 := fun x => by
    have g6 := ((F6 q4 (sk_nn hk5)).2 hn5).2.1
    have g7 := ((F7 q4 (sk_nn (F6.kd hk5))).2 hn5).2.1
    have g8 := ((F8 q4 (sk_nn (F7.kd (F6.kd hk5)))).2 hn5).2.1
    rw [g8, g7, g6]; exact hv5 x
  have K5 := (F8.kd (F7.kd hk6))
  have V5 : ∀ x, S8.2.2.1 q5 x = 0 := fun x => by
    have g7 := ((F7 q5 (sk_nn hk6)).2 hn6).2.1
    have g8 := ((F8 q5 (sk_nn (F7.kd hk6))).2 hn6).2.1
    rw [g8, g7]; exact hv6 x
  have K6 := (F8.kd hk7)
  have V6 : ∀ x, S8.2.2.1 q6 x = 0 := fun x => by
    have g8 := ((F8 q6 (sk_nn hk7)).2 hn7).2.1
    rw [g8]; exact hv7 x
  have K7 := hk8
  have V7 : ∀ x, S8.2.2.1 q7 x = 0 := fun x => by
    exact hv8 x
  have D01 : q0 ≠ q1 := sk_ne hk1 hq1
  have D02 : q0 ≠ q2 := sk_ne (F2.kd hk1) hq2
  have D03 : q0 ≠ q3 := sk_ne (F3.kd (F2.kd hk1)) hq3
  have D04 : q0 ≠ q4 := sk_ne (F4.kd (F3.kd (F2.kd hk1))) hq4
  have D05 : q0 ≠ q5 := sk_ne (F5.kd (F4.kd (F3.kd (F2.kd hk1)))) hq5
  have D06 : q0 ≠ q6 := sk_ne (F6.kd (F5.kd (F4.kd (F3.kd (F2.kd hk1))))) hq6
  have D07 : q0 ≠ q7 := sk_ne (F7.kd (F6.kd (F5.kd (F4.kd (F3.kd (F2.kd hk1)))))) hq7
  have D12 : q1 ≠ q2 := sk_ne hk2 hq2
  have D13 : q1 ≠ q3 := sk_ne (F3.kd hk2) hq3
  have D14 : q1 ≠ q4 := sk_ne (F4.kd (F3.kd hk2)) hq4
  have D15 : q1 ≠ q5 := sk_ne (F5.kd (F4.kd (F3.kd hk2))) hq5
  have D16 : q1 ≠ q6 := sk_ne (F6.kd (F5.kd (F4.kd (F3.kd hk2)))) hq6
  have D17 : q1 ≠ q7 := sk_ne (F7.kd (F6.kd (F5.kd (F4.kd (F3.kd hk2))))) hq7
  have D23 : q2 ≠ q3 := sk_ne hk3 hq3
  have D24 : q2 ≠ q4 := sk_ne (F4.kd hk3) hq4
  have D25 : q2 ≠ q5 := sk_ne (F5.kd (F4.kd hk3)) hq5
  have D26 : q2 ≠ q6 := sk_ne (F6.kd (F5.kd (F4.kd hk3))) hq6
  have D27 : q2 ≠ q7 := sk_ne (F7.kd (F6.kd (F5.kd (F4.kd hk3)))) hq7
  have D34 : q3 ≠ q4 := sk_ne hk4 hq4
  have D35 : q3 ≠ q5 := sk_ne (F5.kd hk4) hq5
  have D36 : q3 ≠ q6 := sk_ne (F6.kd (F5.kd hk4)) hq6
  have D37 : q3 ≠ q7 := sk_ne (F7.kd (F6.kd (F5.kd hk4))) hq7
  have D45 : q4 ≠ q5 := sk_ne hk5 hq5
  have D46 : q4 ≠ q6 := sk_ne (F6.kd hk5) hq6
  have D47 : q4 ≠ q7 := sk_ne (F7.kd (F6.kd hk5)) hq7
  have D56 : q5 ≠ q6 := sk_ne hk6 hq6
  have D57 : q5 ≠ q7 := sk_ne (F7.kd hk6) hq7
  have D67 : q6 ≠ q7 := sk_ne hk7 hq7
  have hit : S8.2.2.1 m0 = S.2.2.1 m0 := by rw [ht8, ht7, ht6, ht5, ht4, ht3, ht2, ht1]
  have harr : ∀ i, i < 8 → ∀ x, S8.2.2.1 ((fun i => match i with | 0 => q0 | 1 => q1 | 2 => q2 | 3 => q3 | 4 => q4 | 5 => q5 | 6 => q6 | _ => q7) i) x = 0 := by
    intro i hi x
    match i, hi with
    | 0, _ => exact V0 x
    | 1, _ => exact V1 x
    | 2, _ => exact V2 x
    | 3, _ => exact V3 x
    | 4, _ => exact V4 x
    | 5, _ => exact V5 x
    | 6, _ => exact V6 x
    | 7, _ => exact V7 x
  refine W.widen (k := 8) (n := 57344) (by omega) (by omega) ?_
  refine s_vret hx hb hr hM ?_ d_M_init_76 hlocks
  refine ⟨(fun i => match i with | 0 => q0 | 1 => q1 | 2 => q2 | 3 => q3 | 4 => q4 | 5 => q5 | 6 => q6 | _ => q7), (fun _ => 0), (fun _ _ => 0), (fun _ _ => false), ⟨hm8, ⟨?_, ?_, ?_, ?_, ?_, ?_, ?_, ?_⟩, ⟨K0, K1, K2, K3, K4, K5, K6, K7⟩, fun i j hi hj e => ?_⟩, ⟨fun i hi => ?_, fun i x hi hx9 => ?_, fun k x h3 h6 hx9 => ?_⟩, Nat.le_refl _, Nat.le_refl _, fun x hx9 => absurd hx9 (Nat.not_lt_zero x), fun x y hx9 => absurd hx9 (Nat.not_lt_zero x), fun k hk => absurd hk (Nat.not_lt_zero k), fun j k hj => absurd hj (Nat.not_lt_zero j), fun v u => ⟨fun z => z.elim, fun ⟨k, hk, _⟩ => absurd hk (Nat.not_lt_zero k)⟩, fun v => ⟨fun z => z.elim, fun ⟨k, hk, _⟩ => absurd hk (Nat.not_lt_zero k)⟩, fun v => ⟨fun z => z.elim, fun ⟨k, hk, _⟩ => absurd hk (Nat.not_lt_zero k)⟩, fun x _ => ⟨rfl, rfl⟩, rfl, Nat.zero_le _, fun i hi => absurd hi (Nat.not_lt_zero i), rfl⟩
  · show S8.2.1 m0 2 = some q0
    rw [hf8, if_neg (by decide), hf7, if_neg (by decide), hf6, if_neg (by decide), hf5, if_neg (by decide), hf4, if_neg (by decide), hf3, if_neg (by decide), hf2, if_neg (by decide), hf1, if_pos rfl]
  · show S8.2.1 m0 3 = some q1
    rw [hf8, if_neg (by decide), hf7, if_neg (by decide), hf6, if_neg (by decide), hf5, if_neg (by decide), hf4, if_neg (by decide), hf3, if_neg (by decide), hf2, if_pos rfl]
  · show S8.2.1 m0 5 = some q2
    rw [hf8, if_neg (by decide), hf7, if_neg (by decide), hf6, if_neg (by decide), hf5, if_neg (by decide), hf4, if_neg (by decide), hf3, if_pos rfl]
  · show S8.2.1 m0 6 = some q3
    rw [hf8, if_neg (by decide), hf7, if_neg (by decide), hf6, if_neg (by decide), hf5, if_neg (by decide), hf4, if_pos rfl]
  · show S8.2.1 m0 7 = some q4
    rw [hf8, if_neg (by decide), hf7, if_neg (by decide), hf6, if_neg (by decide), hf5, if_pos rfl]
  · show S8.2.1 m0 8 = some q5
    rw [hf8, if_neg (by decide), hf7, if_neg (by decide), hf6, if_pos rfl]
  · show S8.2.1 m0 9 = some q6
    rw [hf8, if_neg (by decide), hf7, if_pos rfl]
  · show S8.2.1 m0 11 = some q7
    rw [hf8, if_pos rfl]
  · match i, j, hi, hj, e with
    | 0, 0, _, _, _ => rfl
    | 0, 1, _, _, e => exact absurd e D01
    | 0, 2, _, _, e => exact absurd e D02
    | 0, 3, _, _, e => exact absurd e D03
    | 0, 4, _, _, e => exact absurd e D04
    | 0, 5, _, _, e => exact absurd e D05
    | 0, 6, _, _, e => exact absurd e D06
    | 0, 7, _, _, e => exact absurd e D07
    | 1, 0, _, _, e => exact absurd e.symm D01
    | 1, 1, _, _, _ => rfl
    | 1, 2, _, _, e => exact absurd e D12
    | 1, 3, _, _, e => exact absurd e D13
    | 1, 4, _, _, e => exact absurd e D14
    | 1, 5, _, _, e => exact absurd e D15
    | 1, 6, _, _, e => exact absurd e D16
    | 1, 7, _, _, e => exact absurd e D17
    | 2, 0, _, _, e => exact absurd e.symm D02
    | 2, 1, _, _, e => exact absurd e.symm D12
    | 2, 2, _, _, _ => rfl
    | 2, 3, _, _, e => exact absurd e D23
    | 2, 4, _, _, e => exact absurd e D24
    | 2, 5, _, _, e => exact absurd e D25
    | 2, 6, _, _, e => exact absurd e D26
    | 2, 7, _, _, e => exact absurd e D27
    | 3, 0, _, _, e => exact absurd e.symm D03
    | 3, 1, _, _, e => exact absurd e.symm D13
    | 3, 2, _, _, e => exact absurd e.symm D23
    | 3, 3, _, _, _ => rfl
    | 3, 4, _, _, e => exact absurd e D34
    | 3, 5, _, _, e => exact absurd e D35
    | 3, 6, _, _, e => exact absurd e D36
    | 3, 7, _, _, e => exact absurd e D37
    | 4, 0, _, _, e => exact absurd e.symm D04
    | 4, 1, _, _, e => exact absurd e.symm D14
    | 4, 2, _, _, e => exact absurd e.symm D24
    | 4, 3, _, _, e => exact absurd e.symm D34
    | 4, 4, _, _, _ => rfl
    | 4, 5, _, _, e => exact absurd e D45
    | 4, 6, _, _, e => exact absurd e D46
    | 4, 7, _, _, e => exact absurd e D47
    | 5, 0, _, _, e => exact absurd e.symm D05
    | 5, 1, _, _, e => exact absurd e.symm D15
    | 5, 2, _, _, e => exact absurd e.symm D25
    | 5, 3, _, _, e => exact absurd e.symm D35
    | 5, 4, _, _, e => exact absurd e.symm D45
    | 5, 5, _, _, _ => rfl
    | 5, 6, _, _, e => exact absurd e D56
    | 5, 7, _, _, e => exact absurd e D57
    | 6, 0, _, _, e => exact absurd e.symm D06
    | 6, 1, _, _, e => exact absurd e.symm D16
    | 6, 2, _, _, e => exact absurd e.symm D26
    | 6, 3, _, _, e => exact absurd e.symm D36
    | 6, 4, _, _, e => exact absurd e.symm D46
    | 6, 5, _, _, e => exact absurd e.symm D56
    | 6, 6, _, _, _ => rfl
    | 6, 7, _, _, e => exact absurd e D67
    | 7, 0, _, _, e => exact absurd e.symm D07
    | 7, 1, _, _, e => exact absurd e.symm D17
    | 7, 2, _, _, e => exact absurd e.symm D27
    | 7, 3, _, _, e => exact absurd e.symm D37
    | 7, 4, _, _, e => exact absurd e.symm D47
    | 7, 5, _, _, e => exact absurd e.symm D57
    | 7, 6, _, _, e => exact absurd e.symm D67
    | 7, 7, _, _, _ => rfl
  · rw [hit, hz i hi]; rfl
  · rw [harr i (by rcases hi with z | z | z | z <;> omega)]; rfl
  · rw [harr k (by omega)]; rfl
