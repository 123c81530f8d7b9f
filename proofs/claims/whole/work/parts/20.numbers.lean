set_option maxHeartbeats 4000000 in
set_option maxRecDepth 100000 in
theorem m_U_isIndex (l : Launch) (D : va_G) (dA : Nat → ClassId) (S : sS) (sz : Nat) (a r cap n : Nat) (f : Nat → Nat) (k : Int32) (h : Nm S a r cap n f) :
    cI l y_U_isIndex c_U_isIndex 2 (some .boolean) (rmk 0 0 0) D dA S sz [.ref a, .int k] (fun x u => u = S ∧ ((x = 1 ∧ vp_in k n) ∨ (x = 0 ∧ ¬ vp_in k n))) (0) (0) := by
  obtain ⟨kd, rf, it, lg⟩ := S
  obtain ⟨ka, hrow, kr, hn, hle, h16, hcap, hf⟩ := h
  dsimp only at ka hrow kr hn hf
  refine s_met (cc := c_U_isIndex) (maxL := 2) (by decide) rfl (by simp [Value.category]) (by simp [lg_sl, Value.category]) ?_
  intro p e s m args below meth c ls hx hb hr hts hown hlocks hin hml hK hX hsz hM hl
  have hg := gd_hts hts
  have hl : lc ls 2 [some (va_rf (some a)), some (.int k)] := hl
  refine q_iload_n (i := 1) hx hb d_U_isIndex_0 rfl hl rfl ?_
  refine lv_if_lt (tgt := 25) hx hb d_U_isIndex_1 (by decide) (fun c1 => ?_) (fun c1 => ?_)
  · refine lv_iconst (v := 0) hx hb d_U_isIndex_25 (by decide) ?_
    exact s_zret hx hb hr rfl hM ⟨rfl, Or.inr ⟨rfl, fun q => q (Or.inl c1)⟩⟩ d_U_isIndex_26 hlocks
  · refine q_iload_n (i := 1) hx hb d_U_isIndex_4 rfl hl rfl ?_
    refine q_al_n (i := 0) hx hb d_U_isIndex_5 rfl hl rfl ?_
    refine s_geti (C := R_U) (T := F_U) (N := 2) (ci := 5) hx hb hg in_U hown hK hM (by assumption) rfl 1 (by decide) rfl (hg _ kw_44) (fun _ h9 => h9) d_U_isIndex_6 ?_
    rw [hn]
    refine lv_icmp_ge (tgt := 25) hx hb d_U_isIndex_9 (by decide) (fun c2 => ?_) (fun c2 => ?_)
    · refine lv_iconst (v := 0) hx hb d_U_isIndex_25 (by decide) ?_
      exact s_zret hx hb hr rfl hM ⟨rfl, Or.inr ⟨rfl, vi_ge c2 (by omega)⟩⟩ d_U_isIndex_26 hlocks
    · refine q_iload_n (i := 1) hx hb d_U_isIndex_12 rfl hl rfl ?_
      refine q_al_n (i := 0) hx hb d_U_isIndex_13 rfl hl rfl ?_
      refine s_getr (C := R_U) (T := F_U) (N := 2) (ci := 5) hx hb hg in_U hown hK hM (by assumption) rfl 0 (by decide) rfl (hg _ kw_43) (fun _ h9 => h9) d_U_isIndex_14 ?_
      rw [hrow]
      refine s_len (ty := .int) hx hb hK hM kr rfl d_U_isIndex_17 ?_
      refine lv_icmp_ge (tgt := 25) hx hb d_U_isIndex_18 (by decide) (fun c3 => ?_) (fun c3 => ?_)
      · exact absurd (vi_le (vi_of c1 c2 (by omega)) hle (by omega)) (vi_ge c3 (by omega))
      · refine lv_iconst (v := 1) hx hb d_U_isIndex_21 (by decide) ?_
        refine lv_goto (tgt := 26) hx hb d_U_isIndex_22 (by decide) ?_
        exact s_zret hx hb hr rfl hM ⟨rfl, Or.inl ⟨rfl, vi_of c1 c2 (by omega)⟩⟩ d_U_isIndex_26 hlocks
set_option maxHeartbeats 4000000 in
set_option maxRecDepth 100000 in
theorem m_U_at (l : Launch) (D : va_G) (dA : Nat → ClassId) (S : sS) (sz : Nat) (a r cap n : Nat) (f : Nat → Nat) (k : Int32) (h : Nm S a r cap n f) :
    cI l y_U_at c_U_at 2 (some .int) (rmk 1 0 0) D dA S sz [.ref a, .int k] (fun x u => u = S ∧ ((vp_in k n ∧ x = nI (f k.toNatClampNeg)) ∨ (¬ vp_in k n ∧ x = -1))) (0) (0) := by
  obtain ⟨kd, rf, it, lg⟩ := S
  obtain ⟨ka, hrow, kr, hn, hle, h16, hcap, hf⟩ := h
  dsimp only at ka hrow kr hn hf
  refine s_met (cc := c_U_at) (maxL := 2) (by decide) rfl (by simp [Value.category]) (by simp [lg_sl, Value.category]) ?_
  intro p e s m args below meth c ls hx hb hr hts hown hlocks hin hml hK hX hsz hM hl
  have hg := gd_hts hts
  have hl : lc ls 2 [some (va_rf (some a)), some (.int k)] := hl
  refine q_al_n (i := 0) hx hb d_U_at_0 rfl hl rfl ?_
  refine q_iload_n (i := 1) hx hb d_U_at_1 rfl hl rfl ?_
  refine s_calli (r_V 1 [.int k] rfl hx hb hml hown hg (m_U_isIndex l D dA _ _ a r cap n f k ⟨ka, hrow, kr, hn, hle, h16, hcap, hf⟩) (hM.pre hK hX) (hM.recv hK ka (q := cls.getD 5 (R_H, F_H, 7)) rfl) kw_103 kw_105 ks_1 kw_3 kw_106 (by decide +kernel) ⟨Nat.le_of_ble_eq_true rfl, Nat.le_of_ble_eq_true rfl⟩ rfl rfl hl.sz (by simp [rf_cat, Value.category]) d_U_at_2 ⟨Nat.le_refl _, Nat.le_refl _⟩ rfl) hM (fun r1 u H locs hp hM => ?_)
  obtain ⟨rfl, hp⟩ := hp
  refine lv_if_eq (tgt := 17) hx hb d_U_at_5 (by decide) (fun c1 => ?_) (fun c1 => ?_)
  · refine lv_iconst (v := -1) hx hb d_U_at_17 (by decide) ?_
    rcases hp with ⟨e1, -⟩ | ⟨-, hv⟩
    · rw [e1] at c1; exact absurd c1 (by decide)
    · exact s_iret hx hb hr hM ⟨rfl, Or.inr ⟨hv, rfl⟩⟩ d_U_at_18 hlocks
  · rcases hp with ⟨-, hv⟩ | ⟨e1, -⟩
    · refine q_al_n (i := 0) hx hb d_U_at_8 rfl hl rfl ?_
      refine s_getr (C := R_U) (T := F_U) (N := 2) (ci := 5) hx hb hg in_U hown hK hM (by assumption) rfl 0 (by decide) rfl (hg _ kw_43) (fun _ h9 => h9) d_U_at_9 ?_
      rw [hrow]
      refine q_iload_n (i := 1) hx hb d_U_at_12 rfl hl rfl ?_
      refine s_ild (t := 0) hx hb hK hM kr rfl rfl (vi_le hv hle (by omega)) d_U_at_13 ?_
      refine lv_goto (tgt := 18) hx hb d_U_at_14 (by decide) ?_
      obtain ⟨j, hj, ej⟩ := vp_in_of hv (by omega)
      have ek : k.toNatClampNeg = j := by rw [ej]; exact nI_clamp (by omega)
      exact s_iret hx hb hr hM ⟨rfl, Or.inl ⟨hv, by rw [ek]; exact hf j hj⟩⟩ d_U_at_18 hlocks
    · exact absurd e1 c1
set_option maxHeartbeats 4000000 in
set_option maxRecDepth 100000 in
theorem m_U_set (l : Launch) (D : va_G) (dA : Nat → ClassId) (S : sS) (sz : Nat) (a r cap n : Nat) (f : Nat → Nat) (k x : Int32) (h : Nm S a r cap n f) :
    cV l y_U_set c_U_set 3 (rmk 1 0 0) D dA S sz [.ref a, .int k, .int x] (fun u => (vp_in k n ∧ u = (S.1, S.2.1, up2 S.2.2.1 r k.toNatClampNeg x, S.2.2.2)) ∨ (¬ vp_in k n ∧ u = S)) (0) (0) := by
  obtain ⟨kd, rf, it, lg⟩ := S
  obtain ⟨ka, hrow, kr, hn, hle, h16, hcap, hf⟩ := h
  dsimp only at ka hrow kr hn hf
  refine s_met (cc := c_U_set) (maxL := 3) (by decide) rfl (by simp [Value.category]) (by simp [lg_sl, Value.category]) ?_
  intro p e s m args below meth c ls hx hb hr hts hown hlocks hin hml hK hX hsz hM hl
  have hg := gd_hts hts
  have hl : lc ls 3 [some (va_rf (some a)), some (.int k), some (.int x)] := hl
  refine q_al_n (i := 0) hx hb d_U_set_0 rfl hl rfl ?_
  refine q_iload_n (i := 1) hx hb d_U_set_1 rfl hl rfl ?_
  refine s_calli (r_V 1 [.int k] rfl hx hb hml hown hg (m_U_isIndex l D dA _ _ a r cap n f k ⟨ka, hrow, kr, hn, hle, h16, hcap, hf⟩) (hM.pre hK hX) (hM.recv hK ka (q := cls.getD 5 (R_H, F_H, 7)) rfl) kw_103 kw_105 ks_1 kw_3 kw_106 (by decide +kernel) ⟨Nat.le_of_ble_eq_true rfl, Nat.le_of_ble_eq_true rfl⟩ rfl rfl hl.sz (by simp [rf_cat, Value.category]) d_U_set_2 ⟨Nat.le_refl _, Nat.le_refl _⟩ rfl) hM (fun r1 u H locs hp hM => ?_)
  obtain ⟨rfl, hp⟩ := hp
  refine lv_if_eq (tgt := 15) hx hb d_U_set_5 (by decide) (fun c1 => ?_) (fun c1 => ?_)
  · rcases hp with ⟨e1, -⟩ | ⟨-, hv⟩
    · rw [e1] at c1; exact absurd c1 (by decide)
    · exact s_vret hx hb hr hM (Or.inr ⟨hv, rfl⟩) d_U_set_15 hlocks
  · rcases hp with ⟨-, hv⟩ | ⟨e1, -⟩
    · refine q_al_n (i := 0) hx hb d_U_set_8 rfl hl rfl ?_
      refine s_getr (C := R_U) (T := F_U) (N := 2) (ci := 5) hx hb hg in_U hown hK hM (by assumption) rfl 0 (by decide) rfl (hg _ kw_43) (fun _ h9 => h9) d_U_set_9 ?_
      rw [hrow]
      refine q_iload_n (i := 1) hx hb d_U_set_12 rfl hl rfl ?_
      refine q_iload_n (i := 2) hx hb d_U_set_13 rfl hl rfl ?_
      refine s_ist (t := 0) hx hb hK hM kr rfl rfl (vi_le hv hle (by omega)) d_U_set_14 (fun H locs hM => ?_)
      exact s_vret hx hb hr hM (Or.inl ⟨hv, rfl⟩) d_U_set_15 hlocks
    · exact absurd e1 c1
set_option maxHeartbeats 4000000 in
set_option maxRecDepth 100000 in
theorem m_U_empty (l : Launch) (D : va_G) (dA : Nat → ClassId) (S : sS) (sz : Nat) (a : Nat) (h : S.1 a = some (.inl 5)) :
    cV l y_U_empty c_U_empty 1 (rmk 0 0 0) D dA S sz [.ref a] (fun u => u = (S.1, S.2.1, up2 S.2.2.1 a 1 0, S.2.2.2)) (0) (0) := by
  obtain ⟨kd, rf, it, lg⟩ := S
  have ka : kd a = some (.inl 5) := h
  refine s_met (cc := c_U_empty) (maxL := 1) (by decide) rfl (by simp [Value.category]) (by simp [lg_sl, Value.category]) ?_
  intro p e s m args below meth c ls hx hb hr hts hown hlocks hin hml hK hX hsz hM hl
  have hg := gd_hts hts
  have hl : lc ls 1 [some (va_rf (some a))] := hl
  refine q_al_n (i := 0) hx hb d_U_empty_0 rfl hl rfl ?_
  refine lv_iconst (v := 0) hx hb d_U_empty_1 (by decide) ?_
  refine s_puti (C := R_U) (T := F_U) (N := 2) (ci := 5) hx hb hg in_U ft_U ft_U_ok fn_U hown hK hM (by assumption) rfl 1 (by decide) rfl (hg _ kw_44) (fun _ h9 => h9) rfl rfl rfl d_U_empty_2 (fun H locs hM => ?_)
  exact s_vret hx hb hr hM rfl d_U_empty_5 hlocks
set_option maxHeartbeats 4000000 in
set_option maxRecDepth 100000 in
theorem m_U_takeLast (l : Launch) (D : va_G) (dA : Nat → ClassId) (S : sS) (sz : Nat) (a r cap n : Nat) (f : Nat → Nat) (h : Nm S a r cap n f) (h0 : 0 < n) :
    cI l y_U_takeLast c_U_takeLast 2 (some .int) (rmk 2 0 0) D dA S sz [.ref a] (fun x u => x = nI (f (n - 1)) ∧ u = (S.1, S.2.1, up2 S.2.2.1 a 1 (nI (n - 1)), S.2.2.2)) (0) (0) := by
  obtain ⟨kd, rf, it, lg⟩ := S
  obtain ⟨ka, hrow, kr, hn, hle, h16, hcap, hf⟩ := h
  dsimp only at ka hrow kr hn hf
  refine s_met (cc := c_U_takeLast) (maxL := 2) (by decide) rfl (by simp [Value.category]) (by simp [lg_sl, Value.category]) ?_
  intro p e s m args below meth c ls hx hb hr hts hown hlocks hin hml hK hX hsz hM hl
  have hg := gd_hts hts
  have hl : lc ls 2 [some (va_rf (some a)), none] := hl
  refine q_al_n (i := 0) hx hb d_U_takeLast_0 rfl hl rfl ?_
  refine q_al_n (i := 0) hx hb d_U_takeLast_1 rfl hl rfl ?_
  refine s_geti (C := R_U) (T := F_U) (N := 2) (ci := 5) hx hb hg in_U hown hK hM (by assumption) rfl 1 (by decide) rfl (hg _ kw_44) (fun _ h9 => h9) d_U_takeLast_2 ?_
  rw [hn]
  refine lv_iconst (v := 1) hx hb d_U_takeLast_5 (by decide) ?_
  refine lv_isub hx hb d_U_takeLast_6 ?_
  refine s_calli (r_V 1 [.int (nI n - 1)] rfl hx hb hml hown hg (m_U_at l D dA _ _ a r cap n f (nI n - 1) ⟨ka, hrow, kr, hn, hle, h16, hcap, hf⟩) (hM.pre hK hX) (hM.recv hK ka (q := cls.getD 5 (R_H, F_H, 7)) rfl) kw_226 kw_100 kw_101 kw_3 kw_102 (by decide +kernel) ⟨Nat.le_of_ble_eq_true rfl, Nat.le_of_ble_eq_true rfl⟩ rfl rfl hl.sz (by simp [rf_cat, Value.category]) d_U_takeLast_7 ⟨Nat.le_refl _, Nat.le_refl _⟩ rfl) hM (fun r1 u H locs hp hM => ?_)
  obtain ⟨rfl, hp⟩ := hp
  have e0 : nI n - 1 = nI (n - 1) := by obtain ⟨j, rfl⟩ : ∃ j, n = j + 1 := ⟨n - 1, by omega⟩; exact nI_pred j
  have hr1 : r1 = nI (f (n - 1)) := by
    rcases hp with ⟨-, e1⟩ | ⟨hv, -⟩
    · rw [e1, e0, nI_clamp (by omega)]
    · exact absurd (by rw [e0]; exact vp_in_nI (by omega) (by omega)) hv
  subst hr1
  refine q_istore_n (i := 1) hx hb d_U_takeLast_10 rfl hl (by decide) (fun ls hl => ?_)
  simp only [List.set_cons_succ, List.set_cons_zero] at hl
  refine q_al_n (i := 0) hx hb d_U_takeLast_11 rfl hl rfl ?_
  refine s_geti (C := R_U) (T := F_U) (N := 2) (ci := 5) hx hb hg in_U hown hK hM (by assumption) rfl 1 (by decide) rfl (hg _ kw_44) (fun _ h9 => h9) d_U_takeLast_12 ?_
  rw [hn]
  refine lv_if_le (tgt := 28) hx hb d_U_takeLast_15 (by decide) (fun c1 => ?_) (fun c1 => ?_)
  · exact absurd c1 (nI_nle h0 (by omega))
  · refine q_al_n (i := 0) hx hb d_U_takeLast_18 rfl hl rfl ?_
    refine lv_dup hx hb d_U_takeLast_19 rfl ?_
    refine s_geti (C := R_U) (T := F_U) (N := 2) (ci := 5) hx hb hg in_U hown hK hM (by assumption) rfl 1 (by decide) rfl (hg _ kw_44) (fun _ h9 => h9) d_U_takeLast_20 ?_
    rw [hn]
    refine lv_iconst (v := 1) hx hb d_U_takeLast_23 (by decide) ?_
    refine lv_isub hx hb d_U_takeLast_24 ?_
    rw [e0]
    refine s_puti (C := R_U) (T := F_U) (N := 2) (ci := 5) hx hb hg in_U ft_U ft_U_ok fn_U hown hK hM (by assumption) rfl 1 (by decide) rfl (hg _ kw_44) (fun _ h9 => h9) rfl rfl rfl d_U_takeLast_25 (fun H locs hM => ?_)
    refine q_iload_n (i := 1) hx hb d_U_takeLast_28 rfl hl rfl ?_
    exact s_iret hx hb hr hM ⟨rfl, rfl⟩ d_U_takeLast_29 hlocks
