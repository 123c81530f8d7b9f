theorem Mo_0 {S : sS} {m0 mm : Nat} {E : Nat → Nat → Prop} {T Rg : Nat → Prop} {wl : List Nat} {rc : Nat} (h : Mo S m0 mm E T Rg wl rc) (v : Int32) : Mo (S.1, S.2.1, up2 S.2.2.1 m0 0 v, S.2.2.2) m0 mm E T Rg wl rc := by
  obtain ⟨ar, cn, nA, fb, hw, hi, hX⟩ := h
  exact ⟨ar, cn, nA, fb, hw, Mi_0 hw hi v, hX⟩
theorem Mo_mono {S : sS} {m0 mm mm' : Nat} {E : Nat → Nat → Prop} {T Rg : Nat → Prop} {wl : List Nat} {rc : Nat} (h : Mo S m0 mm E T Rg wl rc) (hm : mm ≤ mm') : Mo S m0 mm' E T Rg wl rc := by
  obtain ⟨ar, cn, nA, fb, hw, hi, hX⟩ := h
  exact ⟨ar, cn, nA, fb, hw, hi, MoX_mono hX hm (by omega)⟩
theorem crd_add {P P' : Nat → Prop} {n x : Nat} (h : crd P n) (hP : ∀ v, P' v ↔ P v ∨ v = x) (hx : ¬ P x) : crd P' (n + 1) := by
  obtain ⟨L, h1, h2, h3⟩ := h
  refine ⟨x :: L, List.nodup_cons.mpr ⟨fun z => hx ((h2 x).mp z), h1⟩, fun v => ?_, by rw [List.length_cons, h3]⟩
  rw [List.mem_cons, h2, hP]
  exact ⟨fun z => z.elim Or.inr Or.inl, fun z => z.elim Or.inr Or.inl⟩
theorem crd_0 {P : Nat → Prop} (h : ∀ v, ¬ P v) : crd P 0 := ⟨[], List.nodup_nil, fun v => ⟨fun z => absurd z List.not_mem_nil, fun z => absurd z (h v)⟩, rfl⟩
theorem crd_ext {P P' : Nat → Prop} {n : Nat} (h : crd P n) (hP : ∀ v, P' v ↔ P v) : crd P' n := by
  obtain ⟨L, h1, h2, h3⟩ := h
  exact ⟨L, h1, fun v => (h2 v).trans (hP v).symm, h3⟩
set_option maxHeartbeats 4000000 in
set_option maxRecDepth 100000 in
theorem m_M_worked (l : Launch) (D : va_G) (dA : Nat → ClassId) (S : sS) (sz : Nat) (m0 mm : Nat) (E : Nat → Nat → Prop) (T Rg : Nat → Prop) (wl : List Nat) (rc : Nat) (k : Int32) (hO : Mo S m0 mm E T Rg wl rc) (hmm : mm ≤ 511) :
    cI l y_M_worked c_M_worked 2 (some .int) (rmk 0 0 0) D dA S sz [.ref m0, .int k] (fun x u => u = (S.1, S.2.1, up2 S.2.2.1 m0 0 0, S.2.2.2) ∧ ((vp_in k wl.length ∧ ∃ z, wl[k.toNatClampNeg]? = some z ∧ x = nI z) ∨ (¬ vp_in k wl.length ∧ x = -1))) (0) (0) := by
  obtain ⟨ar, cn, nA, fb, hw, hi, hX1⟩ := hO
  have hl9 := hX1.hl
  have hn9 := hX1.hn
  obtain ⟨kd, rf, it, lg⟩ := S
  obtain ⟨km, ⟨r0, r1, r2, r3, r4, r5, r6, r7⟩, ⟨k0, k1, k2, k3, k4, k5, k6, k7⟩, hdis⟩ := id hw
  dsimp only at km r0 r1 r2 r3 r4 r5 r6 r7 k0 k1 k2 k3 k4 k5 k6 k7 hi hw
  have hm10 := hX1.hm
  have hm9 := hX1.hm9
  have hwl := hX1.hw
  refine s_met (cc := c_M_worked) (maxL := 2) (by decide) rfl (by simp [Value.category]) (by simp [lg_sl, Value.category]) ?_
  intro p e s m args below meth c ls hx hb hr hts hown hlocks hin hml hK hX hsz hM hl
  have hg := gd_hts hts
  have hl : lc ls 2 [some (va_rf (some m0)), some (.int k)] := hl
  refine q_al_n (i := 0) hx hb d_M_worked_0 rfl hl rfl ?_
  refine lv_iconst (v := 0) hx hb d_M_worked_1 (by decide) ?_
  refine s_puti (C := R_M) (T := F_M) (N := 13) (ci := 7) hx hb hg in_M ft_M ft_M_ok fn_M hown hK hM km rfl 0 (by decide) rfl (hg _ kw_455) (fun _ h9 => h9) rfl rfl rfl d_M_worked_2 (fun H locs hM => ?_)
  have hi1 := Mi_0 hw hi 0
  refine q_iload_n (i := 1) hx hb d_M_worked_5 rfl hl rfl ?_
  refine lv_if_lt (tgt := 26) hx hb d_M_worked_6 (by decide) (fun c1 => ?_) (fun c1 => ?_)
  · refine lv_iconst (v := -1) hx hb d_M_worked_26 (by decide) ?_
    exact s_iret hx hb hr hM ⟨rfl, Or.inr ⟨fun q => q (Or.inl c1), rfl⟩⟩ d_M_worked_27 hlocks
  · refine q_iload_n (i := 1) hx hb d_M_worked_9 rfl hl rfl ?_
    refine q_al_n (i := 0) hx hb d_M_worked_10 rfl hl rfl ?_
    refine s_geti (C := R_M) (T := F_M) (N := 13) (ci := 7) hx hb hg in_M hown hK hM km rfl 10 (by decide) rfl (hg _ kw_465) (fun _ h9 => h9) d_M_worked_11 ?_
    rw [hi1.M]
    rw [hm10]
    refine lv_icmp_ge (tgt := 26) hx hb d_M_worked_14 (by decide) (fun c2 => ?_) (fun c2 => ?_)
    · refine lv_iconst (v := -1) hx hb d_M_worked_26 (by decide) ?_
      exact s_iret hx hb hr hM ⟨rfl, Or.inr ⟨vi_ge c2 (by omega), rfl⟩⟩ d_M_worked_27 hlocks
    · have hv := vi_of c1 c2 (by omega)
      obtain ⟨j, hj, ej⟩ := vp_in_of hv (by omega)
      have ek : k.toNatClampNeg = j := by rw [ej]; exact nI_clamp (by omega)
      have hj10 := hwl j (by omega)
      rw [ej] at hl
      refine q_al_n (i := 0) hx hb d_M_worked_17 rfl hl rfl ?_
      refine s_getr (C := R_M) (T := F_M) (N := 13) (ci := 7) hx hb hg in_M hown hK hM km rfl 11 (by decide) rfl (hg _ kw_466) (fun _ h9 => h9) d_M_worked_18 ?_
      rw [r7]
      refine q_iload_n (i := 1) hx hb d_M_worked_21 rfl hl rfl ?_
      refine s_ild (t := 0) hx hb hK hM k7 rfl rfl (vp_in_nI (show j < 8192 by omega) (by omega)) d_M_worked_22 ?_
      rw [nI_clamp (by omega), hi1.wk (show j < 8192 by omega)]
      refine lv_goto (tgt := 27) hx hb d_M_worked_23 (by decide) ?_
      exact s_iret hx hb hr hM ⟨rfl, Or.inl ⟨hv, _, by rw [ek]; exact hj10, rfl⟩⟩ d_M_worked_27 hlocks
set_option maxHeartbeats 4000000 in
set_option maxRecDepth 100000 in
theorem m_M_found (l : Launch) (D : va_G) (dA : Nat → ClassId) (S : sS) (sz : Nat) (m0 mm : Nat) (E : Nat → Nat → Prop) (T Rg : Nat → Prop) (wl : List Nat) (rc : Nat) (hO : Mo S m0 mm E T Rg wl rc) (hmm : mm ≤ 511) :
    cI l y_M_found c_M_found 1 (some .int) (rmk 0 0 0) D dA S sz [.ref m0] (fun x u => u = (S.1, S.2.1, up2 S.2.2.1 m0 0 0, S.2.2.2) ∧ (x = nI rc)) (0) (0) := by
  obtain ⟨ar, cn, nA, fb, hw, hi, hX1⟩ := hO
  have hl9 := hX1.hl
  have hn9 := hX1.hn
  obtain ⟨kd, rf, it, lg⟩ := S
  obtain ⟨km, ⟨r0, r1, r2, r3, r4, r5, r6, r7⟩, ⟨k0, k1, k2, k3, k4, k5, k6, k7⟩, hdis⟩ := id hw
  dsimp only at km r0 r1 r2 r3 r4 r5 r6 r7 k0 k1 k2 k3 k4 k5 k6 k7 hi hw
  refine s_met (cc := c_M_found) (maxL := 1) (by decide) rfl (by simp [Value.category]) (by simp [lg_sl, Value.category]) ?_
  intro p e s m args below meth c ls hx hb hr hts hown hlocks hin hml hK hX hsz hM hl
  have hg := gd_hts hts
  have hl : lc ls 1 [some (va_rf (some m0))] := hl
  refine q_al_n (i := 0) hx hb d_M_found_0 rfl hl rfl ?_
  refine lv_iconst (v := 0) hx hb d_M_found_1 (by decide) ?_
  refine s_puti (C := R_M) (T := F_M) (N := 13) (ci := 7) hx hb hg in_M ft_M ft_M_ok fn_M hown hK hM km rfl 0 (by decide) rfl (hg _ kw_455) (fun _ h9 => h9) rfl rfl rfl d_M_found_2 (fun H locs hM => ?_)
  have hi1 := Mi_0 hw hi 0
  refine q_al_n (i := 0) hx hb d_M_found_5 rfl hl rfl ?_
  refine s_geti (C := R_M) (T := F_M) (N := 13) (ci := 7) hx hb hg in_M hown hK hM km rfl 12 (by decide) rfl (hg _ kw_467) (fun _ h9 => h9) d_M_found_6 ?_
  rw [hi1.F]
  rw [hX1.hf]
  exact s_iret hx hb hr hM ⟨rfl, rfl⟩ d_M_found_9 hlocks
set_option maxHeartbeats 4000000 in
set_option maxRecDepth 100000 in
theorem m_M_ringed (l : Launch) (D : va_G) (dA : Nat → ClassId) (S : sS) (sz : Nat) (m0 mm : Nat) (E : Nat → Nat → Prop) (T Rg : Nat → Prop) (wl : List Nat) (rc : Nat) (k : Int32) (hO : Mo S m0 mm E T Rg wl rc) (hmm : mm ≤ 511) :
    cI l y_M_ringed c_M_ringed 3 (some .boolean) (rmk 1 0 0) D dA S sz [.ref m0, .int k] (fun x u => u = (S.1, S.2.1, up2 S.2.2.1 m0 0 0, S.2.2.2) ∧ ((x = 1 ∧ vp_in k 16384 ∧ Rg k.toNatClampNeg) ∨ (x = 0 ∧ ¬ (vp_in k 16384 ∧ Rg k.toNatClampNeg)))) (0) (0) := by
  obtain ⟨ar, cn, nA, fb, hw, hi, hX1⟩ := hO
  have hl9 := hX1.hl
  have hn9 := hX1.hn
  obtain ⟨kd, rf, it, lg⟩ := S
  obtain ⟨km, ⟨r0, r1, r2, r3, r4, r5, r6, r7⟩, ⟨k0, k1, k2, k3, k4, k5, k6, k7⟩, hdis⟩ := id hw
  dsimp only at km r0 r1 r2 r3 r4 r5 r6 r7 k0 k1 k2 k3 k4 k5 k6 k7 hi hw
  refine s_met (cc := c_M_ringed) (maxL := 3) (by decide) rfl (by simp [Value.category]) (by simp [lg_sl, Value.category]) ?_
  intro p e s m args below meth c ls hx hb hr hts hown hlocks hin hml hK hX hsz hM hl
  have hg := gd_hts hts
  have hl : lc ls 3 [some (va_rf (some m0)), some (.int k), none] := hl
  refine q_al_n (i := 0) hx hb d_M_ringed_0 rfl hl rfl ?_
  refine lv_iconst (v := 0) hx hb d_M_ringed_1 (by decide) ?_
  refine s_puti (C := R_M) (T := F_M) (N := 13) (ci := 7) hx hb hg in_M ft_M ft_M_ok fn_M hown hK hM km rfl 0 (by decide) rfl (hg _ kw_455) (fun _ h9 => h9) rfl rfl rfl d_M_ringed_2 (fun H locs hM => ?_)
  have hi1 := Mi_0 hw hi 0
  refine q_iload_n (i := 1) hx hb d_M_ringed_5 rfl hl rfl ?_
  refine s_calli (r_S 1 [.int k] rfl hx hb hml hown hg (m_M_isNode l D dA _ _ k) (hM.pre hK hX) kw_504 kw_505 kw_5 kw_506 (by decide +kernel) ⟨Nat.le_of_ble_eq_true rfl, Nat.le_of_ble_eq_true rfl⟩ rfl rfl hl.sz (by first | exact Nat.le_of_ble_eq_true rfl | simp [rf_cat] | simp [rf_cat, Value.category]) d_M_ringed_6 ⟨Nat.le_refl _, Nat.le_refl _⟩ rfl) hM (fun r1 u H locs hp hM => ?_)
  obtain ⟨rfl, hp⟩ := hp
  refine lv_if_eq (tgt := 20) hx hb d_M_ringed_9 (by decide) (fun c1 => ?_) (fun c1 => ?_)
  · have hv : ¬ vp_in k 16384 := by
      rcases hp with ⟨e9, -⟩ | ⟨-, z⟩
      · rw [e9] at c1; cases c1
      · exact z
    refine lv_iconst (v := -1) hx hb d_M_ringed_20 (by decide) ?_
    refine q_istore_n (i := 2) hx hb d_M_ringed_21 rfl hl (by decide) (fun ls hl => ?_)
    simp only [List.set_cons_succ, List.set_cons_zero] at hl
    refine q_iload_n (i := 2) hx hb d_M_ringed_22 rfl hl rfl ?_
    refine lv_if_lt (tgt := 39) hx hb d_M_ringed_23 (by decide) (fun c2 => ?_) (fun c2 => ?_)
    · refine lv_iconst (v := 0) hx hb d_M_ringed_39 (by decide) ?_
      exact s_zret hx hb hr rfl hM ⟨rfl, Or.inr ⟨rfl, fun z => hv z.1⟩⟩ d_M_ringed_40 hlocks
    · exact absurd (by decide) c2
  · have hv : vp_in k 16384 := by
      rcases hp with ⟨-, z⟩ | ⟨e9, -⟩
      · exact z
      · exact absurd e9 c1
    obtain ⟨v, hv9, ev⟩ := vp_in_of hv (by omega)
    have ek : k.toNatClampNeg = v := by rw [ev]; exact nI_clamp (by omega)
    rw [ev] at hl
    refine q_al_n (i := 0) hx hb d_M_ringed_12 rfl hl rfl ?_
    refine q_iload_n (i := 1) hx hb d_M_ringed_13 rfl hl rfl ?_
    refine s_calli (r_V 1 [.int (nI v)] rfl hx hb hml hown hg (m_M_find l D dA _ _ m0 ar cn nA fb v hw hi1 (by omega) hX1.nu9 hv9) (hM.pre hK hX) (hM.recv hK km (q := cls.getD 7 (R_H, F_H, 7)) rfl) kw_511 kw_513 ks_18 kw_5 kw_514 (by decide +kernel) ⟨Nat.le_of_ble_eq_true rfl, Nat.le_of_ble_eq_true rfl⟩ rfl rfl hl.sz (by first | exact Nat.le_of_ble_eq_true rfl | simp [rf_cat] | simp [rf_cat, Value.category]) d_M_ringed_14 ⟨Nat.le_refl _, Nat.le_refl _⟩ rfl) hM (fun r1 u H locs hq hM => ?_)
    obtain ⟨rfl, hq⟩ := hq
    refine lv_goto (tgt := 21) hx hb d_M_ringed_17 (by decide) ?_
    refine q_istore_n (i := 2) hx hb d_M_ringed_21 rfl hl (by decide) (fun ls hl => ?_)
    simp only [List.set_cons_succ, List.set_cons_zero] at hl
    refine q_iload_n (i := 2) hx hb d_M_ringed_22 rfl hl rfl ?_
    refine lv_if_lt (tgt := 39) hx hb d_M_ringed_23 (by decide) (fun c2 => ?_) (fun c2 => ?_)
    · refine lv_iconst (v := 0) hx hb d_M_ringed_39 (by decide) ?_
      refine s_zret hx hb hr rfl hM ⟨rfl, Or.inr ⟨rfl, fun z => ?_⟩⟩ d_M_ringed_40 hlocks
      rcases hq with ⟨y, hy, -, e9⟩ | ⟨z2, -⟩
      · rw [e9] at c2; exact nI_pos (by omega) c2
      · obtain ⟨y, hy, e9, -⟩ := (hX1.hR _).mp z.2
        rw [ek] at e9; exact z2 y hy e9
    · rcases hq with ⟨y, hy, ey, e9⟩ | ⟨-, e9⟩
      · subst e9
        have hy8 : y < 8192 := by omega
        refine q_al_n (i := 0) hx hb d_M_ringed_26 rfl hl rfl ?_
        refine s_getr (C := R_M) (T := F_M) (N := 13) (ci := 7) hx hb hg in_M hown hK hM km rfl 7 (by decide) rfl (hg _ kw_462) (fun _ h9 => h9) d_M_ringed_27 ?_
        rw [r4]
        refine q_iload_n (i := 2) hx hb d_M_ringed_30 rfl hl rfl ?_
        refine s_zld (t := 4) hx hb hK hM k4 rfl rfl (vp_in_nI hy8 (by omega)) d_M_ringed_31 ?_
        rw [nI_clamp (by omega), hi1.fl (k := 4) (by decide) (by decide) hy8]
        refine lv_if_eq (tgt := 39) hx hb d_M_ringed_32 (by decide) (fun c3 => ?_) (fun c3 => ?_)
        · refine lv_iconst (v := 0) hx hb d_M_ringed_39 (by decide) ?_
          refine s_zret hx hb hr rfl hM ⟨rfl, Or.inr ⟨rfl, fun z => ?_⟩⟩ d_M_ringed_40 hlocks
          obtain ⟨y2, hy2, e2, f2⟩ := (hX1.hR _).mp z.2
          rw [ek, ← ey] at e2
          have := hX1.nui y2 y hy2 hy e2
          rw [this] at f2
          rw [(bI_eq _).mp c3] at f2; cases f2
        · refine lv_iconst (v := 1) hx hb d_M_ringed_35 (by decide) ?_
          refine lv_goto (tgt := 40) hx hb d_M_ringed_36 (by decide) ?_
          refine s_zret hx hb hr rfl hM ⟨rfl, Or.inl ⟨rfl, hv, (hX1.hR _).mpr ⟨y, hy, by rw [ek]; exact ey, (bI_ne _).mp c3⟩⟩⟩ d_M_ringed_40 hlocks
      · rw [e9] at c2; exact absurd (by decide) c2
set_option maxHeartbeats 4000000 in
set_option maxRecDepth 100000 in
theorem m_M_touched (l : Launch) (D : va_G) (dA : Nat → ClassId) (S : sS) (sz : Nat) (m0 mm : Nat) (E : Nat → Nat → Prop) (T Rg : Nat → Prop) (wl : List Nat) (rc : Nat) (k : Int32) (hO : Mo S m0 mm E T Rg wl rc) (hmm : mm ≤ 511) :
    cI l y_M_touched c_M_touched 3 (some .boolean) (rmk 1 0 0) D dA S sz [.ref m0, .int k] (fun x u => u = (S.1, S.2.1, up2 S.2.2.1 m0 0 0, S.2.2.2) ∧ ((x = 1 ∧ vp_in k 16384 ∧ T k.toNatClampNeg) ∨ (x = 0 ∧ ¬ (vp_in k 16384 ∧ T k.toNatClampNeg)))) (0) (0) := by
  obtain ⟨ar, cn, nA, fb, hw, hi, hX1⟩ := hO
  have hl9 := hX1.hl
  have hn9 := hX1.hn
  obtain ⟨kd, rf, it, lg⟩ := S
  obtain ⟨km, ⟨r0, r1, r2, r3, r4, r5, r6, r7⟩, ⟨k0, k1, k2, k3, k4, k5, k6, k7⟩, hdis⟩ := id hw
  dsimp only at km r0 r1 r2 r3 r4 r5 r6 r7 k0 k1 k2 k3 k4 k5 k6 k7 hi hw
  refine s_met (cc := c_M_touched) (maxL := 3) (by decide) rfl (by simp [Value.category]) (by simp [lg_sl, Value.category]) ?_
  intro p e s m args below meth c ls hx hb hr hts hown hlocks hin hml hK hX hsz hM hl
  have hg := gd_hts hts
  have hl : lc ls 3 [some (va_rf (some m0)), some (.int k), none] := hl
  refine q_al_n (i := 0) hx hb d_M_touched_0 rfl hl rfl ?_
  refine lv_iconst (v := 0) hx hb d_M_touched_1 (by decide) ?_
  refine s_puti (C := R_M) (T := F_M) (N := 13) (ci := 7) hx hb hg in_M ft_M ft_M_ok fn_M hown hK hM km rfl 0 (by decide) rfl (hg _ kw_455) (fun _ h9 => h9) rfl rfl rfl d_M_touched_2 (fun H locs hM => ?_)
  have hi1 := Mi_0 hw hi 0
  refine q_iload_n (i := 1) hx hb d_M_touched_5 rfl hl rfl ?_
  refine s_calli (r_S 1 [.int k] rfl hx hb hml hown hg (m_M_isNode l D dA _ _ k) (hM.pre hK hX) kw_504 kw_505 kw_5 kw_506 (by decide +kernel) ⟨Nat.le_of_ble_eq_true rfl, Nat.le_of_ble_eq_true rfl⟩ rfl rfl hl.sz (by first | exact Nat.le_of_ble_eq_true rfl | simp [rf_cat] | simp [rf_cat, Value.category]) d_M_touched_6 ⟨Nat.le_refl _, Nat.le_refl _⟩ rfl) hM (fun r1 u H locs hp hM => ?_)
  obtain ⟨rfl, hp⟩ := hp
  refine lv_if_eq (tgt := 20) hx hb d_M_touched_9 (by decide) (fun c1 => ?_) (fun c1 => ?_)
  · have hv : ¬ vp_in k 16384 := by
      rcases hp with ⟨e9, -⟩ | ⟨-, z⟩
      · rw [e9] at c1; cases c1
      · exact z
    refine lv_iconst (v := -1) hx hb d_M_touched_20 (by decide) ?_
    refine q_istore_n (i := 2) hx hb d_M_touched_21 rfl hl (by decide) (fun ls hl => ?_)
    simp only [List.set_cons_succ, List.set_cons_zero] at hl
    refine q_iload_n (i := 2) hx hb d_M_touched_22 rfl hl rfl ?_
    refine lv_if_lt (tgt := 39) hx hb d_M_touched_23 (by decide) (fun c2 => ?_) (fun c2 => ?_)
    · refine lv_iconst (v := 0) hx hb d_M_touched_39 (by decide) ?_
      exact s_zret hx hb hr rfl hM ⟨rfl, Or.inr ⟨rfl, fun z => hv z.1⟩⟩ d_M_touched_40 hlocks
    · exact absurd (by decide) c2
  · have hv : vp_in k 16384 := by
      rcases hp with ⟨-, z⟩ | ⟨e9, -⟩
      · exact z
      · exact absurd e9 c1
    obtain ⟨v, hv9, ev⟩ := vp_in_of hv (by omega)
    have ek : k.toNatClampNeg = v := by rw [ev]; exact nI_clamp (by omega)
    rw [ev] at hl
    refine q_al_n (i := 0) hx hb d_M_touched_12 rfl hl rfl ?_
    refine q_iload_n (i := 1) hx hb d_M_touched_13 rfl hl rfl ?_
    refine s_calli (r_V 1 [.int (nI v)] rfl hx hb hml hown hg (m_M_find l D dA _ _ m0 ar cn nA fb v hw hi1 (by omega) hX1.nu9 hv9) (hM.pre hK hX) (hM.recv hK km (q := cls.getD 7 (R_H, F_H, 7)) rfl) kw_511 kw_513 ks_18 kw_5 kw_514 (by decide +kernel) ⟨Nat.le_of_ble_eq_true rfl, Nat.le_of_ble_eq_true rfl⟩ rfl rfl hl.sz (by first | exact Nat.le_of_ble_eq_true rfl | simp [rf_cat] | simp [rf_cat, Value.category]) d_M_touched_14 ⟨Nat.le_refl _, Nat.le_refl _⟩ rfl) hM (fun r1 u H locs hq hM => ?_)
    obtain ⟨rfl, hq⟩ := hq
    refine lv_goto (tgt := 21) hx hb d_M_touched_17 (by decide) ?_
    refine q_istore_n (i := 2) hx hb d_M_touched_21 rfl hl (by decide) (fun ls hl => ?_)
    simp only [List.set_cons_succ, List.set_cons_zero] at hl
    refine q_iload_n (i := 2) hx hb d_M_touched_22 rfl hl rfl ?_
    refine lv_if_lt (tgt := 39) hx hb d_M_touched_23 (by decide) (fun c2 => ?_) (fun c2 => ?_)
    · refine lv_iconst (v := 0) hx hb d_M_touched_39 (by decide) ?_
      refine s_zret hx hb hr rfl hM ⟨rfl, Or.inr ⟨rfl, fun z => ?_⟩⟩ d_M_touched_40 hlocks
      rcases hq with ⟨y, hy, -, e9⟩ | ⟨z2, -⟩
      · rw [e9] at c2; exact nI_pos (by omega) c2
      · obtain ⟨y, hy, e9, -⟩ := (hX1.hT _).mp z.2
        rw [ek] at e9; exact z2 y hy e9
    · rcases hq with ⟨y, hy, ey, e9⟩ | ⟨-, e9⟩
      · subst e9
        have hy8 : y < 8192 := by omega
        refine q_al_n (i := 0) hx hb d_M_touched_26 rfl hl rfl ?_
        refine s_getr (C := R_M) (T := F_M) (N := 13) (ci := 7) hx hb hg in_M hown hK hM km rfl 6 (by decide) rfl (hg _ kw_461) (fun _ h9 => h9) d_M_touched_27 ?_
        rw [r3]
        refine q_iload_n (i := 2) hx hb d_M_touched_30 rfl hl rfl ?_
        refine s_zld (t := 4) hx hb hK hM k3 rfl rfl (vp_in_nI hy8 (by omega)) d_M_touched_31 ?_
        rw [nI_clamp (by omega), hi1.fl (k := 3) (by decide) (by decide) hy8]
        refine lv_if_eq (tgt := 39) hx hb d_M_touched_32 (by decide) (fun c3 => ?_) (fun c3 => ?_)
        · refine lv_iconst (v := 0) hx hb d_M_touched_39 (by decide) ?_
          refine s_zret hx hb hr rfl hM ⟨rfl, Or.inr ⟨rfl, fun z => ?_⟩⟩ d_M_touched_40 hlocks
          obtain ⟨y2, hy2, e2, f2⟩ := (hX1.hT _).mp z.2
          rw [ek, ← ey] at e2
          have := hX1.nui y2 y hy2 hy e2
          rw [this] at f2
          rw [(bI_eq _).mp c3] at f2; cases f2
        · refine lv_iconst (v := 1) hx hb d_M_touched_35 (by decide) ?_
          refine lv_goto (tgt := 40) hx hb d_M_touched_36 (by decide) ?_
          refine s_zret hx hb hr rfl hM ⟨rfl, Or.inl ⟨rfl, hv, (hX1.hT _).mpr ⟨y, hy, by rw [ek]; exact ey, (bI_ne _).mp c3⟩⟩⟩ d_M_touched_40 hlocks
      · rw [e9] at c2; exact absurd (by decide) c2
set_option maxHeartbeats 4000000 in
set_option maxRecDepth 100000 in
theorem lk_loop {p : Program} {l : Launch} {e : Env} {s : State} {m : MethodId} {args : Array Value} {below : List Frame} {meth : Method} {c : Code} {D : va_G} {dA : Nat → ClassId} {A : Nat → Prop} {Q : State → Prop} (hx : p.tables.exec = Jvm.exec) (hb : c.code = c_M_links) (hml : c.maxLocals = 6) (hown : s.vm.findClass R_M = some m.cls) (hg : ∀ w ∈ gd, w.before args s = true) (hK : va_K D cls (tys dA) s) (hX : sKx s) {R9 : Room} {kd : Nat → Option sK} {rf : Nat → Nat → Option Nat} {it : Nat → Nat → Int32} {lg : Nat → Nat → Int64} {m0 : Nat} {ar cn : Nat → Nat} {nA : Nat → Nat → Nat} {fb : Nat → Nat → Bool} (hw : Mw kd rf m0 ar) (hi : Mi it m0 ar cn nA fb) {lb nb : Nat} {E : Nat → Nat → Prop} {T Rg : Nat → Prop} {wl : List Nat} {rc : Nat} (hX1 : MoX lb nb E T Rg wl rc cn nA fb) (hL : cn 1 < 4096) (hN : cn 4 < 8192) {a wh xr : Int32} {H : Heap} {locs : List Loc} (hM : SW D dA A s.heap (kd, rf, it, lg) H locs)
    (kk : ∀ (n : Nat) (ls : Array Slot), crd (fun v => ∃ j, j < cn 1 ∧ nI (nA (if wh = 0 then 1 else 0) j) = xr ∧ nA 2 (nA (if wh = 0 then 0 else 1) j) = v) n → lc ls 6 [some (va_rf (some m0)), some (.int a), some (.int wh), some (.int xr), some (.int (nI n)), some (.int (nI (cn 1)))] → W p l e R9 s m args below meth c H locs 0 0 Q (F0 m 85 ls [])) :
    ∀ (d k n : Nat) (ls : Array Slot), k + d = cn 1 → n ≤ k → crd (fun v => ∃ j, j < k ∧ nI (nA (if wh = 0 then 1 else 0) j) = xr ∧ nA 2 (nA (if wh = 0 then 0 else 1) j) = v) n → lc ls 6 [some (va_rf (some m0)), some (.int a), some (.int wh), some (.int xr), some (.int (nI n)), some (.int (nI k))] → W p l e R9 s m args below meth c H locs 0 0 Q (F0 m 35 ls []) := by
  obtain ⟨km, ⟨r0, r1, r2, r3, r4, r5, r6, r7⟩, ⟨k0, k1, k2, k3, k4, k5, k6, k7⟩, hdis⟩ := id hw
  have e1 := hi.L
  intro d
  induction d with
  | zero =>
    intro k n ls hk hnk hc hl
    have hk0 : k = cn 1 := by omega
    rw [hk0] at hc hl
    refine q_iload hx hb d_M_links_35 hl rfl ?_
    refine q_al_n (i := 0) hx hb d_M_links_37 rfl hl rfl ?_
    refine s_geti (C := R_M) (T := F_M) (N := 13) (ci := 7) hx hb hg in_M hown hK hM km rfl 1 (by decide) rfl (hg _ kw_456) (fun _ h9 => h9) d_M_links_38 ?_
    rw [e1]
    refine n_ge (tgt := 85) hx hb d_M_links_41 (by decide) (by omega) (by omega) (fun c1 => ?_) (fun c1 => ?_)
    · exact kk n ls hc hl
    · omega
  | succ d ih =>
    intro k n ls hk hnk hc hl
    have hkN : k < cn 1 := by omega
    have hk4 : k < 4096 := by omega
    have hlk := hX1.lk k hkN
    have nxt : ∀ n', ((nI (nA (if wh = 0 then 1 else 0) k) = xr ∧ n' = n + 1) ∨ (nI (nA (if wh = 0 then 1 else 0) k) ≠ xr ∧ n' = n)) → ∀ ls, lc ls 6 [some (va_rf (some m0)), some (.int a), some (.int wh), some (.int xr), some (.int (nI n')), some (.int (nI k))] → W p l e R9 s m args below meth c H locs 0 0 Q (F0 m 79 ls []) := by
      intro n' hn' ls hl
      refine q_iinc hx hb (nI (k + 1)) d_M_links_79 hl rfl (nI_1 k) (by decide) (fun ls hl => ?_)
      simp only [List.set_cons_succ, List.set_cons_zero] at hl
      refine lv_goto (tgt := 35) hx hb d_M_links_82 (by decide) ?_
      refine ih (k + 1) n' ls (by omega) (by rcases hn' with z | z <;> omega) ?_ hl
      rcases hn' with ⟨z, e9⟩ | ⟨z, e9⟩
      · rw [e9]
        refine crd_add hc (x := nA 2 (nA (if wh = 0 then 0 else 1) k)) (fun v => ?_) ?_
        · constructor
          · rintro ⟨j, hj, q1, q2⟩
            by_cases ejk : j = k
            · right; rw [← q2, ejk]
            · exact Or.inl ⟨j, by omega, q1, q2⟩
          · rintro (⟨j, hj, q1, q2⟩ | q)
            · exact ⟨j, by omega, q1, q2⟩
            · exact ⟨k, by omega, z, q.symm⟩
        · rintro ⟨j, hj, q1, q2⟩
          have hlj := hX1.lk j (by omega)
          by_cases hwz : wh = 0
          · rw [if_pos hwz] at z q1
            rw [if_pos hwz] at q2
            have t1 : nA 1 j = nA 1 k := (nI_eq (by omega) (by omega)).mp (q1.trans z.symm)
            have t2 := hX1.nui _ _ hlj.1 hlk.1 q2
            have := hX1.lki j k (by omega) hkN t2 t1
            omega
          · rw [if_neg hwz] at z q1
            rw [if_neg hwz] at q2
            have t1 : nA 0 j = nA 0 k := (nI_eq (by omega) (by omega)).mp (q1.trans z.symm)
            have t2 := hX1.nui _ _ hlj.2 hlk.2 q2
            have := hX1.lki j k (by omega) hkN t1 t2
            omega
      · rw [e9]
        refine crd_ext hc (fun v => ?_)
        constructor
        · rintro ⟨j, hj, q1, q2⟩
          by_cases ejk : j = k
          · rw [ejk] at q1; exact absurd q1 z
          · exact ⟨j, by omega, q1, q2⟩
        · rintro ⟨j, hj, q1, q2⟩; exact ⟨j, by omega, q1, q2⟩
    have cmp : ∀ (y : Nat), y = nA (if wh = 0 then 1 else 0) k → ∀ ls, lc ls 6 [some (va_rf (some m0)), some (.int a), some (.int wh), some (.int xr), some (.int (nI n)), some (.int (nI k))] → W p l e R9 s m args below meth c H locs 0 0 Q (F0 m 67 ls [.int (nI y), .int (nI n)]) := by
      intro y hy ls hl
      refine q_iload_n (i := 3) hx hb d_M_links_67 rfl hl rfl ?_
      refine lv_icmp_ne (tgt := 75) hx hb d_M_links_68 (by decide) (fun c5 => ?_) (fun c5 => ?_)
      · refine lv_iconst (v := 0) hx hb d_M_links_75 (by decide) ?_
        refine lv_iadd hx hb d_M_links_76 ?_
        have e0 : nI n + 0 = nI n := by rw [Int32.add_zero]
        rw [e0]
        refine q_istore hx hb d_M_links_77 hl (by decide) (fun ls hl => ?_)
        simp only [List.set_cons_succ, List.set_cons_zero] at hl
        exact nxt n (Or.inr ⟨by rw [← hy]; exact c5, rfl⟩) _ hl
      · refine lv_iconst (v := 1) hx hb d_M_links_71 (by decide) ?_
        refine lv_goto (tgt := 76) hx hb d_M_links_72 (by decide) ?_
        refine lv_iadd hx hb d_M_links_76 ?_
        rw [nI_1]
        refine q_istore hx hb d_M_links_77 hl (by decide) (fun ls hl => ?_)
        simp only [List.set_cons_succ, List.set_cons_zero] at hl
        exact nxt (n + 1) (Or.inl ⟨by rw [← hy]; exact c5, rfl⟩) _ hl
    refine q_iload hx hb d_M_links_35 hl rfl ?_
    refine q_al_n (i := 0) hx hb d_M_links_37 rfl hl rfl ?_
    refine s_geti (C := R_M) (T := F_M) (N := 13) (ci := 7) hx hb hg in_M hown hK hM km rfl 1 (by decide) rfl (hg _ kw_456) (fun _ h9 => h9) d_M_links_38 ?_
    rw [e1]
    refine n_ge (tgt := 85) hx hb d_M_links_41 (by decide) (by omega) (by omega) (fun c1 => ?_) (fun c1 => ?_)
    · omega
    · refine q_iload hx hb d_M_links_44 hl rfl ?_
      refine q_iload_n (i := 2) hx hb d_M_links_46 rfl hl rfl ?_
      refine lv_if_ne (tgt := 60) hx hb d_M_links_47 (by decide) (fun c4 => ?_) (fun c4 => ?_)
      · refine q_al_n (i := 0) hx hb d_M_links_60 rfl hl rfl ?_
        refine s_getr (C := R_M) (T := F_M) (N := 13) (ci := 7) hx hb hg in_M hown hK hM km rfl 2 (by decide) rfl (hg _ kw_457) (fun _ h9 => h9) d_M_links_61 ?_
        rw [r0]
        refine q_iload hx hb d_M_links_64 hl rfl ?_
        refine s_ild (t := 0) hx hb hK hM k0 rfl rfl (vp_in_nI hk4 (by omega)) d_M_links_66 ?_
        rw [nI_clamp (by omega), hi.fr hk4]
        exact cmp (nA 0 k) (by rw [if_neg c4]) ls hl
      · refine q_al_n (i := 0) hx hb d_M_links_50 rfl hl rfl ?_
        refine s_getr (C := R_M) (T := F_M) (N := 13) (ci := 7) hx hb hg in_M hown hK hM km rfl 3 (by decide) rfl (hg _ kw_458) (fun _ h9 => h9) d_M_links_51 ?_
        rw [r1]
        refine q_iload hx hb d_M_links_54 hl rfl ?_
        refine s_ild (t := 0) hx hb hK hM k1 rfl rfl (vp_in_nI hk4 (by omega)) d_M_links_56 ?_
        rw [nI_clamp (by omega), hi.to hk4]
        refine lv_goto (tgt := 67) hx hb d_M_links_57 (by decide) ?_
        have c4' : wh = 0 := c4
        exact cmp (nA 1 k) (by rw [if_pos c4']) ls hl
set_option maxHeartbeats 4000000 in
set_option maxRecDepth 100000 in
theorem m_M_links (l : Launch) (D : va_G) (dA : Nat → ClassId) (S : sS) (sz : Nat) (m0 mm : Nat) (E : Nat → Nat → Prop) (T Rg : Nat → Prop) (wl : List Nat) (rc : Nat) (k wh : Int32) (hO : Mo S m0 mm E T Rg wl rc) (hmm : mm ≤ 511) :
    cI l y_M_links c_M_links 6 (some .int) (rmk 1 0 0) D dA S sz [.ref m0, .int k, .int wh] (fun x u => u = (S.1, S.2.1, up2 S.2.2.1 m0 0 0, S.2.2.2) ∧ (LinksP E k wh x)) (0) (0) := by
  obtain ⟨ar, cn, nA, fb, hw, hi, hX1⟩ := hO
  have hl9 := hX1.hl
  have hn9 := hX1.hn
  obtain ⟨kd, rf, it, lg⟩ := S
  obtain ⟨km, ⟨r0, r1, r2, r3, r4, r5, r6, r7⟩, ⟨k0, k1, k2, k3, k4, k5, k6, k7⟩, hdis⟩ := id hw
  dsimp only at km r0 r1 r2 r3 r4 r5 r6 r7 k0 k1 k2 k3 k4 k5 k6 k7 hi hw
  refine s_met (cc := c_M_links) (maxL := 6) (by decide) rfl (by simp [Value.category]) (by simp [lg_sl, Value.category]) ?_
  intro p e s m args below meth c ls hx hb hr hts hown hlocks hin hml hK hX hsz hM hl
  have hg := gd_hts hts
  have hl : lc ls 6 [some (va_rf (some m0)), some (.int k), some (.int wh), none, none, none] := hl
  refine q_al_n (i := 0) hx hb d_M_links_0 rfl hl rfl ?_
  refine lv_iconst (v := 0) hx hb d_M_links_1 (by decide) ?_
  refine s_puti (C := R_M) (T := F_M) (N := 13) (ci := 7) hx hb hg in_M ft_M ft_M_ok fn_M hown hK hM km rfl 0 (by decide) rfl (hg _ kw_455) (fun _ h9 => h9) rfl rfl rfl d_M_links_2 (fun H locs hM => ?_)
  have hi1 := Mi_0 hw hi 0
  refine q_iload_n (i := 1) hx hb d_M_links_5 rfl hl rfl ?_
  refine s_calli (r_S 1 [.int k] rfl hx hb hml hown hg (m_M_isNode l D dA _ _ k) (hM.pre hK hX) kw_504 kw_505 kw_5 kw_506 (by decide +kernel) ⟨Nat.le_of_ble_eq_true rfl, Nat.le_of_ble_eq_true rfl⟩ rfl rfl hl.sz (by first | exact Nat.le_of_ble_eq_true rfl | simp [rf_cat] | simp [rf_cat, Value.category]) d_M_links_6 ⟨Nat.le_refl _, Nat.le_refl _⟩ rfl) hM (fun r1 u H locs hp hM => ?_)
  obtain ⟨rfl, hp⟩ := hp
  refine lv_if_eq (tgt := 21) hx hb d_M_links_9 (by decide) (fun c1 => ?_) (fun c1 => ?_)
  · have hv : ¬ vp_in k 16384 := by
      rcases hp with ⟨e9, -⟩ | ⟨-, z⟩
      · rw [e9] at c1; cases c1
      · exact z
    refine lv_iconst (v := -1) hx hb d_M_links_21 (by decide) ?_
    exact s_iret hx hb hr hM ⟨rfl, Or.inl ⟨fun z => hv z.1, rfl⟩⟩ d_M_links_22 hlocks
  · have hv : vp_in k 16384 := by
      rcases hp with ⟨-, z⟩ | ⟨e9, -⟩
      · exact z
      · exact absurd e9 c1
    obtain ⟨v, hv9, ev⟩ := vp_in_of hv (by omega)
    have ek : k.toNatClampNeg = v := by rw [ev]; exact nI_clamp (by omega)
    refine q_iload_n (i := 2) hx hb d_M_links_12 rfl hl rfl ?_
    refine lv_if_lt (tgt := 21) hx hb d_M_links_13 (by decide) (fun c2 => ?_) (fun c2 => ?_)
    · refine lv_iconst (v := -1) hx hb d_M_links_21 (by decide) ?_
      refine s_iret hx hb hr hM ⟨rfl, Or.inl ⟨fun z => ?_, rfl⟩⟩ d_M_links_22 hlocks
      rcases z.2 with q | q
      · rw [q] at c2; exact absurd c2 (by decide)
      · rw [q] at c2; exact absurd c2 (by decide)
    · refine q_iload_n (i := 2) hx hb d_M_links_16 rfl hl rfl ?_
      refine lv_iconst (v := 1) hx hb d_M_links_17 (by decide) ?_
      refine lv_icmp_le (tgt := 23) hx hb d_M_links_18 (by decide) (fun c3 => ?_) (fun c3 => ?_)
      · have hwh : wh = 0 ∨ wh = 1 := by
          obtain ⟨j, hj, ej⟩ := nI_of c2
          rw [ej] at c3
          have c3' : nI j ≤ nI 1 := c3
          have := (nI_leI hj (by omega)).mp c3'
          have h01 : j = 0 ∨ j = 1 := by omega
          rcases h01 with q | q
          · left; rw [ej, q]; rfl
          · right; rw [ej, q]; rfl
        rw [ev] at hl
        refine q_al_n (i := 0) hx hb d_M_links_23 rfl hl rfl ?_
        refine q_iload_n (i := 1) hx hb d_M_links_24 rfl hl rfl ?_
        refine s_calli (r_V 1 [.int (nI v)] rfl hx hb hml hown hg (m_M_find l D dA _ _ m0 ar cn nA fb v hw hi1 (by omega) hX1.nu9 hv9) (hM.pre hK hX) (hM.recv hK km (q := cls.getD 7 (R_H, F_H, 7)) rfl) kw_511 kw_513 ks_18 kw_5 kw_514 (by decide +kernel) ⟨Nat.le_of_ble_eq_true rfl, Nat.le_of_ble_eq_true rfl⟩ rfl rfl hl.sz (by first | exact Nat.le_of_ble_eq_true rfl | simp [rf_cat] | simp [rf_cat, Value.category]) d_M_links_25 ⟨Nat.le_refl _, Nat.le_refl _⟩ rfl) hM (fun r1 u H locs hq hM => ?_)
        obtain ⟨rfl, hq⟩ := hq
        refine q_istore_n (i := 3) hx hb d_M_links_28 rfl hl (by decide) (fun ls hl => ?_)
        simp only [List.set_cons_succ, List.set_cons_zero] at hl
        refine lv_iconst (v := nI 0) hx hb d_M_links_29 (by decide) ?_
        refine q_istore hx hb d_M_links_30 hl (by decide) (fun ls hl => ?_)
        simp only [List.set_cons_succ, List.set_cons_zero] at hl
        refine lv_iconst (v := nI 0) hx hb d_M_links_32 (by decide) ?_
        refine q_istore hx hb d_M_links_33 hl (by decide) (fun ls hl => ?_)
        simp only [List.set_cons_succ, List.set_cons_zero] at hl
        refine lk_loop hx hb hml hown hg hK hX hw hi1 hX1 (by omega) (by omega) hM ?_ (cn 1) 0 0 ls (by omega) (Nat.le_refl _) (crd_0 fun v ⟨j, hj, _⟩ => absurd hj (Nat.not_lt_zero j)) hl
        intro n ls hc hl
        refine q_iload hx hb d_M_links_85 hl rfl ?_
        refine s_iret hx hb hr hM ⟨rfl, ?_⟩ d_M_links_87 hlocks
        rcases hwh with q | q
        · subst q
          refine Or.inr (Or.inl ⟨hv, rfl, n, crd_ext hc (fun u => ?_), rfl⟩)
          rw [ek, hX1.hE]
          simp only [if_true]
          constructor
          · rintro ⟨j, hj, e9, e8⟩
            refine ⟨j, hj, ?_, e9⟩
            have hlj := hX1.lk j hj
            rcases hq with ⟨y, hy, ey, er⟩ | ⟨z, -⟩
            · rw [er, hX1.nui _ _ hlj.2 hy (e8.trans ey.symm)]
            · exact absurd e8 (z _ hlj.2)
          · rintro ⟨j, hj, e9, e8⟩
            refine ⟨j, hj, e8, ?_⟩
            have hlj := hX1.lk j hj
            rcases hq with ⟨y, hy, ey, er⟩ | ⟨-, er⟩
            · rw [er] at e9
              rw [(nI_eq (by omega) (by omega)).mp e9]; exact ey
            · rw [er] at e9
              have := nI_pos (n := nA 1 j) (by omega)
              rw [e9] at this; exact absurd (by decide) this
        · subst q
          refine Or.inr (Or.inr ⟨hv, rfl, n, crd_ext hc (fun u => ?_), rfl⟩)
          rw [ek, hX1.hE]
          simp only [show ((1 : Int32) = 0) = False from eq_false (by decide), if_false]
          constructor
          · rintro ⟨j, hj, e9, e8⟩
            refine ⟨j, hj, ?_, e8⟩
            have hlj := hX1.lk j hj
            rcases hq with ⟨y, hy, ey, er⟩ | ⟨z, -⟩
            · rw [er, hX1.nui _ _ hlj.1 hy (e9.trans ey.symm)]
            · exact absurd e9 (z _ hlj.1)
          · rintro ⟨j, hj, e9, e8⟩
            refine ⟨j, hj, ?_, e8⟩
            have hlj := hX1.lk j hj
            rcases hq with ⟨y, hy, ey, er⟩ | ⟨-, er⟩
            · rw [er] at e9
              rw [(nI_eq (by omega) (by omega)).mp e9]; exact ey
            · rw [er] at e9
              have := nI_pos (n := nA 0 j) (by omega)
              rw [e9] at this; exact absurd (by decide) this
      · refine lv_iconst (v := -1) hx hb d_M_links_21 (by decide) ?_
        refine s_iret hx hb hr hM ⟨rfl, Or.inl ⟨fun z => c3 ?_, rfl⟩⟩ d_M_links_22 hlocks
        rcases z.2 with q | q
        · rw [q]; decide
        · rw [q]; decide
