/-- what put does -/
def PutP (S : sS) (q b r cap n : Nat) (v : Nat → Nat) (x : Nat) (u : sS) : Prop :=
  ∃ r' cap' v', Lf u q b r' cap' (n + 1) v' ∧ hp_ok v' (n + 1) ∧ ((∀ y, hp_set v' (n + 1) y ↔ hp_set v n y ∨ y = x) ∧ hp_inj v' (n + 1) ∧ ∀ i, i < n + 1 → v' i < 16384) ∧ sFr S u (fun z => z = b ∨ z = r) ∧ (r' = r ∨ S.1 r' = none) ∧ cap' = (if n < cap then cap else 2 * n) ∧ ∀ z, S.1 z = none → u.1 z ≠ none → z = r'
set_option maxHeartbeats 4000000 in
set_option maxRecDepth 100000 in
theorem m_F_put (l : Launch) (D : va_G) (dA : Nat → ClassId) (S : sS) (sz : Nat) (q b r cap n : Nat) (v : Nat → Nat) (x : Nat) (h : Lf S q b r cap n v) (hok : hp_ok v n) (hinj : hp_inj v n) (hset : ¬ hp_set v n x) (hx9 : x < 16384) (hv9 : ∀ i, i < n → v i < 16384) (hlt : n < 16384) :
    cV l y_F_put c_F_put 4 (rmk 3 (if n < cap then 0 else 1) (if n < cap then 0 else 2 * n)) D dA S sz [.ref q, .int (nI x)] (PutP S q b r cap n v x) ((if n < cap then 0 else 1)) ((if n < cap then 0 else 2 * n)) := by
  obtain ⟨kd, rf, it, lg⟩ := S
  obtain ⟨kq, hq, hNm⟩ := h
  have hNm' := hNm
  obtain ⟨kb, hrow, kr, hn, hle, h16, hcap, hf⟩ := hNm'
  dsimp only at kq hq kb hrow kr hn hf
  have hqb : q ≠ b := fun z => by rw [z, kb] at kq; cases kq
  have hqr : q ≠ r := fun z => by rw [z, kr] at kq; cases kq
  refine s_met (cc := c_F_put) (maxL := 4) (by decide) rfl (by simp [Value.category]) (by simp [lg_sl, Value.category]) ?_
  intro p e s m args below meth c ls hx hb hr hts hown hlocks hin hml hK hX hsz hM hl
  have hg := gd_hts hts
  have hl : lc ls 4 [some (va_rf (some q)), some (.int (nI x)), none, none] := hl
  refine q_al_n (i := 0) hx hb d_F_put_0 rfl hl rfl ?_
  refine s_getr (C := R_F) (T := F_F) (N := 1) (ci := 6) hx hb hg in_F hown hK hM (by assumption) rfl 0 (by decide) rfl (hg _ kw_61) (fun _ h9 => h9) d_F_put_1 ?_
  rw [hq]
  refine q_iload_n (i := 1) hx hb d_F_put_4 rfl hl rfl ?_
  refine s_callv (r_V 1 [.int (nI x)] rfl hx hb hml hown hg (m_U_add l D dA _ _ b r cap n v x hNm hlt) (hM.pre hK hX) (hM.recv hK kb (q := cls.getD 5 (R_H, F_H, 7)) rfl) kw_204 kw_170 kw_171 kw_3 kw_172 (by decide +kernel) ⟨Nat.le_of_ble_eq_true rfl, Nat.le_of_ble_eq_true rfl⟩ rfl rfl hl.sz (by first | exact Nat.le_of_ble_eq_true rfl | simp [rf_cat] | simp [rf_cat, Value.category]) d_F_put_5 ⟨Nat.le_of_eq (Nat.zero_add _), Nat.le_of_eq (Nat.zero_add _)⟩ rfl) hM (fun u H locs hp hM => ?_)
  refine W.widen (k := (if n < cap then 0 else 1)) (n := (if n < cap then 0 else 2 * n)) (by omega) (by omega) ?_
  obtain ⟨r', cap', hNm1, hF, hr', hcap', hnew, hao, hai⟩ := hp
  obtain ⟨kd1, rf1, it1, lg1⟩ := u
  have hNm1' := hNm1
  obtain ⟨kb1, hrow1, kr1, hn1, hle1, h161, hcap1, hf1⟩ := hNm1'
  dsimp only at kb1 hrow1 kr1 hn1 hf1
  have kq1 : kd1 q = some (.inl 6) := hF.kd kq
  have hq1 : rf1 q 0 = some b := by
    have e := ((hF q (by show kd q ≠ none; rw [kq]; exact fun z => by cases z)).2 (fun z => z.elim hqb hqr)).1
    have e2 : rf1 q = rf q := e
    rw [e2]; exact hq
  refine q_al_n (i := 0) hx hb d_F_put_8 rfl hl rfl ?_
  refine s_getr (C := R_F) (T := F_F) (N := 1) (ci := 6) hx hb hg in_F hown hK hM (by assumption) rfl 0 (by decide) rfl (hg _ kw_61) (fun _ h9 => h9) d_F_put_9 ?_
  rw [hq1]
  refine s_geti (C := R_U) (T := F_U) (N := 2) (ci := 5) hx hb hg in_U hown hK hM (by assumption) rfl 1 (by decide) rfl (hg _ kw_45) (fun _ h9 => h9) d_F_put_12 ?_
  rw [hn1]
  refine lv_iconst (v := 1) hx hb d_F_put_15 (by decide) ?_
  refine lv_isub hx hb d_F_put_16 ?_
  rw [nI_pred]
  refine q_istore_n (i := 2) hx hb d_F_put_17 rfl hl (by decide) (fun ls hl => ?_)
  simp only [List.set_cons_succ, List.set_cons_zero] at hl
  have hP0 : (∀ y, hp_set (fun i => if i = n then x else v i) (n + 1) y ↔ hp_set v n y ∨ y = x) ∧ hp_inj (fun i => if i = n then x else v i) (n + 1) ∧ ∀ i, i < n + 1 → (fun i => if i = n then x else v i) i < 16384 := by
    refine ⟨fun y => ⟨?_, ?_⟩, fun i j hi hj hij => ?_, fun i hi => ?_⟩
    · rintro ⟨i, hi, e⟩
      dsimp only at e
      by_cases z : i = n
      · rw [if_pos z] at e; exact Or.inr e.symm
      · rw [if_neg z] at e; exact Or.inl ⟨i, by omega, e⟩
    · rintro (⟨i, hi, e⟩ | e)
      · exact ⟨i, by omega, by dsimp only; rw [if_neg (by omega)]; exact e⟩
      · exact ⟨n, by omega, by dsimp only; rw [if_pos rfl]; exact e.symm⟩
    · dsimp only at hij
      by_cases z1 : i = n
      · by_cases z2 : j = n
        · omega
        · rw [if_pos z1, if_neg z2] at hij; exact absurd ⟨j, by omega, hij.symm⟩ hset
      · by_cases z2 : j = n
        · rw [if_neg z1, if_pos z2] at hij; exact absurd ⟨i, by omega, hij⟩ hset
        · rw [if_neg z1, if_neg z2] at hij; exact hinj i j (by omega) (by omega) hij
    · dsimp only
      by_cases z : i = n
      · rw [if_pos z]; exact hx9
      · rw [if_neg z]; exact hv9 i (by omega)
  refine put_loop hx hb hml hown hg hK hX ⟨Nat.le_refl _, Nat.le_refl _⟩ kq1 hq1 hx9 it1 (fun w => (∀ y, hp_set w (n + 1) y ↔ hp_set v n y ∨ y = x) ∧ hp_inj w (n + 1) ∧ ∀ i, i < n + 1 → w i < 16384) ?_ ?_ n it1 (fun i => if i = n then x else v i) (fun i => if i = n then x else v i) H locs ls hM hl hNm1 (hp_up_start hok (fun i hi => if_neg (by omega))) (if_pos rfl) (fun i hi hne => rfl) hP0.2.2 hP0 (fun z hz => rfl)
  · rintro w i j hi hj ⟨a1, a2, a3⟩
    refine ⟨fun y => by rw [hp_sw_set hi hj]; exact a1 y, hp_sw_inj hi hj a2, fun k hk => ?_⟩
    by_cases z : k = i
    · rw [z, hp_sw_p]; exact a3 j hj
    · by_cases z2 : k = j
      · rw [z2, hp_sw_q]; exact a3 i hi
      · rw [hp_sw_o w z z2]; exact a3 k hk
  · intro it2 v2 H locs ls hM hNm2 hok2 hP2 hit2
    refine s_vret hx hb hr hM ⟨r', cap', v2, ⟨kq1, hq1, hNm2⟩, hok2, hP2, ?_, hr', hcap', hnew⟩ d_F_put_73 hlocks
    intro z hz
    obtain ⟨f1, f2⟩ := hF z hz
    refine ⟨f1, fun hn9 => ?_⟩
    obtain ⟨f3, f4, f5⟩ := f2 hn9
    refine ⟨f3, ?_, f5⟩
    have hzr : z ≠ r' := by
      rcases hr' with e | e
      · rw [e]; exact fun y => hn9 (Or.inr y)
      · exact fun y => hz (by rw [y]; exact e)
    show it2 z = _
    rw [hit2 z hzr]; exact f4
set_option maxHeartbeats 4000000 in
set_option maxRecDepth 100000 in
theorem m_F_lesserBelow (l : Launch) (D : va_G) (dA : Nat → ClassId) (S : sS) (sz : Nat) (q b r cap N : Nat) (h : Nat → Nat) (pl : Nat) (hL : Lf S q b r cap N h) (h9 : ∀ i, i < N → h i < 2 ^ 31) (hpl : 2 * pl + 1 < N) :
    cI l y_F_lesserBelow c_F_lesserBelow 4 (some .int) (rmk 2 0 0) D dA S sz [.ref q, .int (nI pl)] (fun x u => u = S ∧ ∃ i, x = nI i ∧ (i = 2 * pl + 1 ∨ i = 2 * pl + 2) ∧ i < N ∧ h i ≤ h (2 * pl + 1) ∧ (2 * pl + 2 < N → h i ≤ h (2 * pl + 2))) (0) (0) := by
  obtain ⟨kd, rf, it, lg⟩ := S
  obtain ⟨kq, hq, hNm⟩ := hL
  have hNm' := hNm
  obtain ⟨kb, hrow, kr, hn, hle, h16, hcap, hf⟩ := hNm'
  dsimp only at kq hq kb hrow kr hn hf
  refine s_met (cc := c_F_lesserBelow) (maxL := 4) (by decide) rfl (by simp [Value.category]) (by simp [lg_sl, Value.category]) ?_
  intro p e s m args below meth c ls hx hb hr hts hown hlocks hin hml hK hX hsz hM hl
  have hg := gd_hts hts
  have hl : lc ls 4 [some (va_rf (some q)), some (.int (nI pl)), none, none] := hl
  refine lv_iconst (v := nI 2) hx hb d_F_lesserBelow_0 (by decide) ?_
  refine q_iload_n (i := 1) hx hb d_F_lesserBelow_1 rfl hl rfl ?_
  refine lv_imul hx hb d_F_lesserBelow_2 ?_
  rw [pk_mul]
  refine lv_iconst (v := 1) hx hb d_F_lesserBelow_3 (by decide) ?_
  refine lv_iadd hx hb d_F_lesserBelow_4 ?_
  rw [nI_1]
  refine q_istore_n (i := 2) hx hb d_F_lesserBelow_5 rfl hl (by decide) (fun ls hl => ?_)
  simp only [List.set_cons_succ, List.set_cons_zero] at hl
  refine q_iload_n (i := 2) hx hb d_F_lesserBelow_6 rfl hl rfl ?_
  refine lv_iconst (v := 1) hx hb d_F_lesserBelow_7 (by decide) ?_
  refine lv_iadd hx hb d_F_lesserBelow_8 ?_
  rw [nI_1]
  refine q_istore_n (i := 3) hx hb d_F_lesserBelow_9 rfl hl (by decide) (fun ls hl => ?_)
  simp only [List.set_cons_succ, List.set_cons_zero] at hl
  refine q_iload_n (i := 3) hx hb d_F_lesserBelow_10 rfl hl rfl ?_
  refine q_al_n (i := 0) hx hb d_F_lesserBelow_11 rfl hl rfl ?_
  refine s_getr (C := R_F) (T := F_F) (N := 1) (ci := 6) hx hb hg in_F hown hK hM (by assumption) rfl 0 (by decide) rfl (hg _ kw_61) (fun _ h9 => h9) d_F_lesserBelow_12 ?_
  rw [hq]
  refine s_geti (C := R_U) (T := F_U) (N := 2) (ci := 5) hx hb hg in_U hown hK hM (by assumption) rfl 1 (by decide) rfl (hg _ kw_45) (fun _ h9 => h9) d_F_lesserBelow_15 ?_
  rw [hn]
  refine n_ge (tgt := 44) hx hb d_F_lesserBelow_18 (by decide) (by omega) (by omega) (fun c1 => ?_) (fun c1 => ?_)
  · refine q_iload_n (i := 2) hx hb d_F_lesserBelow_44 rfl hl rfl ?_
    exact s_iret hx hb hr hM ⟨rfl, 2 * pl + 1, rfl, Or.inl rfl, hpl, Nat.le_refl _, fun z => by omega⟩ d_F_lesserBelow_45 hlocks
  · refine q_al_n (i := 0) hx hb d_F_lesserBelow_21 rfl hl rfl ?_
    refine s_getr (C := R_F) (T := F_F) (N := 1) (ci := 6) hx hb hg in_F hown hK hM (by assumption) rfl 0 (by decide) rfl (hg _ kw_61) (fun _ h9 => h9) d_F_lesserBelow_22 ?_
    rw [hq]
    refine q_iload_n (i := 3) hx hb d_F_lesserBelow_25 rfl hl rfl ?_
    refine s_calli (r_V 1 [.int (nI (2 * pl + 1 + 1))] rfl hx hb hml hown hg (m_U_at l D dA _ _ b r cap N h (nI (2 * pl + 1 + 1)) hNm) (hM.pre hK hX) (hM.recv hK kb (q := cls.getD 5 (R_H, F_H, 7)) rfl) kw_205 kw_100 kw_101 kw_3 kw_102 (by decide +kernel) ⟨Nat.le_of_ble_eq_true rfl, Nat.le_of_ble_eq_true rfl⟩ rfl rfl hl.sz (by first | exact Nat.le_of_ble_eq_true rfl | simp [rf_cat] | simp [rf_cat, Value.category]) d_F_lesserBelow_26 ⟨Nat.le_refl _, Nat.le_refl _⟩ rfl) hM (fun r1 u H locs hp hM => ?_)
    obtain ⟨rfl, hp⟩ := hp
    have e1 : r1 = nI (h (2 * pl + 1 + 1)) := by
      rcases hp with ⟨-, e⟩ | ⟨z, -⟩
      · rw [e, nI_clamp (by omega)]
      · exact absurd (vp_in_nI c1 (by omega)) z
    subst e1
    refine q_al_n (i := 0) hx hb d_F_lesserBelow_29 rfl hl rfl ?_
    refine s_getr (C := R_F) (T := F_F) (N := 1) (ci := 6) hx hb hg in_F hown hK hM (by assumption) rfl 0 (by decide) rfl (hg _ kw_61) (fun _ h9 => h9) d_F_lesserBelow_30 ?_
    rw [hq]
    refine q_iload_n (i := 2) hx hb d_F_lesserBelow_33 rfl hl rfl ?_
    refine s_calli (r_V 1 [.int (nI (2 * pl + 1))] rfl hx hb hml hown hg (m_U_at l D dA _ _ b r cap N h (nI (2 * pl + 1)) hNm) (hM.pre hK hX) (hM.recv hK kb (q := cls.getD 5 (R_H, F_H, 7)) rfl) kw_205 kw_100 kw_101 kw_3 kw_102 (by decide +kernel) ⟨Nat.le_of_ble_eq_true rfl, Nat.le_of_ble_eq_true rfl⟩ rfl rfl hl.sz (by first | exact Nat.le_of_ble_eq_true rfl | simp [rf_cat] | simp [rf_cat, Value.category]) d_F_lesserBelow_34 ⟨Nat.le_refl _, Nat.le_refl _⟩ rfl) hM (fun r1 u H locs hp hM => ?_)
    obtain ⟨rfl, hp⟩ := hp
    have e1 : r1 = nI (h (2 * pl + 1)) := by
      rcases hp with ⟨-, e⟩ | ⟨z, -⟩
      · rw [e, nI_clamp (by omega)]
      · exact absurd (vp_in_nI hpl (by omega)) z
    subst e1
    refine n_ge (tgt := 44) hx hb d_F_lesserBelow_37 (by decide) (h9 _ c1) (h9 _ hpl) (fun c2 => ?_) (fun c2 => ?_)
    · refine q_iload_n (i := 2) hx hb d_F_lesserBelow_44 rfl hl rfl ?_
      exact s_iret hx hb hr hM ⟨rfl, 2 * pl + 1, rfl, Or.inl rfl, hpl, Nat.le_refl _, fun z => c2⟩ d_F_lesserBelow_45 hlocks
    · refine q_iload_n (i := 3) hx hb d_F_lesserBelow_40 rfl hl rfl ?_
      refine lv_goto (tgt := 45) hx hb d_F_lesserBelow_41 (by decide) ?_
      exact s_iret hx hb hr hM ⟨rfl, 2 * pl + 2, rfl, Or.inr rfl, c1, Nat.le_of_lt c2, fun z => Nat.le_refl _⟩ d_F_lesserBelow_45 hlocks
