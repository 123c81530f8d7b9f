/-- the object's own fields -/
def Hd (S : sS) (h0 tb tr fr wr q : Nat) : Prop := S.1 h0 = some (.inl 0) ∧ S.2.1 h0 0 = some tb ∧ S.2.1 h0 1 = some tr ∧ S.2.1 h0 2 = some fr ∧ S.2.1 h0 3 = some wr ∧ S.2.1 h0 4 = some q
theorem Hd_fr {S u : sS} {h0 tb tr fr wr q : Nat} {P : Nat → Prop} (h : Hd S h0 tb tr fr wr q) (hF : sFr S u P) (hP : ¬ P h0) : Hd u h0 tb tr fr wr q := by
  obtain ⟨k, h1⟩ := h
  obtain ⟨a1, a2⟩ := hF h0 (sk_nn k)
  have e := (a2 hP).1
  exact ⟨by rw [a1]; exact k, by rw [e]; exact h1⟩
/-- what markFound does -/
def MarkFoundP (S : sS) (a fr r cap n : Nat) (f : Nat → Nat) (v : Nat) (u : sS) : Prop :=
  (S.2.2.1 a 7 ≠ 0 ∧ u = S) ∨ (S.2.2.1 a 7 = 0 ∧ AddP (S.1, S.2.1, up2 S.2.2.1 a 7 1, S.2.2.2) fr r cap n f v u)
set_option maxHeartbeats 4000000 in
set_option maxRecDepth 100000 in
theorem m_H_markFound (l : Launch) (D : va_G) (dA : Nat → ClassId) (S : sS) (sz : Nat) (h0 tb tr fr wr q a r cap n v : Nat) (f : Nat → Nat) (hH : Hd S h0 tb tr fr wr q) (ka : S.1 a = some (.inl 3)) (hv : S.2.2.1 a 0 = nI v) (hN : Nm S fr r cap n f) (hlt : n < 16384) :
    cV l y_H_markFound c_H_markFound 2 (rmk 3 (if S.2.2.1 a 7 = 0 ∧ ¬ n < cap then 1 else 0) (if S.2.2.1 a 7 = 0 ∧ ¬ n < cap then 2 * n else 0)) D dA S sz [.ref h0, .ref a] (MarkFoundP S a fr r cap n f v) ((if S.2.2.1 a 7 = 0 ∧ ¬ n < cap then 1 else 0)) ((if S.2.2.1 a 7 = 0 ∧ ¬ n < cap then 2 * n else 0)) := by
  obtain ⟨kd, rf, it, lg⟩ := S
  obtain ⟨kh, e0, e1, e2, e3, e4⟩ := hH
  dsimp only at kh e0 e1 e2 e3 e4 ka hv
  have hN' := hN
  obtain ⟨kn, hrow, kr, hn, hle, h16, hcap, hf⟩ := hN'
  dsimp only at kn hrow kr hn hf
  have han : fr ≠ a := sk_d kn ka (by decide)
  have har : r ≠ a := sk_d kr ka (fun z => by cases z)
  refine s_met (cc := c_H_markFound) (maxL := 2) (by decide) rfl (by simp [Value.category]) (by simp [lg_sl, Value.category]) ?_
  intro p e s m args below meth c ls hx hb hr hts hown hlocks hin hml hK hX hsz hM hl
  have hg := gd_hts hts
  have hl : lc ls 2 [some (va_rf (some h0)), some (va_rf (some a))] := hl
  refine q_al_n (i := 1) hx hb d_H_markFound_0 rfl hl rfl ?_
  refine s_geti (C := R_N) (T := F_N) (N := 9) (ci := 3) hx hb hg in_N hown hK hM ka rfl 7 (by decide) rfl (hg _ kw_144) (fun _ h9 => h9) d_H_markFound_1 ?_
  refine lv_if_ne (tgt := 23) hx hb d_H_markFound_4 (by decide) (fun c1 => ?_) (fun c1 => ?_)
  · refine W.widen (k := (if it a 7 = 0 ∧ ¬ n < cap then 1 else 0)) (n := (if it a 7 = 0 ∧ ¬ n < cap then 2 * n else 0)) (Nat.zero_le _) (Nat.zero_le _) ?_
    exact s_vret hx hb hr hM (Or.inl ⟨c1, rfl⟩) d_H_markFound_23 hlocks
  · have c0 : it a 7 = 0 := c1
    refine q_al_n (i := 1) hx hb d_H_markFound_7 rfl hl rfl ?_
    refine lv_iconst (v := 1) hx hb d_H_markFound_8 (by decide) ?_
    refine s_puti (C := R_N) (T := F_N) (N := 9) (ci := 3) hx hb hg in_N ft_N ft_N_ok fn_N hown hK hM ka rfl 7 (by decide) rfl (hg _ kw_144) (fun _ h9 => h9) rfl rfl rfl d_H_markFound_9 (fun H locs hM => ?_)
    refine q_al_n (i := 0) hx hb d_H_markFound_12 rfl hl rfl ?_
    refine s_getr (C := R_H) (T := F_H) (N := 7) (ci := 0) hx hb hg in_H hown hK hM kh rfl 2 (by decide) rfl (hg _ kw_67) (fun _ h9 => h9) d_H_markFound_13 ?_
    rw [e2]
    refine q_al_n (i := 1) hx hb d_H_markFound_16 rfl hl rfl ?_
    refine s_geti (C := R_N) (T := F_N) (N := 9) (ci := 3) hx hb hg in_N hown hK hM ka rfl 0 (by decide) rfl (hg _ kw_133) (fun _ h9 => h9) d_H_markFound_17 ?_
    rw [up2_ne _ _ (by decide), hv]
    have hN2 : Nm (kd, rf, up2 it a 7 1, lg) fr r cap n f := ⟨kn, hrow, kr, by show up2 it a 7 1 fr 1 = nI n; rw [up2_off _ _ han]; exact hn, hle, h16, hcap, fun i hi => by show up2 it a 7 1 r i = nI (f i); rw [up2_off _ _ har]; exact hf i hi⟩
    have em : (if it a 7 = 0 ∧ ¬ n < cap then 1 else 0) = (if n < cap then 0 else 1) := by
      by_cases z : n < cap
      · rw [if_pos z, if_neg (fun y => y.2 z)]
      · rw [if_neg z, if_pos ⟨c0, z⟩]
    have es : (if it a 7 = 0 ∧ ¬ n < cap then 2 * n else 0) = (if n < cap then 0 else 2 * n) := by
      by_cases z : n < cap
      · rw [if_pos z, if_neg (fun y => y.2 z)]
      · rw [if_neg z, if_pos ⟨c0, z⟩]
    rw [em, es]
    refine s_callv (r_V 1 [.int (nI v)] rfl hx hb hml hown hg (m_U_add l D dA _ _ fr r cap n f v hN2 hlt) (hM.pre hK hX) (hM.recv hK kn (q := cls.getD 5 (R_H, F_H, 7)) rfl) kw_169 kw_170 kw_171 kw_3 kw_172 (by decide +kernel) ⟨Nat.le_of_ble_eq_true rfl, Nat.le_of_ble_eq_true rfl⟩ rfl rfl hl.sz (by first | exact Nat.le_of_ble_eq_true rfl | simp [rf_cat] | simp [rf_cat, Value.category]) d_H_markFound_20 ⟨Nat.le_of_eq (Nat.zero_add _), Nat.le_of_eq (Nat.zero_add _)⟩ rfl) hM (fun u H locs hp hM => ?_)
    refine W.widen (k := (if n < cap then 0 else 1)) (n := (if n < cap then 0 else 2 * n)) (by omega) (by omega) ?_
    exact s_vret hx hb hr hM (Or.inr ⟨c0, hp⟩) d_H_markFound_23 hlocks
/-- what markTouched does -/
def MarkTouchedP (S : sS) (a tr r cap n : Nat) (f : Nat → Nat) (v : Nat) (u : sS) : Prop :=
  (S.2.2.1 a 5 ≠ 0 ∧ u = S) ∨ (S.2.2.1 a 5 = 0 ∧ AddP (S.1, S.2.1, up2 S.2.2.1 a 5 1, S.2.2.2) tr r cap n f v u)
set_option maxHeartbeats 4000000 in
set_option maxRecDepth 100000 in
theorem m_H_markTouched (l : Launch) (D : va_G) (dA : Nat → ClassId) (S : sS) (sz : Nat) (h0 tb tr fr wr q a r cap n v : Nat) (f : Nat → Nat) (hH : Hd S h0 tb tr fr wr q) (ka : S.1 a = some (.inl 3)) (hv : S.2.2.1 a 0 = nI v) (hN : Nm S tr r cap n f) (hlt : n < 16384) :
    cV l y_H_markTouched c_H_markTouched 2 (rmk 3 (if S.2.2.1 a 5 = 0 ∧ ¬ n < cap then 1 else 0) (if S.2.2.1 a 5 = 0 ∧ ¬ n < cap then 2 * n else 0)) D dA S sz [.ref h0, .ref a] (MarkTouchedP S a tr r cap n f v) ((if S.2.2.1 a 5 = 0 ∧ ¬ n < cap then 1 else 0)) ((if S.2.2.1 a 5 = 0 ∧ ¬ n < cap then 2 * n else 0)) := by
  obtain ⟨kd, rf, it, lg⟩ := S
  obtain ⟨kh, e0, e1, e2, e3, e4⟩ := hH
  dsimp only at kh e0 e1 e2 e3 e4 ka hv
  have hN' := hN
  obtain ⟨kn, hrow, kr, hn, hle, h16, hcap, hf⟩ := hN'
  dsimp only at kn hrow kr hn hf
  have han : tr ≠ a := sk_d kn ka (by decide)
  have har : r ≠ a := sk_d kr ka (fun z => by cases z)
  refine s_met (cc := c_H_markTouched) (maxL := 2) (by decide) rfl (by simp [Value.category]) (by simp [lg_sl, Value.category]) ?_
  intro p e s m args below meth c ls hx hb hr hts hown hlocks hin hml hK hX hsz hM hl
  have hg := gd_hts hts
  have hl : lc ls 2 [some (va_rf (some h0)), some (va_rf (some a))] := hl
  refine q_al_n (i := 1) hx hb d_H_markTouched_0 rfl hl rfl ?_
  refine s_geti (C := R_N) (T := F_N) (N := 9) (ci := 3) hx hb hg in_N hown hK hM ka rfl 5 (by decide) rfl (hg _ kw_142) (fun _ h9 => h9) d_H_markTouched_1 ?_
  refine lv_if_ne (tgt := 23) hx hb d_H_markTouched_4 (by decide) (fun c1 => ?_) (fun c1 => ?_)
  · refine W.widen (k := (if it a 5 = 0 ∧ ¬ n < cap then 1 else 0)) (n := (if it a 5 = 0 ∧ ¬ n < cap then 2 * n else 0)) (Nat.zero_le _) (Nat.zero_le _) ?_
    exact s_vret hx hb hr hM (Or.inl ⟨c1, rfl⟩) d_H_markTouched_23 hlocks
  · have c0 : it a 5 = 0 := c1
    refine q_al_n (i := 1) hx hb d_H_markTouched_7 rfl hl rfl ?_
    refine lv_iconst (v := 1) hx hb d_H_markTouched_8 (by decide) ?_
    refine s_puti (C := R_N) (T := F_N) (N := 9) (ci := 3) hx hb hg in_N ft_N ft_N_ok fn_N hown hK hM ka rfl 5 (by decide) rfl (hg _ kw_142) (fun _ h9 => h9) rfl rfl rfl d_H_markTouched_9 (fun H locs hM => ?_)
    refine q_al_n (i := 0) hx hb d_H_markTouched_12 rfl hl rfl ?_
    refine s_getr (C := R_H) (T := F_H) (N := 7) (ci := 0) hx hb hg in_H hown hK hM kh rfl 1 (by decide) rfl (hg _ kw_66) (fun _ h9 => h9) d_H_markTouched_13 ?_
    rw [e1]
    refine q_al_n (i := 1) hx hb d_H_markTouched_16 rfl hl rfl ?_
    refine s_geti (C := R_N) (T := F_N) (N := 9) (ci := 3) hx hb hg in_N hown hK hM ka rfl 0 (by decide) rfl (hg _ kw_133) (fun _ h9 => h9) d_H_markTouched_17 ?_
    rw [up2_ne _ _ (by decide), hv]
    have hN2 : Nm (kd, rf, up2 it a 5 1, lg) tr r cap n f := ⟨kn, hrow, kr, by show up2 it a 5 1 tr 1 = nI n; rw [up2_off _ _ han]; exact hn, hle, h16, hcap, fun i hi => by show up2 it a 5 1 r i = nI (f i); rw [up2_off _ _ har]; exact hf i hi⟩
    have em : (if it a 5 = 0 ∧ ¬ n < cap then 1 else 0) = (if n < cap then 0 else 1) := by
      by_cases z : n < cap
      · rw [if_pos z, if_neg (fun y => y.2 z)]
      · rw [if_neg z, if_pos ⟨c0, z⟩]
    have es : (if it a 5 = 0 ∧ ¬ n < cap then 2 * n else 0) = (if n < cap then 0 else 2 * n) := by
      by_cases z : n < cap
      · rw [if_pos z, if_neg (fun y => y.2 z)]
      · rw [if_neg z, if_pos ⟨c0, z⟩]
    rw [em, es]
    refine s_callv (r_V 1 [.int (nI v)] rfl hx hb hml hown hg (m_U_add l D dA _ _ tr r cap n f v hN2 hlt) (hM.pre hK hX) (hM.recv hK kn (q := cls.getD 5 (R_H, F_H, 7)) rfl) kw_169 kw_170 kw_171 kw_3 kw_172 (by decide +kernel) ⟨Nat.le_of_ble_eq_true rfl, Nat.le_of_ble_eq_true rfl⟩ rfl rfl hl.sz (by first | exact Nat.le_of_ble_eq_true rfl | simp [rf_cat] | simp [rf_cat, Value.category]) d_H_markTouched_20 ⟨Nat.le_of_eq (Nat.zero_add _), Nat.le_of_eq (Nat.zero_add _)⟩ rfl) hM (fun u H locs hp hM => ?_)
    refine W.widen (k := (if n < cap then 0 else 1)) (n := (if n < cap then 0 else 2 * n)) (by omega) (by omega) ?_
    exact s_vret hx hb hr hM (Or.inr ⟨c0, hp⟩) d_H_markTouched_23 hlocks
