/-! PURE: what may be worked out behind W, and how counts fall -/
def rdy (E : Nat → Nat → Prop) (F P W : Nat → Prop) (y : Nat) : Prop := F y ∧ ¬ W y ∧ ∀ u, E y u → P u → W u
theorem rdy_gC {E : Nat → Nat → Prop} {F P : Nat → Prop} (hP : ∀ u, P u ↔ F u ∨ ¬ gN E u) {p : List Nat} (hp : ∀ u, u ∈ p → F u ∧ gN E u) (x : Nat) : gC E F p x ↔ rdy E F P (fun u => u ∈ p) x := by
  constructor
  · rintro ⟨h1, h2, h3, h4⟩
    refine ⟨h1, h3, fun u hu hPu => ?_⟩
    have hn := gN_down h2 hu
    rcases (hP u).mp hPu with z | z
    · exact h4 u hu z hn
    · exact absurd hn z
  · rintro ⟨h1, h2, h3⟩
    refine ⟨h1, gN_mk fun u hu => ?_, h2, fun u hu hF _ => h3 u hu ((hP u).mpr (Or.inl hF))⟩
    refine Classical.byContradiction fun z => ?_
    exact z (hp u (h3 u hu ((hP u).mpr (Or.inr z)))).2
theorem lrm_at {g : Nat → Nat} {k j : Nat} : ((List.range k).map g)[j]? = if j < k then some (g j) else none := by
  by_cases h : j < k
  · rw [if_pos h]; simp [h]
  · rw [if_neg h]; simp [h]
theorem lrm_take {g : Nat → Nat} {k j : Nat} (h : j ≤ k) : ((List.range k).map g).take j = (List.range j).map g := by
  apply List.ext_getElem?
  intro i
  rw [List.getElem?_take, lrm_at, lrm_at]
  by_cases z : i < j
  · rw [if_pos z, if_pos z, if_pos (by omega)]
  · rw [if_neg z, if_neg z]
theorem lrm_mem {g : Nat → Nat} {k x : Nat} : x ∈ (List.range k).map g ↔ hp_set g k x := by
  constructor
  · intro h
    obtain ⟨i, hi, e⟩ := List.mem_map.mp h
    exact ⟨i, List.mem_range.mp hi, e⟩
  · rintro ⟨i, hi, e⟩
    exact List.mem_map.mpr ⟨i, List.mem_range.mpr hi, e⟩
/-- the run out of the steps -/
theorem gR_of {E : Nat → Nat → Prop} {F P : Nat → Prop} (hP : ∀ u, P u ↔ F u ∨ ¬ gN E u) {g : Nat → Nat} {k : Nat} (h : ∀ j, j < k → rdy E F P (hp_set g j) (g j) ∧ ∀ y, rdy E F P (hp_set g j) y → g j ≤ y) (he : ∀ y, ¬ rdy E F P (hp_set g k) y) : gR E F ((List.range k).map g) := by
  have hw : ∀ j, (fun u => u ∈ (List.range j).map g) = hp_set g j := fun j => funext fun u => propext lrm_mem
  have hp : ∀ j, j ≤ k → ∀ u, u ∈ (List.range j).map g → F u ∧ gN E u := by
    intro j
    induction j with
    | zero => intro _ u hu; simp at hu
    | succ j ih =>
      intro hj u hu
      obtain ⟨i, hi, e⟩ := lrm_mem.mp hu
      by_cases z : i = j
      · have h1 := (h j (by omega)).1
        rw [← hw j] at h1
        have h2 := (rdy_gC hP (ih (by omega)) (g j)).mpr h1
        rw [← e, z]; exact ⟨h2.1, h2.2.1⟩
      · exact ih (by omega) u (lrm_mem.mpr ⟨i, by omega, e⟩)
  constructor
  · intro j x hx
    rw [lrm_at] at hx
    by_cases z : j < k
    · rw [if_pos z] at hx
      have e : g j = x := Option.some.inj hx
      obtain ⟨a1, a2⟩ := h j z
      rw [← hw j] at a1 a2
      rw [lrm_take (by omega), ← e]
      exact ⟨(rdy_gC hP (hp j (by omega)) (g j)).mpr a1, fun y hy => a2 y ((rdy_gC hP (hp j (by omega)) y).mp hy)⟩
    · rw [if_neg z] at hx; cases hx
  · intro x hx
    have := (rdy_gC hP (hp k (by omega)) x).mp hx
    rw [hw k] at this
    exact he x this
theorem inj_le {f g : Nat → Nat} {n k : Nat} (hi : hp_inj g k) (hs : ∀ i, i < k → hp_set f n (g i)) : k ≤ n := by
  have h1 : ((List.range k).map g).Nodup := by
    rw [List.nodup_iff_pairwise_ne, List.pairwise_iff_getElem]
    intro i j h1 h2 hij e
    have h1' : i < k := by simpa using h1
    have h2' : j < k := by simpa using h2
    have e' : g i = g j := by simpa using e
    have := hi i j h1' h2' e'
    omega
  have h2 : ((List.range k).map g) ⊆ (List.range n).map f := by
    intro x hx
    obtain ⟨i, hi9, e⟩ := List.mem_map.mp hx
    rw [← e]
    exact lrm_mem.mpr (hs i (List.mem_range.mp hi9))
  have h3 := List.Nodup.length_le_of_subset h1 h2
  simp at h3
  omega
/-- those that must be waited for and aren't worked out -/
def wpk (p : Nat → Bool) (g : Nat → Nat) (k u : Nat) : Bool := p u && !((List.range k).any (fun i => g i == u))
theorem wpk_iff {p : Nat → Bool} {g : Nat → Nat} {k u : Nat} : wpk p g k u = true ↔ p u = true ∧ ¬ hp_set g k u := by
  unfold wpk hp_set
  simp
theorem cnt_zero {p : Nat → Bool} {l : List (Nat × Nat)} : cnt p l = 0 ↔ ∀ c u, (c, u) ∈ l → ¬ p u = true := by
  unfold cnt
  rw [List.length_eq_zero_iff, List.filter_eq_nil_iff]
  exact ⟨fun h c u hm => h (c, u) hm, fun h x hm => h x.1 x.2 hm⟩
theorem cnt_drop {p p' : Nat → Bool} {x : Nat} (hp : ∀ u, p' u = true ↔ p u = true ∧ u ≠ x) (hx : p x = true) : ∀ l : List (Nat × Nat), (l.map Prod.snd).Nodup → ((∃ c, (c, x) ∈ l) → cnt p l = cnt p' l + 1) ∧ ((¬ ∃ c, (c, x) ∈ l) → cnt p l = cnt p' l)
  | [], _ => ⟨fun h => (by obtain ⟨c, h⟩ := h; cases h), fun _ => rfl⟩
  | (c, u) :: l, hn => by
    rw [List.map_cons, List.nodup_cons] at hn
    obtain ⟨h1, h2⟩ := cnt_drop hp hx l hn.2
    have hc : ∀ q : Nat → Bool, cnt q ((c, u) :: l) = cnt q l + (if q u = true then 1 else 0) := by
      intro q
      unfold cnt
      by_cases e : q u = true
      · simp [e]
      · simp [e]
    rw [hc, hc]
    by_cases e : u = x
    · subst e
      have hnm : ¬ ∃ c, (c, u) ∈ l := fun ⟨c, h⟩ => hn.1 (List.mem_map.mpr ⟨(c, u), h, rfl⟩)
      have e2 := h2 hnm
      have e3 : ¬ p' u = true := fun z => ((hp u).mp z).2 rfl
      refine ⟨fun _ => ?_, fun z => absurd ⟨c, List.mem_cons_self⟩ z⟩
      rw [if_pos hx, if_neg e3, e2]
    · have e3 : (if p u = true then 1 else 0) = (if p' u = true then 1 else 0) := by
        by_cases z : p u = true
        · rw [if_pos z, if_pos ((hp u).mpr ⟨z, e⟩)]
        · rw [if_neg z, if_neg (fun y => z ((hp u).mp y).1)]
      have e4 : (∃ c', (c', x) ∈ (c, u) :: l) ↔ ∃ c, (c, x) ∈ l := by
        constructor
        · rintro ⟨c', h⟩
          rcases List.mem_cons.mp h with y | y
          · exact absurd (congrArg Prod.snd y).symm e
          · exact ⟨c', y⟩
        · rintro ⟨c', h⟩
          exact ⟨c', List.mem_cons_of_mem _ h⟩
      rw [e4]
      refine ⟨fun z => ?_, fun z => ?_⟩
      · have := h1 z; omega
      · have := h2 z; omega
theorem vu_comm {α : Type} (f : Nat → α) (a b : α) : va_up (va_up f 3 a) 2 b = va_up (va_up f 2 b) 3 a := by
  funext j
  by_cases e : j = 3
  · subst e; rw [va_up_self, va_up_ne _ _ (by decide), va_up_self]
  · by_cases e2 : j = 2
    · subst e2; rw [va_up_self, va_up_ne _ _ (by decide), va_up_self]
    · rw [va_up_ne _ _ e2, va_up_ne _ _ e, va_up_ne _ _ e, va_up_ne _ _ e2]
/-- what releaseOnce does -/
def RelP (S : sS) (h0 tb pa q : Nat) (na : Nat → Nat) (nd : Nat → Option Nat) (rd sr : Nat → List (Nat × Nat)) (nr nc nn : Nat → Nat) (nf : Nat → Nat → Nat) (r4 c4 n4 : Nat) (v4 : Nat → Nat) (v t : Nat) (u : sS) : Prop :=
  ∃ r' c' n' v', Wz u h0 tb pa q na nd rd sr nr nc nn nf r' c' n' v' ∧ (∀ y, hp_set v' n' y ↔ hp_set v4 n4 y ∨ (y = v ∧ t = 0)) ∧ (∀ j w, fl u nd j w = if w = v ∧ j = 8 then nI t else fl S nd j w) ∧ (∀ j, u.2.2.1 h0 j = S.2.2.1 h0 j) ∧ c4 / 16 + (if t = 0 ∧ ¬ n4 < c4 then 1 else 0) ≤ c' / 16 ∧ 2 * c4 + (if t = 0 ∧ ¬ n4 < c4 then 2 * n4 else 0) ≤ 2 * c'
set_option maxHeartbeats 4000000 in
set_option maxRecDepth 100000 in
theorem m_H_releaseOnce (l : Launch) (D : va_G) (dA : Nat → ClassId) (S : sS) (sz : Nat) (h0 tb pa q : Nat) (na : Nat → Nat) (nd : Nat → Option Nat) (rd sr : Nat → List (Nat × Nat)) (nr nc nn : Nat → Nat) (nf : Nat → Nat → Nat) (r4 c4 n4 : Nat) (v4 : Nat → Nat) (v a t : Nat) (hW : Wz S h0 tb pa q na nd rd sr nr nc nn nf r4 c4 n4 v4) (hL : fewN nd 1024) (ha : nd v = some a) (ht : fl S nd 8 v = nI (t + 1)) (ht9 : t + 1 < 2 ^ 31) (hns : t = 0 → ¬ hp_set v4 n4 v) :
    cV l y_H_releaseOnce c_H_releaseOnce 2 (rmk 4 (if t = 0 ∧ ¬ n4 < c4 then 1 else 0) (if t = 0 ∧ ¬ n4 < c4 then 2 * n4 else 0)) D dA S sz [.ref h0, .ref a] (RelP S h0 tb pa q na nd rd sr nr nc nn nf r4 c4 n4 v4 v t) ((if t = 0 ∧ ¬ n4 < c4 then 1 else 0)) ((if t = 0 ∧ ¬ n4 < c4 then 2 * n4 else 0)) := by
  obtain ⟨kd, rf, it, lg⟩ := S
  have hZ := hW.1
  have hc9 := hW.2.2.2.2
  obtain ⟨⟨kh, e0, e1, e2, e3, e4⟩, ⟨kq, eq⟩, hG, hN, hna, hnr⟩ := id hZ
  dsimp only at kh e0 e1 e2 e3 e4 kq eq
  obtain ⟨hv9, ka, hva⟩ := hG.nk ha
  dsimp only at ka hva
  rw [fl_at ha] at ht
  dsimp only at ht
  have hn4 : n4 ≤ 1024 := few_le hL hW.2.2.1 hW.2.2.2.1
  have hle4 : n4 ≤ c4 := (Wz_lf hW).2.2.2.2.2.2.1
  refine s_met (cc := c_H_releaseOnce) (maxL := 2) (by decide) rfl (by simp [Value.category]) (by simp [lg_sl, Value.category]) ?_
  intro p e s m args below meth c ls hx hb hr hts hown hlocks hin hml hK hX hsz hM hl
  have hg := gd_hts hts
  have hl : lc ls 2 [some (va_rf (some h0)), some (va_rf (some a))] := hl
  refine q_al_n (i := 1) hx hb d_H_releaseOnce_0 rfl hl rfl ?_
  refine lv_dup hx hb d_H_releaseOnce_1 (rf_cat _) ?_
  refine s_geti (C := R_N) (T := F_N) (N := 9) (ci := 3) hx hb hg in_N hown hK hM ka rfl 8 (by decide) rfl (hg _ kw_145) (fun _ h9 => h9) d_H_releaseOnce_2 ?_
  rw [ht]
  refine lv_iconst (v := 1) hx hb d_H_releaseOnce_5 (by decide) ?_
  refine lv_isub hx hb d_H_releaseOnce_6 ?_
  have es : nI (t + 1) - 1 = nI t := by rw [← nI_1 t]; simp
  rw [es]
  refine s_puti (C := R_N) (T := F_N) (N := 9) (ci := 3) hx hb hg in_N ft_N ft_N_ok fn_N hown hK hM ka rfl 8 (by decide) rfl (hg _ kw_145) (fun _ h9 => h9) rfl rfl rfl d_H_releaseOnce_7 (fun H locs hM => ?_)
  obtain ⟨hW1, f1, g1⟩ := Wz_flag hW ha (i := 8) (by decide) (nI t)
  dsimp only at hW1 f1 g1
  refine q_al_n (i := 1) hx hb d_H_releaseOnce_10 rfl hl rfl ?_
  refine s_geti (C := R_N) (T := F_N) (N := 9) (ci := 3) hx hb hg in_N hown hK hM ka rfl 8 (by decide) rfl (hg _ kw_145) (fun _ h9 => h9) d_H_releaseOnce_11 ?_
  rw [up2_self]
  refine lv_if_ne (tgt := 28) hx hb d_H_releaseOnce_14 (by decide) (fun c3 => ?_) (fun c3 => ?_)
  · have t0 : ¬ t = 0 := fun z => c3 (by rw [z]; rfl)
    rw [if_neg (fun z => t0 z.1), if_neg (fun z => t0 z.1)]
    refine s_vret hx hb hr hM ⟨r4, c4, n4, v4, hW1, fun y => ⟨Or.inl, fun z => z.elim id (fun z => absurd z.2 t0)⟩, f1, g1, ?_, ?_⟩ d_H_releaseOnce_28 hlocks
    · rw [if_neg (fun z => t0 z.1)]; exact Nat.le_refl _
    · rw [if_neg (fun z => t0 z.1)]; exact Nat.le_refl _
  · have t0 : t = 0 := (nI_eq (by omega) (by omega)).mp c3
    have em : (if t = 0 ∧ ¬ n4 < c4 then 1 else 0) = (if n4 < c4 then 0 else 1) := by
      by_cases z : n4 < c4
      · rw [if_pos z, if_neg (fun y => y.2 z)]
      · rw [if_neg z, if_pos ⟨t0, z⟩]
    have es : (if t = 0 ∧ ¬ n4 < c4 then 2 * n4 else 0) = (if n4 < c4 then 0 else 2 * n4) := by
      by_cases z : n4 < c4
      · rw [if_pos z, if_neg (fun y => y.2 z)]
      · rw [if_neg z, if_pos ⟨t0, z⟩]
    rw [em, es]
    refine q_al_n (i := 0) hx hb d_H_releaseOnce_17 rfl hl rfl ?_
    refine s_getr (C := R_H) (T := F_H) (N := 7) (ci := 0) hx hb hg in_H hown hK hM kh rfl 4 (by decide) rfl (hg _ kw_69) (fun _ h9 => h9) d_H_releaseOnce_18 ?_
    rw [e4]
    refine q_al_n (i := 1) hx hb d_H_releaseOnce_21 rfl hl rfl ?_
    refine s_geti (C := R_N) (T := F_N) (N := 9) (ci := 3) hx hb hg in_N hown hK hM ka rfl 0 (by decide) rfl (hg _ kw_133) (fun _ h9 => h9) d_H_releaseOnce_22 ?_
    rw [up2_ne _ _ (by decide), hva]
    refine s_callv (r_V 1 [.int (nI v)] rfl hx hb hml hown hg (m_F_put l D dA _ _ q (na 3) r4 c4 n4 v4 v (Wz_lf hW1) hW.2.1 hW.2.2.1 (hns t0) hv9 (Wz_lt hW) (by omega)) (hM.pre hK hX) (hM.recv hK kq (q := cls.getD 6 (R_H, F_H, 7)) rfl) kw_200 kw_201 kw_202 kw_4 kw_203 (by decide +kernel) ⟨Nat.le_of_ble_eq_true rfl, Nat.le_of_ble_eq_true rfl⟩ rfl rfl hl.sz (by first | exact Nat.le_of_ble_eq_true rfl | simp [rf_cat] | simp [rf_cat, Value.category]) d_H_releaseOnce_25 ⟨Nat.le_of_eq (Nat.zero_add _), Nat.le_of_eq (Nat.zero_add _)⟩ rfl) hM (fun u H locs hp hM => ?_)
    obtain ⟨r4', c4', v4', hW2, hs2, hf2, hg2, hb1, hb2⟩ := Wz_put hW1 hL (by rw [ha]; exact fun z => by cases z) hp
    refine W.widen (k := (if n4 < c4 then 0 else 1)) (n := (if n4 < c4 then 0 else 2 * n4)) (by omega) (by omega) ?_
    refine s_vret hx hb hr hM ⟨r4', c4', n4 + 1, v4', hW2, fun y => ?_, fun j w => ?_, fun j => (hg2 j).trans (g1 j), ?_, ?_⟩ d_H_releaseOnce_28 hlocks
    · rw [hs2]
      exact ⟨fun z => z.elim Or.inl (fun z => Or.inr ⟨z, t0⟩), fun z => z.elim Or.inl (fun z => Or.inr z.1)⟩
    · rw [hf2]; exact f1 j w
    · rw [em]; exact hb1
    · rw [es]; exact hb2
