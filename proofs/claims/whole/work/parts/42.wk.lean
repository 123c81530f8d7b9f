/-! the object between calls, in the document's words: E v u: v reads u; T: touched; Rg: ringed; wl: what the latest work worked out; rc: how many it found ringed; m: calls so far -/
def HoX (S : sS) (h0 m : Nat) (E : Nat → Nat → Prop) (T Rg : Nat → Prop) (wl : List Nat) (rc : Nat) (nd : Nat → Option Nat) (rd sr : Nat → List (Nat × Nat)) (nc nn : Nat → Nat) (nf : Nat → Nat → Nat) : Prop :=
  (∀ v u, E v u ↔ rE rd v u) ∧ (∀ i, i < 4 → pw (nc i)) ∧ (fewN nd (2 * m)) ∧ (∀ v, (rd v).length ≤ m ∧ (sr v).length ≤ m) ∧ (hp_inj (nf 0) (nn 0)) ∧ (∀ i, i < nn 0 → nd (nf 0 i) ≠ none) ∧ (∀ v, T v ↔ hp_set (nf 0) (nn 0) v) ∧ (∀ v, (T v → fl S nd 5 v = 1) ∧ (¬ T v → fl S nd 5 v = 0)) ∧ (∀ v, fl S nd 7 v = 0) ∧ (nn 3 = 0) ∧ (nn 2 = wl.length) ∧ (∀ i, i < nn 2 → wl[i]? = some (nf 2 i)) ∧ (∀ v, (Rg v → fl S nd 6 v = 1) ∧ (¬ Rg v → fl S nd 6 v = 0)) ∧ (∃ O : Nat → Nat → Prop, (∀ v, Rg v ↔ ¬ gN O v) ∧ ∀ v, ¬ T v → ∀ u, E v u ↔ O v u) ∧ (S.2.2.1 h0 6 = nI rc) ∧ (∃ z : Int, S.2.2.1 h0 5 = Int32.ofInt z ∧ -(1024 * (m : Int)) ≤ z ∧ z ≤ m)
theorem HoX.hE {S : sS} {h0 m : Nat} {E : Nat → Nat → Prop} {T Rg : Nat → Prop} {wl : List Nat} {rc : Nat} {nd : Nat → Option Nat} {rd sr : Nat → List (Nat × Nat)} {nc nn : Nat → Nat} {nf : Nat → Nat → Nat} (h : HoX S h0 m E T Rg wl rc nd rd sr nc nn nf) : ∀ v u, E v u ↔ rE rd v u := h.1
theorem HoX.hc {S : sS} {h0 m : Nat} {E : Nat → Nat → Prop} {T Rg : Nat → Prop} {wl : List Nat} {rc : Nat} {nd : Nat → Option Nat} {rd sr : Nat → List (Nat × Nat)} {nc nn : Nat → Nat} {nf : Nat → Nat → Nat} (h : HoX S h0 m E T Rg wl rc nd rd sr nc nn nf) : ∀ i, i < 4 → pw (nc i) := h.2.1
theorem HoX.hL {S : sS} {h0 m : Nat} {E : Nat → Nat → Prop} {T Rg : Nat → Prop} {wl : List Nat} {rc : Nat} {nd : Nat → Option Nat} {rd sr : Nat → List (Nat × Nat)} {nc nn : Nat → Nat} {nf : Nat → Nat → Nat} (h : HoX S h0 m E T Rg wl rc nd rd sr nc nn nf) : fewN nd (2 * m) := h.2.2.1
theorem HoX.hlen {S : sS} {h0 m : Nat} {E : Nat → Nat → Prop} {T Rg : Nat → Prop} {wl : List Nat} {rc : Nat} {nd : Nat → Option Nat} {rd sr : Nat → List (Nat × Nat)} {nc nn : Nat → Nat} {nf : Nat → Nat → Nat} (h : HoX S h0 m E T Rg wl rc nd rd sr nc nn nf) : ∀ v, (rd v).length ≤ m ∧ (sr v).length ≤ m := h.2.2.2.1
theorem HoX.t1 {S : sS} {h0 m : Nat} {E : Nat → Nat → Prop} {T Rg : Nat → Prop} {wl : List Nat} {rc : Nat} {nd : Nat → Option Nat} {rd sr : Nat → List (Nat × Nat)} {nc nn : Nat → Nat} {nf : Nat → Nat → Nat} (h : HoX S h0 m E T Rg wl rc nd rd sr nc nn nf) : hp_inj (nf 0) (nn 0) := h.2.2.2.2.1
theorem HoX.t2 {S : sS} {h0 m : Nat} {E : Nat → Nat → Prop} {T Rg : Nat → Prop} {wl : List Nat} {rc : Nat} {nd : Nat → Option Nat} {rd sr : Nat → List (Nat × Nat)} {nc nn : Nat → Nat} {nf : Nat → Nat → Nat} (h : HoX S h0 m E T Rg wl rc nd rd sr nc nn nf) : ∀ i, i < nn 0 → nd (nf 0 i) ≠ none := h.2.2.2.2.2.1
theorem HoX.t3 {S : sS} {h0 m : Nat} {E : Nat → Nat → Prop} {T Rg : Nat → Prop} {wl : List Nat} {rc : Nat} {nd : Nat → Option Nat} {rd sr : Nat → List (Nat × Nat)} {nc nn : Nat → Nat} {nf : Nat → Nat → Nat} (h : HoX S h0 m E T Rg wl rc nd rd sr nc nn nf) : ∀ v, T v ↔ hp_set (nf 0) (nn 0) v := h.2.2.2.2.2.2.1
theorem HoX.f5 {S : sS} {h0 m : Nat} {E : Nat → Nat → Prop} {T Rg : Nat → Prop} {wl : List Nat} {rc : Nat} {nd : Nat → Option Nat} {rd sr : Nat → List (Nat × Nat)} {nc nn : Nat → Nat} {nf : Nat → Nat → Nat} (h : HoX S h0 m E T Rg wl rc nd rd sr nc nn nf) : ∀ v, (T v → fl S nd 5 v = 1) ∧ (¬ T v → fl S nd 5 v = 0) := h.2.2.2.2.2.2.2.1
theorem HoX.f7 {S : sS} {h0 m : Nat} {E : Nat → Nat → Prop} {T Rg : Nat → Prop} {wl : List Nat} {rc : Nat} {nd : Nat → Option Nat} {rd sr : Nat → List (Nat × Nat)} {nc nn : Nat → Nat} {nf : Nat → Nat → Nat} (h : HoX S h0 m E T Rg wl rc nd rd sr nc nn nf) : ∀ v, fl S nd 7 v = 0 := h.2.2.2.2.2.2.2.2.1
theorem HoX.n3 {S : sS} {h0 m : Nat} {E : Nat → Nat → Prop} {T Rg : Nat → Prop} {wl : List Nat} {rc : Nat} {nd : Nat → Option Nat} {rd sr : Nat → List (Nat × Nat)} {nc nn : Nat → Nat} {nf : Nat → Nat → Nat} (h : HoX S h0 m E T Rg wl rc nd rd sr nc nn nf) : nn 3 = 0 := h.2.2.2.2.2.2.2.2.2.1
theorem HoX.n2 {S : sS} {h0 m : Nat} {E : Nat → Nat → Prop} {T Rg : Nat → Prop} {wl : List Nat} {rc : Nat} {nd : Nat → Option Nat} {rd sr : Nat → List (Nat × Nat)} {nc nn : Nat → Nat} {nf : Nat → Nat → Nat} (h : HoX S h0 m E T Rg wl rc nd rd sr nc nn nf) : nn 2 = wl.length := h.2.2.2.2.2.2.2.2.2.2.1
theorem HoX.w2 {S : sS} {h0 m : Nat} {E : Nat → Nat → Prop} {T Rg : Nat → Prop} {wl : List Nat} {rc : Nat} {nd : Nat → Option Nat} {rd sr : Nat → List (Nat × Nat)} {nc nn : Nat → Nat} {nf : Nat → Nat → Nat} (h : HoX S h0 m E T Rg wl rc nd rd sr nc nn nf) : ∀ i, i < nn 2 → wl[i]? = some (nf 2 i) := h.2.2.2.2.2.2.2.2.2.2.2.1
theorem HoX.f6 {S : sS} {h0 m : Nat} {E : Nat → Nat → Prop} {T Rg : Nat → Prop} {wl : List Nat} {rc : Nat} {nd : Nat → Option Nat} {rd sr : Nat → List (Nat × Nat)} {nc nn : Nat → Nat} {nf : Nat → Nat → Nat} (h : HoX S h0 m E T Rg wl rc nd rd sr nc nn nf) : ∀ v, (Rg v → fl S nd 6 v = 1) ∧ (¬ Rg v → fl S nd 6 v = 0) := h.2.2.2.2.2.2.2.2.2.2.2.2.1
theorem HoX.old {S : sS} {h0 m : Nat} {E : Nat → Nat → Prop} {T Rg : Nat → Prop} {wl : List Nat} {rc : Nat} {nd : Nat → Option Nat} {rd sr : Nat → List (Nat × Nat)} {nc nn : Nat → Nat} {nf : Nat → Nat → Nat} (h : HoX S h0 m E T Rg wl rc nd rd sr nc nn nf) : ∃ O : Nat → Nat → Prop, (∀ v, Rg v ↔ ¬ gN O v) ∧ ∀ v, ¬ T v → ∀ u, E v u ↔ O v u := h.2.2.2.2.2.2.2.2.2.2.2.2.2.1
theorem HoX.c6 {S : sS} {h0 m : Nat} {E : Nat → Nat → Prop} {T Rg : Nat → Prop} {wl : List Nat} {rc : Nat} {nd : Nat → Option Nat} {rd sr : Nat → List (Nat × Nat)} {nc nn : Nat → Nat} {nf : Nat → Nat → Nat} (h : HoX S h0 m E T Rg wl rc nd rd sr nc nn nf) : S.2.2.1 h0 6 = nI rc := h.2.2.2.2.2.2.2.2.2.2.2.2.2.2.1
theorem HoX.c5 {S : sS} {h0 m : Nat} {E : Nat → Nat → Prop} {T Rg : Nat → Prop} {wl : List Nat} {rc : Nat} {nd : Nat → Option Nat} {rd sr : Nat → List (Nat × Nat)} {nc nn : Nat → Nat} {nf : Nat → Nat → Nat} (h : HoX S h0 m E T Rg wl rc nd rd sr nc nn nf) : ∃ z : Int, S.2.2.1 h0 5 = Int32.ofInt z ∧ -(1024 * (m : Int)) ≤ z ∧ z ≤ m := h.2.2.2.2.2.2.2.2.2.2.2.2.2.2.2
def Ho (S : sS) (h0 m : Nat) (E : Nat → Nat → Prop) (T Rg : Nat → Prop) (wl : List Nat) (rc : Nat) : Prop :=
  ∃ tb pa q na nd rd sr nr nc nn nf, Mz S h0 tb pa q na nd rd sr nr nc nn nf ∧ HoX S h0 m E T Rg wl rc nd rd sr nc nn nf
theorem fewN_le {nd : Nat → Option Nat} {m n : Nat} (h : fewN nd m) (hm : m ≤ n) : fewN nd n := by
  obtain ⟨L, h1, h2⟩ := h
  exact ⟨L, by omega, h2⟩
/-- what work does -/
def WorkP (h0 m : Nat) (E : Nat → Nat → Prop) (T : Nat → Prop) (x : Int32) (u : sS) : Prop :=
  ∃ wl rc, Ho u h0 m E (fun _ => False) (fun v => ¬ gN E v) wl rc ∧ x = nI wl.length ∧ gR E (gF E T) wl ∧ ∃ L : List Nat, L.Nodup ∧ (∀ v, v ∈ L ↔ gF E T v) ∧ rc + wl.length = L.length
theorem lrm_nodup {g : Nat → Nat} {k : Nat} (hi : hp_inj g k) : ((List.range k).map g).Nodup := by
  rw [List.nodup_iff_pairwise_ne, List.pairwise_iff_getElem]
  intro i j h1 h2 hij e
  have h1' : i < k := by simpa using h1
  have h2' : j < k := by simpa using h2
  have e' : g i = g j := by simpa using e
  have := hi i j h1' h2' e'
  omega
set_option maxHeartbeats 4000000 in
set_option maxRecDepth 100000 in
theorem m_H_work (l : Launch) (D : va_G) (dA : Nat → ClassId) (S : sS) (sz : Nat) (h0 m : Nat) (E : Nat → Nat → Prop) (T Rg : Nat → Prop) (wl : List Nat) (rc : Nat) (hH : Ho S h0 m E T Rg wl rc) (hm : m ≤ 512) :
    cI l y_H_work c_H_work 1 (some .int) (rmk 6 320 10240) D dA S sz [.ref h0] (WorkP h0 m E T) (320) (10240) := by
  obtain ⟨tb, pa, q, na, nd, rd, sr, nr, nc, nn, nf, hZ, hX0⟩ := hH
  have hL : fewN nd 1024 := fewN_le hX0.hL (by omega)
  have hEE : rE rd = E := funext fun v => funext fun u => propext (hX0.hE v u).symm
  have hlen : ∀ v, (rd v).length < 2 ^ 30 := fun v => by have := (hX0.hlen v).1; omega
  obtain ⟨O, hO1, hO2⟩ := hX0.old
  obtain ⟨kd, rf, it, lg⟩ := S
  obtain ⟨⟨kh, e0, e1, e2, e3, e4⟩, ⟨kq, eq⟩, hG, hN, hna, hnr⟩ := id hZ
  dsimp only at kh e0 e1 e2 e3 e4 kq eq
  refine s_met (cc := c_H_work) (maxL := 1) (by decide) rfl (by simp [Value.category]) (by simp [lg_sl, Value.category]) ?_
  intro p e s m args below meth c ls hx hb hr hts hown hlocks hin hml hK hX hsz hM hl
  have hg := gd_hts hts
  have hl : lc ls 1 [some (va_rf (some h0))] := hl
  refine q_al_n (i := 0) hx hb d_H_work_0 rfl hl rfl ?_
  refine s_getr (C := R_H) (T := F_H) (N := 7) (ci := 0) hx hb hg in_H hown hK hM kh rfl 2 (by decide) rfl (hg _ kw_67) (fun _ h9 => h9) d_H_work_1 ?_
  rw [e2]
  refine s_callv (r_V 0 [] rfl hx hb hml hown hg (m_U_empty l D dA _ _ (na 1) (hN 1 (by decide)).1) (hM.pre hK hX) (hM.recv hK (hN 1 (by decide)).1 (q := cls.getD 5 (R_H, F_H, 7)) rfl) kw_91 kw_92 kw_93 kw_3 kw_94 (by decide +kernel) ⟨Nat.le_of_ble_eq_true rfl, Nat.le_of_ble_eq_true rfl⟩ rfl rfl hl.sz (by first | exact Nat.le_of_ble_eq_true rfl | simp [rf_cat] | simp [rf_cat, Value.category]) d_H_work_4 ⟨by show _ ≤ 320; omega, by show _ ≤ 10240; omega⟩ rfl) hM (fun u H locs hp hM => ?_)
  subst hp
  dsimp only at hM
  obtain ⟨hZ1, f1, g1⟩ := Mz_empty hZ (i := 1) (by decide)
  dsimp only at hZ1 f1 g1
  refine q_al_n (i := 0) hx hb d_H_work_7 rfl hl rfl ?_
  refine s_getr (C := R_H) (T := F_H) (N := 7) (ci := 0) hx hb hg in_H hown hK hM kh rfl 3 (by decide) rfl (hg _ kw_68) (fun _ h9 => h9) d_H_work_8 ?_
  rw [e3]
  refine s_callv (r_V 0 [] rfl hx hb hml hown hg (m_U_empty l D dA _ _ (na 2) (hZ1.2.2.2.1 2 (by decide)).1) (hM.pre hK hX) (hM.recv hK (hZ1.2.2.2.1 2 (by decide)).1 (q := cls.getD 5 (R_H, F_H, 7)) rfl) kw_91 kw_92 kw_93 kw_3 kw_94 (by decide +kernel) ⟨Nat.le_of_ble_eq_true rfl, Nat.le_of_ble_eq_true rfl⟩ rfl rfl hl.sz (by first | exact Nat.le_of_ble_eq_true rfl | simp [rf_cat] | simp [rf_cat, Value.category]) d_H_work_11 ⟨by show _ ≤ 320; omega, by show _ ≤ 10240; omega⟩ rfl) hM (fun u H locs hp hM => ?_)
  subst hp
  dsimp only at hM
  obtain ⟨hZ2, f2, g2⟩ := Mz_empty hZ1 (i := 2) (by decide)
  dsimp only at hZ2 f2 g2
  have v10 : va_up (va_up nn 1 0) 2 0 1 = 0 := by rw [va_up_ne _ _ (by decide), va_up_self]
  have v00 : va_up (va_up nn 1 0) 2 0 0 = nn 0 := by rw [va_up_ne _ _ (by decide), va_up_ne _ _ (by decide)]
  have v20 : va_up (va_up nn 1 0) 2 0 2 = 0 := by rw [va_up_self]
  have v30 : va_up (va_up nn 1 0) 2 0 3 = 0 := by rw [va_up_ne _ _ (by decide), va_up_ne _ _ (by decide)]; exact hX0.n3
  generalize va_up (va_up nn 1 0) 2 0 = nn2 at hZ2 v10 v00 v20 v30
  have hn0 : nn 0 ≤ 1024 := few_le hL hX0.t1 hX0.t2
  refine q_al_n (i := 0) hx hb d_H_work_14 rfl hl rfl ?_
  refine s_callv (r_V 0 [] rfl hx hb hml hown hg (m_H_findTouched l D dA _ _ h0 tb pa q na nd rd sr nr nc nn2 nf hZ2 v10 (by rw [v00]; exact hX0.t1) (by rw [v00]; exact hX0.t2) (by rw [v00]; exact hn0) (hX0.hc 1 (by decide)) (fun v hv => by rw [f2, f1] at hv; rw [v00]; exact (hX0.t3 v).mp (Classical.byContradiction fun z => hv ((hX0.f5 v).2 z))) (fun v => by rw [f2, f1]; exact hX0.f7 v)) (hM.pre hK hX) (hM.recv hK kh (q := cls.getD 0 (R_H, F_H, 7)) rfl) kw_95 kw_97 ks_0 kw_1 kw_98 (by decide +kernel) ⟨Nat.le_of_ble_eq_true rfl, Nat.le_of_ble_eq_true rfl⟩ rfl rfl hl.sz (by first | exact Nat.le_of_ble_eq_true rfl | simp [rf_cat] | simp [rf_cat, Value.category]) d_H_work_15 ⟨by show _ ≤ 320; omega, by show _ ≤ 10240; omega⟩ rfl) hM (fun u H locs hp hM => ?_)
  obtain ⟨nr3, nc3, nf3, hZ3, a1, a2, a3, a4, a5, a6, a7⟩ := hp
  rw [v00] at hZ3 a1 a5
  have hs3 : ∀ v, hp_set (nf3 1) (nn 0) v ↔ T v := by
    intro v
    rw [hX0.t3]
    constructor
    · rintro ⟨i, hi, e⟩; exact ⟨i, hi, by rw [← a1 i hi]; exact e⟩
    · rintro ⟨i, hi, e⟩; exact ⟨i, hi, by rw [a1 i hi]; exact e⟩
  have u1 : va_up (va_up nn2 1 (nn 0)) 0 0 1 = nn 0 := by rw [va_up_ne _ _ (by decide), va_up_self]
  have u0 : va_up (va_up nn2 1 (nn 0)) 0 0 0 = 0 := by rw [va_up_self]
  have u2 : va_up (va_up nn2 1 (nn 0)) 0 0 2 = 0 := by rw [va_up_ne _ _ (by decide), va_up_ne _ _ (by decide), v20]
  have u3 : va_up (va_up nn2 1 (nn 0)) 0 0 3 = 0 := by rw [va_up_ne _ _ (by decide), va_up_ne _ _ (by decide), v30]
  generalize va_up (va_up nn2 1 (nn 0)) 0 0 = nn3 at hZ3 u1 u0 u2 u3
  have hF3 : Fnd u h0 tb pa q na nd rd sr nr3 nc3 nn3 nf3 (nr3 1) (nc3 1) (nn 0) (nf3 1) := by
    refine ⟨?_, fun i j hi hj e => hX0.t1 i j hi hj (by rw [← a1 i hi, ← a1 j hj]; exact e), fun i hi => by rw [a1 i hi]; exact hX0.t2 i hi, fun v => ⟨fun z => (a5 v).1 ((hX0.t3 v).mp ((hs3 v).mp z)), fun z => (a5 v).2 (fun y => z ((hs3 v).mpr ((hX0.t3 v).mpr y)))⟩, a3⟩
    rw [va_up_same (f := nr3) (k := 1) rfl, va_up_same (f := nc3) (k := 1) rfl, va_up_same (f := nf3) (k := 1) rfl, va_up_same u1]
    exact hZ3
  clear hZ1 f1 g1
  refine q_al_n (i := 0) hx hb d_H_work_18 rfl hl rfl ?_
  refine s_callv (r_V 0 [] rfl hx hb hml hown hg (m_H_findHanging l D dA _ _ h0 tb pa q na nd rd sr nr3 nc3 nn3 nf3 (nr3 1) (nc3 1) (nn 0) (nf3 1) hL hF3) (hM.pre hK hX) (hM.recv hK hZ3.1.1 (q := cls.getD 0 (R_H, F_H, 7)) rfl) kw_189 kw_191 ks_3 kw_1 kw_192 (by decide +kernel) ⟨Nat.le_of_ble_eq_true rfl, Nat.le_of_ble_eq_true rfl⟩ rfl rfl hl.sz (by first | exact Nat.le_of_ble_eq_true rfl | simp [rf_cat] | simp [rf_cat, Value.category]) d_H_work_19 ⟨by show _ ≤ 320; omega, by show _ ≤ 10240; omega⟩ rfl) hM (fun u4 H locs hp hM => ?_)
  obtain ⟨r4, c4, n4, f4, hF4, b1, b2, b3⟩ := hp
  have hTT : hp_set (nf3 1) (nn 0) = T := funext fun v => propext (hs3 v)
  rw [hTT, hEE] at b1
  have hZ4 := hF4.1
  have x11 : va_up nn3 1 n4 1 = n4 := va_up_self _ _ _
  have x10 : va_up nn3 1 n4 0 = 0 := by rw [va_up_ne _ _ (by decide), u0]
  have x12 : va_up nn3 1 n4 2 = 0 := by rw [va_up_ne _ _ (by decide), u2]
  have x13 : va_up nn3 1 n4 3 = 0 := by rw [va_up_ne _ _ (by decide), u3]
  have y11 : va_up nf3 1 f4 1 = f4 := va_up_self _ _ _
  have y10 : va_up nf3 1 f4 0 = nf3 0 := va_up_ne _ _ (by decide)
  have z13 : pw (va_up nc3 1 c4 3) := by rw [va_up_ne _ _ (by decide), (a2 3 (by decide)).2.1]; exact hX0.hc 3 (by decide)
  have z12 : pw (va_up nc3 1 c4 2) := by rw [va_up_ne _ _ (by decide), (a2 2 (by decide)).2.1]; exact hX0.hc 2 (by decide)
  have z10 : pw (va_up nc3 1 c4 0) := by rw [va_up_ne _ _ (by decide), (a2 0 (by decide)).2.1]; exact hX0.hc 0 (by decide)
  have z11 : pw (va_up nc3 1 c4 1) := by rw [va_up_self]; exact hF4.2.2.2.2
  have hset4 : ∀ v, hp_set f4 n4 v ↔ gF E T v := b1
  have hinj4 := hF4.2.1
  have hnd4 := hF4.2.2.1
  have h74 := hF4.2.2.2.1
  generalize va_up nn3 1 n4 = nn4 at hZ4 x11 x10 x12 x13
  generalize va_up nf3 1 f4 = nf4 at hZ4 y11 y10
  generalize va_up nc3 1 c4 = nc4 at hZ4 z13 z12 z10 z11
  generalize va_up nr3 1 r4 = nr4 at hZ4
  subst y11
  subst x11
  have hn4 := few_le hL hinj4 hnd4
  refine q_al_n (i := 0) hx hb d_H_work_22 rfl hl rfl ?_
  refine s_callv (r_V 0 [] rfl hx hb hml hown hg (m_H_countWaiting l D dA _ _ h0 tb pa q na nd rd sr nr4 nc4 nn4 nf4 hZ4 hL hinj4 hnd4 (fun v => by have := hlen v; omega) x13 z13) (hM.pre hK hX) (hM.recv hK hZ4.1.1 (q := cls.getD 0 (R_H, F_H, 7)) rfl) kw_193 kw_195 ks_4 kw_1 kw_196 (by decide +kernel) ⟨Nat.le_of_ble_eq_true rfl, Nat.le_of_ble_eq_true rfl⟩ rfl rfl hl.sz (by first | exact Nat.le_of_ble_eq_true rfl | simp [rf_cat] | simp [rf_cat, Value.category]) d_H_work_23 ⟨by show _ ≤ 320; omega, by show _ ≤ 10240; omega⟩ rfl) hM (fun u5 H locs hp hM => ?_)
  obtain ⟨r5, c5, n5, v5, hW5, d1, d2, d3, d4⟩ := hp
  have ew5 : wp u5 nd = wp u4 nd := wp_same d3
  rw [← ew5] at d1 d2
  have hup : ∀ v w, rE rd v w → hp_set (nf4 1) (nn4 1) w → hp_set (nf4 1) (nn4 1) v := by
    intro v w hvw hw
    rw [hset4] at hw ⊢
    rw [hEE] at hvw
    exact (gF_up E T).2 v w hvw hw
  have hwp : ∀ v, hp_set (nf4 1) (nn4 1) v → wp u5 nd v = true := by
    intro v hv
    refine decide_eq_true (Or.inl ?_)
    rw [d3 7 v (by decide), (h74 v).1 hv]; decide
  refine q_al_n (i := 0) hx hb d_H_work_26 rfl hl rfl ?_
  refine s_callv (r_V 0 [] rfl hx hb hml hown hg (m_H_workOutReady l D dA _ _ h0 tb pa q na nd rd sr nr4 nc4 nn4 nf4 r5 c5 n5 v5 hW5 hL hlen hinj4 hnd4 hup hwp x12 z12 d2 d1) (hM.pre hK hX) (hM.recv hK hW5.1.1.1 (q := cls.getD 0 (R_H, F_H, 7)) rfl) kw_210 kw_212 ks_5 kw_1 kw_213 (by decide +kernel) ⟨Nat.le_of_ble_eq_true rfl, Nat.le_of_ble_eq_true rfl⟩ rfl rfl hl.sz (by first | exact Nat.le_of_ble_eq_true rfl | simp [rf_cat] | simp [rf_cat, Value.category]) d_H_work_27 ⟨by show _ ≤ 320; omega, by show _ ≤ 10240; omega⟩ rfl) hM (fun u6 H locs hp hM => ?_)
  obtain ⟨r6, c6, k6, g6, r7, c7, v7, hZ6, p3, p4, p5, p6, p7, p8, p9, p10⟩ := hp
  have k6n : k6 ≤ nn4 1 := inj_le p5 (fun i hi => (p6 i hi).1.1)
  have x61 : va_up (va_up nn4 2 k6) 3 0 1 = nn4 1 := by rw [va_up_ne _ _ (by decide), va_up_ne _ _ (by decide)]
  have x60 : va_up (va_up nn4 2 k6) 3 0 0 = 0 := by rw [va_up_ne _ _ (by decide), va_up_ne _ _ (by decide), x10]
  have x62 : va_up (va_up nn4 2 k6) 3 0 2 = k6 := by rw [va_up_ne _ _ (by decide), va_up_self]
  have x63 : va_up (va_up nn4 2 k6) 3 0 3 = 0 := by rw [va_up_self]
  have y61 : va_up (va_up nf4 2 g6) 3 v7 1 = nf4 1 := by rw [va_up_ne _ _ (by decide), va_up_ne _ _ (by decide)]
  have y62 : va_up (va_up nf4 2 g6) 3 v7 2 = g6 := by rw [va_up_ne _ _ (by decide), va_up_self]
  have z6 : ∀ i, i < 4 → pw (va_up (va_up nc4 2 c6) 3 c7 i) := by
    intro i hi
    by_cases e3 : i = 3
    · rw [e3, va_up_self]; exact p4
    · by_cases e2 : i = 2
      · rw [e2, va_up_ne _ _ (by decide), va_up_self]; exact p3
      · rw [va_up_ne _ _ e3, va_up_ne _ _ e2]
        by_cases e1 : i = 1
        · rw [e1]; exact z11
        · have e0 : i = 0 := by omega
          rw [e0]; exact z10
  generalize va_up (va_up nn4 2 k6) 3 0 = nn6 at hZ6 x61 x60 x62 x63
  generalize va_up (va_up nf4 2 g6) 3 v7 = nf6 at hZ6 y61 y62
  generalize va_up (va_up nc4 2 c6) 3 c7 = nc6 at hZ6 z6
  generalize va_up (va_up nr4 2 r6) 3 r7 = nr6 at hZ6
  refine q_al_n (i := 0) hx hb d_H_work_30 rfl hl rfl ?_
  refine s_callv (r_V 0 [] rfl hx hb hml hown hg (m_H_settleRinged l D dA _ _ h0 tb pa q na nd rd sr nr6 nc6 nn6 nf6 (fun v => cnt (wpk (wp u5 nd) g6 k6) (rd v)) hZ6 (by omega) (by rw [x61, y61]; exact hinj4) (by rw [x61, y61]; exact hnd4) (by rw [x61, y61]; exact fun v hv => ⟨p8 v hv, Nat.lt_of_le_of_lt (cnt_le _ _) (by have := hlen v; omega)⟩) (by omega)) (hM.pre hK hX) (hM.recv hK hZ6.1.1 (q := cls.getD 0 (R_H, F_H, 7)) rfl) kw_239 kw_241 ks_9 kw_1 kw_242 (by decide +kernel) ⟨Nat.le_of_ble_eq_true rfl, Nat.le_of_ble_eq_true rfl⟩ rfl rfl hl.sz (by first | exact Nat.le_of_ble_eq_true rfl | simp [rf_cat] | simp [rf_cat, Value.category]) d_H_work_31 ⟨by show _ ≤ 320; omega, by show _ ≤ 10240; omega⟩ rfl) hM (fun u7 H locs hp hM => ?_)
  obtain ⟨hZ7, s1, s2, s3, s4, s5⟩ := hp
  rw [x61, y61] at s1 s2
  rw [x61, x62] at s4
  have fl6 : ∀ v, fl u5 nd 6 v = fl (kd, rf, it, lg) nd 6 v := by
    intro v
    rw [d3 6 v (by decide), b2 6 v (by decide), a6 6 v (by decide) (by decide), f2]
    exact (Mz_empty hZ (i := 1) (by decide)).2.1 6 v
  have hold : ∀ v, ¬ gF E T v → (gN E v ↔ gN O v) := fun v hv => gN_old (O := O) (T := T) hO2 hv
  have hP : ∀ v, wp u5 nd v = true ↔ hp_set (nf4 1) (nn4 1) v ∨ ¬ gN E v := by
    intro v
    by_cases hv : hp_set (nf4 1) (nn4 1) v
    · exact ⟨fun _ => Or.inl hv, fun _ => hwp v hv⟩
    · have hgf : ¬ gF E T v := fun z => hv ((hset4 v).mpr z)
      have h7v : fl u5 nd 7 v = 0 := by rw [d3 7 v (by decide)]; exact (h74 v).2 hv
      constructor
      · intro h
        right
        rcases of_decide_eq_true h with z | z
        · exact absurd h7v z
        · rw [hold v hgf, ← hO1]
          refine Classical.byContradiction fun y => z ?_
          rw [fl6]; exact (hX0.f6 v).2 y
      · rintro (z | z)
        · exact absurd z hv
        · refine decide_eq_true (Or.inr ?_)
          rw [fl6, (hX0.f6 v).1 ((hO1 v).mpr (by rw [← hold v hgf]; exact z))]; decide
  have hFF : hp_set (nf4 1) (nn4 1) = gF E T := funext fun v => propext (hset4 v)
  have hrun : gR E (gF E T) ((List.range k6).map g6) := by
    rw [hFF, hEE] at p6 p7
    rw [hFF] at hP
    exact gR_of hP p6 p7
  have hwk : ∀ v, gF E T v → (cnt (wpk (wp u5 nd) g6 k6) (rd v) = 0 ↔ gN E v) := by
    intro v hv
    have hm9 := gR_mem hrun (x := v)
    rw [lrm_mem] at hm9
    constructor
    · intro hz
      refine Classical.byContradiction fun z => ?_
      refine p7 v ⟨(hset4 v).mpr hv, fun y => z (hm9.mp y).2, fun w ⟨c, hc⟩ hw => Classical.byContradiction fun y => (cnt_zero.mp hz) c w hc (wpk_iff.mpr ⟨hw, y⟩)⟩
    · intro hn
      obtain ⟨i, hi, e⟩ := hm9.mpr ⟨hv, hn⟩
      refine cnt_zero.mpr (fun c w hc hw => (wpk_iff.mp hw).2 ?_)
      obtain ⟨i', hi', e'⟩ := (p6 i hi).1.2.2 w (by rw [e]; exact ⟨c, hc⟩) (wpk_iff.mp hw).1
      exact ⟨i', by omega, e'⟩
  have hZ7' := hZ7
  obtain ⟨kd7, rf7, it7, lg7⟩ := u7
  obtain ⟨⟨kh7, e07, e17, e27, e37, e47⟩, ⟨kq7, eq7⟩, hG7, hN7, hna7, hnr7⟩ := id hZ7'
  dsimp only at kh7 e07 e17 e27 e37 e47 kq7 eq7
  have hN2 := hN7 2 (by decide)
  have hn2 := hN2.2.2.2.1
  have k2 := hN2.1
  dsimp only at hn2 k2
  refine q_al_n (i := 0) hx hb d_H_work_34 rfl hl rfl ?_
  refine s_getr (C := R_H) (T := F_H) (N := 7) (ci := 0) hx hb hg in_H hown hK hM kh7 rfl 3 (by decide) rfl (hg _ kw_68) (fun _ h9 => h9) d_H_work_35 ?_
  rw [e37]
  refine s_geti (C := R_U) (T := F_U) (N := 2) (ci := 5) hx hb hg in_U hown hK hM k2 rfl 1 (by decide) rfl (hg _ kw_46) (fun _ h9 => h9) d_H_work_38 ?_
  rw [hn2, x62]
  refine W.widen (k := 320) (n := 10240) (by omega) (by omega) ?_
  refine s_iret hx hb hr hM ⟨(List.range k6).map g6, nn4 1 - k6, ⟨tb, pa, q, na, nd, rd, sr, nr6, nc6, nn6, nf6, hZ7, ?_⟩, by simp, hrun, (List.range (nn4 1)).map (nf4 1), lrm_nodup hinj4, fun v => by rw [lrm_mem, hset4], by simp; omega⟩ d_H_work_41 hlocks
  refine ⟨hX0.hE, z6, hX0.hL, hX0.hlen, fun i j hi => by rw [x60] at hi; exact absurd hi (Nat.not_lt_zero i), fun i hi => by rw [x60] at hi; exact absurd hi (Nat.not_lt_zero i), fun v => ⟨fun z => z.elim, fun ⟨i, hi, _⟩ => by rw [x60] at hi; exact absurd hi (Nat.not_lt_zero i)⟩, fun v => ⟨fun z => z.elim, fun _ => ?_⟩, fun v => ?_, x63, by simp [x62], fun i hi => ?_, fun v => ⟨fun z => ?_, fun z => ?_⟩, ⟨E, fun v => Iff.rfl, fun v _ u => Iff.rfl⟩, s4, ?_⟩
  · rw [s3 5 v (by decide) (by decide), p9 5 v (by decide), d3 5 v (by decide), b2 5 v (by decide)]; exact a4 v
  · by_cases hv : hp_set (nf4 1) (nn4 1) v
    · exact (s1 v hv).1
    · rw [s2 7 v hv, p9 7 v (by decide), d3 7 v (by decide)]; exact (h74 v).2 hv
  · rw [x62] at hi
    rw [lrm_at, if_pos hi, y62]
  · by_cases hv : hp_set (nf4 1) (nn4 1) v
    · rw [(s1 v hv).2, if_neg (fun y => z ((hwk v ((hset4 v).mp hv)).mp y))]
    · have hgf : ¬ gF E T v := fun z => hv ((hset4 v).mpr z)
      rw [s2 6 v hv, p9 6 v (by decide), fl6]
      exact (hX0.f6 v).1 ((hO1 v).mpr (by rw [← hold v hgf]; exact z))
  · by_cases hv : hp_set (nf4 1) (nn4 1) v
    · rw [(s1 v hv).2, if_pos ((hwk v ((hset4 v).mp hv)).mpr (Classical.byContradiction z))]
    · have hgf : ¬ gF E T v := fun z => hv ((hset4 v).mpr z)
      rw [s2 6 v hv, p9 6 v (by decide), fl6]
      exact (hX0.f6 v).2 (fun y => z (fun q9 => (hO1 v).mp y ((hold v hgf).mp q9)))
  · rw [s5, p10, d4, b3, a7]
    have e5 : up2 (up2 it (na 1) 1 0) (na 2) 1 0 h0 5 = it h0 5 := (g2 5).trans ((Mz_empty hZ (i := 1) (by decide)).2.2 5)
    show ∃ z : Int, up2 (up2 it (na 1) 1 0) (na 2) 1 0 h0 5 = _ ∧ _
    rw [e5]; exact hX0.c5
