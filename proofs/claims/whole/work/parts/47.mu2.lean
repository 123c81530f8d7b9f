theorem Ho_cost {S u1 : sS} {h0 tb pa q : Nat} {na : Nat → Nat} {nd : Nat → Option Nat} {rd sr : Nat → List (Nat × Nat)} {nr nc nn : Nat → Nat} {nf : Nat → Nat → Nat} {mm : Nat} {E : Nat → Nat → Prop} {T Rg : Nat → Prop} {wl : List Nat} {rc : Nat} {nd' : Nat → Option Nat} {rd' sr' : Nat → List (Nat × Nat)} {v a : Nat} (hX0 : HoX S h0 mm E T Rg wl rc nd rd sr nc nn nf) (hZ1 : Mz u1 h0 tb pa q na nd' rd' sr' nr nc nn nf) (hL' : fewN nd' (2 * (mm + 1))) (hmono : ∀ x b, nd x = some b → nd' x = some b) (hfl : ∀ i x, 5 ≤ i → fl u1 nd' i x = fl S nd i x) (hm : mm ≤ 511) (hv : nd' v = some a) : (if u1.2.2.1 a 5 = 0 ∧ ¬ nn 0 < nc 0 then 1 else 0) ≤ 1 ∧ (if u1.2.2.1 a 5 = 0 ∧ ¬ nn 0 < nc 0 then 2 * nn 0 else 0) ≤ 1024 ∧ nn 0 < 16384 :=
  have hc := touch_cost hZ1 (fewN_le hL' (by omega)) hX0.t1 (fun i hi => by obtain ⟨b, hb⟩ := Option.ne_none_iff_exists'.mp (hX0.t2 i hi); rw [hmono _ b hb]; exact fun z => by cases z) hX0.t3 (fun x => by rw [hfl 5 x (by decide)]; exact hX0.f5 x) (hX0.hc 0 (by decide)) hv
  ⟨hc.1, hc.2, by
    have h1 : nn 0 ≤ nc 0 := (hZ1.2.2.2.1 0 (by decide)).2.2.2.2.1
    have h2 := hX0.hc 0 (by decide)
    omega⟩
theorem Ho_fin {u : sS} {S u1 : sS} {h0 tb pa q : Nat} {na : Nat → Nat} {nd : Nat → Option Nat} {rd sr : Nat → List (Nat × Nat)} {nr nc nn : Nat → Nat} {nf : Nat → Nat → Nat} {mm : Nat} {E E' : Nat → Nat → Prop} {T Rg : Nat → Prop} {wl : List Nat} {rc : Nat} {nd' : Nat → Option Nat} {rd' sr' : Nat → List (Nat × Nat)} {v a : Nat} (hX0 : HoX S h0 mm E T Rg wl rc nd rd sr nc nn nf) (hZ1 : Mz u1 h0 tb pa q na nd' rd' sr' nr nc nn nf) (hL' : fewN nd' (2 * (mm + 1))) (hmono : ∀ x b, nd x = some b → nd' x = some b) (hfl : ∀ i x, 5 ≤ i → fl u1 nd' i x = fl S nd i x) (hm : mm ≤ 511) (hv : nd' v = some a) (hE' : ∀ x y, E' x y ↔ rE rd' x y) (hlen' : ∀ x, (rd' x).length ≤ mm + 1 ∧ (sr' x).length ≤ mm + 1) (h06 : u1.2.2.1 h0 6 = S.2.2.1 h0 6) (hc5 : ∃ z : Int, u1.2.2.1 h0 5 = Int32.ofInt z ∧ -(1024 * ((mm + 1 : Nat) : Int)) ≤ z ∧ z ≤ ((mm + 1 : Nat) : Int)) (hEo : ∀ x, x ≠ v → ∀ y, E' x y ↔ E x y) (hM : MarkTouchedP u1 a (na 0) (nr 0) (nc 0) (nn 0) (nf 0) v u) :
    Ho u h0 (mm + 1) E' (fun x => T x ∨ x = v) Rg wl rc := by
  obtain ⟨nr2, nc2, nn2, nf2, hZ2, b1, b2, b3, b4, b5, b6, b7, b8⟩ := touch_step (T := T) hZ1 (fewN_le hL' (by omega)) hX0.t1 (fun i hi => by obtain ⟨b, hb⟩ := Option.ne_none_iff_exists'.mp (hX0.t2 i hi); rw [hmono _ b hb]; exact fun z => by cases z) hX0.t3 (fun x => by rw [hfl 5 x (by decide)]; exact hX0.f5 x) (hX0.hc 0 (by decide)) hv hM
  obtain ⟨O, hO1, hO2⟩ := hX0.old
  refine ⟨tb, pa, q, na, nd', rd', sr', nr2, nc2, nn2, nf2, hZ2, hE', fun i hi => ?_, hL', hlen', b1, b2, b3, b4, fun x => ?_, ?_, ?_, fun i hi => ?_, fun x => ?_, ⟨O, hO1, fun x hx y => ?_⟩, ?_, ?_⟩
  · by_cases e : i = 0
    · rw [e]; exact b5
    · rw [(b6 i e).2.2]; exact hX0.hc i hi
  · rw [b7 7 x (by decide), hfl 7 x (by decide)]; exact hX0.f7 x
  · rw [(b6 3 (by decide)).1]; exact hX0.n3
  · rw [(b6 2 (by decide)).1]; exact hX0.n2
  · rw [(b6 2 (by decide)).1] at hi
    rw [(b6 2 (by decide)).2.1]; exact hX0.w2 i hi
  · rw [b7 6 x (by decide), hfl 6 x (by decide)]; exact hX0.f6 x
  · rw [hEo x (fun z => hx (Or.inr z)) y]
    exact hO2 x (fun z => hx (Or.inl z)) y
  · rw [b8, h06]; exact hX0.c6
  · rw [b8]; exact hc5
theorem ch_self {rf : Nat → Nat → Option Nat} {fp fn : Nat} {first : Option Nat} {l : List Nat} (h : chI rf fp fn first l) (hn : l.Nodup) {k : Nat} (hk : k ∈ l) : rf k fn ≠ some k ∧ rf k fp ≠ some k := by
  obtain ⟨i, hi⟩ := List.getElem?_of_mem hk
  obtain ⟨a, b⟩ := h.2 i k hi
  constructor
  · intro z
    rw [a] at z
    have := nd_ij hn hi z
    omega
  · intro z
    rw [b] at z
    by_cases e : i = 0
    · rw [if_pos e] at z; cases z
    · rw [if_neg e] at z
      have := nd_ij hn hi z
      omega
/-- what loosen asks -/
theorem Gr9_lo {S : sS} {tb pa : Nat} {nd : Nat → Option Nat} {rd sr : Nat → List (Nat × Nat)} (h : Gr9 S tb pa nd rd sr) {v w k : Nat} (hk : (k, w) ∈ rd v) : (∀ i y, 2 ≤ i → i ≤ 5 → S.2.1 k i = some y → S.1 y = some (.inl 4)) ∧ ∀ i, 2 ≤ i → i ≤ 5 → S.2.1 k i ≠ some k := by
  obtain ⟨d1, ⟨a, d2, d3⟩, ⟨b, d4, d5⟩, d6⟩ := h.2.2.2.1 v k w hk
  have m1 : k ∈ (rd v).map Prod.fst := mem_fs.mpr ⟨w, hk⟩
  have m2 : k ∈ (sr w).map Prod.fst := mem_fs.mpr ⟨v, d6⟩
  have c1 := (h.c1 v a d2).1
  have c2 := (h.c2 w b d4).1
  have s1 := ch_self c1 (h.2.2.1 v).1 m1
  have s2 := ch_self c2 (h.2.2.1 w).2.1 m2
  have hi : ∀ i, 2 ≤ i → i ≤ 5 → i = 2 ∨ i = 3 ∨ i = 4 ∨ i = 5 := fun i _ _ => by omega
  refine ⟨fun i y q1 q2 hy => ?_, fun i q1 q2 => ?_⟩
  · rcases hi i q1 q2 with e | e | e | e
    · rw [e] at hy; exact h.lk1 v y (ch_mem c1 m1 (Or.inr hy))
    · rw [e] at hy; exact h.lk1 v y (ch_mem c1 m1 (Or.inl hy))
    · rw [e] at hy; exact h.lk2 w y (ch_mem c2 m2 (Or.inr hy))
    · rw [e] at hy; exact h.lk2 w y (ch_mem c2 m2 (Or.inl hy))
  · rcases hi i q1 q2 with e | e | e | e
    · rw [e]; exact s1.2
    · rw [e]; exact s1.1
    · rw [e]; exact s2.2
    · rw [e]; exact s2.1
theorem oI_add (z : Int) : Int32.ofInt z + 1 = Int32.ofInt (z + 1) := (Int32.ofInt_add z 1).symm
theorem oI_sub (z : Int) (n : Nat) : Int32.ofInt z - nI n = Int32.ofInt (z - n) := by
  rw [Int32.ofInt_sub]; rfl
theorem oI_lt {z : Int} (h1 : -1000000 ≤ z) (h2 : z ≤ 1000) : Int32.ofInt z < 65536 := by
  rw [Int32.lt_iff_toInt_lt, Int32.toInt_ofInt_of_le (by omega) (by omega)]
  have : (65536 : Int32).toInt = 65536 := by decide
  omega
set_option maxHeartbeats 4000000 in
set_option maxRecDepth 100000 in
theorem m_H_touch (l : Launch) (D : va_G) (dA : Nat → ClassId) (S : sS) (sz : Nat) (h0 mm : Nat) (E : Nat → Nat → Prop) (T Rg : Nat → Prop) (wl : List Nat) (rc : Nat) (v : Nat) (hH : Ho S h0 mm E T Rg wl rc) (hm : mm ≤ 511) (hv9 : v < 16384) :
    cV l y_H_touch c_H_touch 2 (rmk 4 8 2048) D dA S sz [.ref h0, .int (nI v)] (fun u => Ho u h0 (mm + 1) E (fun x => T x ∨ x = v) Rg wl rc) (8) (2048) := by
  obtain ⟨tb, pa, q, na, nd, rd, sr, nr, nc, nn, nf, hZ, hX0⟩ := hH
  have hin9 : vp_in (nI v) 16384 := vp_in_nI hv9 (by omega)
  obtain ⟨z5, hz1, hz2, hz3⟩ := hX0.c5
  obtain ⟨kd, rf, it, lg⟩ := S
  obtain ⟨⟨kh, e0, e1, e2, e3, e4⟩, ⟨kq, eq⟩, hG, hN, hna, hnr⟩ := id hZ
  dsimp only at kh e0 e1 e2 e3 e4 kq eq
  dsimp only at hz1
  refine s_met (cc := c_H_touch) (maxL := 2) (by decide) rfl (by simp [Value.category]) (by simp [lg_sl, Value.category]) ?_
  intro p e s m args below meth c ls hx hb hr hts hown hlocks hin hml hK hX hsz hM hl
  have hg := gd_hts hts
  have hl : lc ls 2 [some (va_rf (some h0)), some (.int (nI v))] := hl
  refine q_iload_n (i := 1) hx hb d_H_touch_0 rfl hl rfl ?_
  refine s_callv (r_S 1 [.int (nI v)] rfl hx hb hml hown hg (m_H_requireNode l D dA _ _ (nI v) hin9) (hM.pre hK hX) kw_280 kw_281 kw_1 kw_282 (by decide +kernel) ⟨Nat.le_of_ble_eq_true rfl, Nat.le_of_ble_eq_true rfl⟩ rfl rfl hl.sz (by first | exact Nat.le_of_ble_eq_true rfl | simp [rf_cat] | simp [rf_cat, Value.category]) d_H_touch_1 ⟨by show _ ≤ 8; omega, by show _ ≤ 2048; omega⟩ rfl) hM (fun u H locs hp hM => ?_)
  subst hp
  refine q_al_n (i := 0) hx hb d_H_touch_4 rfl hl rfl ?_
  refine q_al_n (i := 0) hx hb d_H_touch_5 rfl hl rfl ?_
  refine s_getr (C := R_H) (T := F_H) (N := 7) (ci := 0) hx hb hg in_H hown hK hM kh rfl 0 (by decide) rfl (hg _ kw_65) (fun _ h9 => h9) d_H_touch_6 ?_
  rw [e0]
  refine q_iload_n (i := 1) hx hb d_H_touch_9 rfl hl rfl ?_
  refine s_callq (r_V 1 [.int (nI v)] rfl hx hb hml hown hg (m_T_ofN l D dA _ _ tb pa nd v hG.1 hv9) (hM.pre hK hX) (hM.recv hK hG.1.1 (q := cls.getD 1 (R_H, F_H, 7)) rfl) kw_107 kw_108 kw_109 kw_2 kw_110 (by decide +kernel) ⟨Nat.le_of_ble_eq_true rfl, Nat.le_of_ble_eq_true rfl⟩ rfl rfl hl.sz (by first | exact Nat.le_of_ble_eq_true rfl | simp [rf_cat] | simp [rf_cat, Value.category]) d_H_touch_10 ⟨by show _ ≤ 8; omega, by show _ ≤ 2048; omega⟩ rfl) hM (fun r1 u H locs hp hM => ?_)
  obtain ⟨a, rfl, hO⟩ := hp
  obtain ⟨hZ1, f1, mono1, g1⟩ := Mz_of hZ hO
  have hna : va_up nd v (some a) v = some a := va_up_self _ _ _
  have hL1 : fewN (va_up nd v (some a)) (2 * (mm + 1)) := fewN_le (fewN_up hX0.hL) (by omega)
  obtain ⟨hq1, hq2, hq3⟩ := Ho_cost hX0 hZ1 hL1 mono1 (fun i x hi => f1 i x (by omega)) hm hna
  obtain ⟨kd1, rf1, it1, lg1⟩ := u
  refine s_callv (r_V 1 [.ref a] rfl hx hb hml hown hg (m_H_markTouched l D dA _ _ h0 tb (na 0) (na 1) (na 2) q a (nr 0) (nc 0) (nn 0) v (nf 0) hZ1.1 (hZ1.2.2.1.nk hna).2.1 (hZ1.2.2.1.nk hna).2.2 (hZ1.2.2.2.1 0 (by decide)) hq3) (hM.pre hK hX) (hM.recv hK hZ1.1.1 (q := cls.getD 0 (R_H, F_H, 7)) rfl) kw_412 kw_414 ks_14 kw_1 kw_415 (by decide +kernel) ⟨Nat.le_of_ble_eq_true rfl, Nat.le_of_ble_eq_true rfl⟩ rfl rfl hl.sz (by first | exact Nat.le_of_ble_eq_true rfl | simp [rf_cat] | simp [rf_cat, Value.category]) d_H_touch_13 ⟨by show _ ≤ 8; omega, by show _ ≤ 2048; omega⟩ rfl) hM (fun u9 H locs hp hM => ?_)
  refine W.widen (k := 8) (n := 2048) (by omega) (by omega) ?_
  refine s_vret hx hb hr hM ?_ d_H_touch_16 hlocks
  refine Ho_fin hX0 hZ1 hL1 mono1 (fun i x hi => f1 i x (by omega)) hm hna hX0.hE (fun x => ⟨Nat.le_succ_of_le (hX0.hlen x).1, Nat.le_succ_of_le (hX0.hlen x).2⟩) (g1 6) ⟨z5, by rw [g1 5]; exact hz1, by omega, by omega⟩ (fun x _ y => Iff.rfl) hp
/-- what link does -/
def LinkP (h0 mm : Nat) (E : Nat → Nat → Prop) (T Rg : Nat → Prop) (wl : List Nat) (rc v t : Nat) (x : Int32) (u : sS) : Prop :=
  (E v t ∧ x = 0 ∧ Ho u h0 (mm + 1) E T Rg wl rc) ∨ (¬ E v t ∧ x = 1 ∧ Ho u h0 (mm + 1) (fun a b => E a b ∨ (a = v ∧ b = t)) (fun a => T a ∨ a = v) Rg wl rc)
set_option maxHeartbeats 4000000 in
set_option maxRecDepth 100000 in
theorem m_H_link (l : Launch) (D : va_G) (dA : Nat → ClassId) (S : sS) (sz : Nat) (h0 mm : Nat) (E : Nat → Nat → Prop) (T Rg : Nat → Prop) (wl : List Nat) (rc : Nat) (v t : Nat) (hH : Ho S h0 mm E T Rg wl rc) (hm : mm ≤ 511) (hv9 : v < 16384) (ht9 : t < 16384) :
    cI l y_H_link c_H_link 4 (some .boolean) (rmk 4 8 2048) D dA S sz [.ref h0, .int (nI v), .int (nI t)] (LinkP h0 mm E T Rg wl rc v t) (8) (2048) := by
  have hH' := Ho_mono hH (Nat.le_succ mm)
  obtain ⟨tb, pa, q, na, nd, rd, sr, nr, nc, nn, nf, hZ, hX0⟩ := hH
  have hin9 : vp_in (nI v) 16384 := vp_in_nI hv9 (by omega)
  obtain ⟨z5, hz1, hz2, hz3⟩ := hX0.c5
  obtain ⟨kd, rf, it, lg⟩ := S
  obtain ⟨⟨kh, e0, e1, e2, e3, e4⟩, ⟨kq, eq⟩, hG, hN, hna, hnr⟩ := id hZ
  dsimp only at kh e0 e1 e2 e3 e4 kq eq
  dsimp only at hz1
  have hin8 : vp_in (nI t) 16384 := vp_in_nI ht9 (by omega)
  refine s_met (cc := c_H_link) (maxL := 4) (by decide) rfl (by simp [Value.category]) (by simp [lg_sl, Value.category]) ?_
  intro p e s m args below meth c ls hx hb hr hts hown hlocks hin hml hK hX hsz hM hl
  have hg := gd_hts hts
  have hl : lc ls 4 [some (va_rf (some h0)), some (.int (nI v)), some (.int (nI t)), none] := hl
  refine q_iload_n (i := 1) hx hb d_H_link_0 rfl hl rfl ?_
  refine s_callv (r_S 1 [.int (nI v)] rfl hx hb hml hown hg (m_H_requireNode l D dA _ _ (nI v) hin9) (hM.pre hK hX) kw_280 kw_281 kw_1 kw_282 (by decide +kernel) ⟨Nat.le_of_ble_eq_true rfl, Nat.le_of_ble_eq_true rfl⟩ rfl rfl hl.sz (by first | exact Nat.le_of_ble_eq_true rfl | simp [rf_cat] | simp [rf_cat, Value.category]) d_H_link_1 ⟨by show _ ≤ 8; omega, by show _ ≤ 2048; omega⟩ rfl) hM (fun u H locs hp hM => ?_)
  subst hp
  refine q_iload_n (i := 2) hx hb d_H_link_4 rfl hl rfl ?_
  refine s_callv (r_S 1 [.int (nI t)] rfl hx hb hml hown hg (m_H_requireNode l D dA _ _ (nI t) hin8) (hM.pre hK hX) kw_280 kw_281 kw_1 kw_282 (by decide +kernel) ⟨Nat.le_of_ble_eq_true rfl, Nat.le_of_ble_eq_true rfl⟩ rfl rfl hl.sz (by first | exact Nat.le_of_ble_eq_true rfl | simp [rf_cat] | simp [rf_cat, Value.category]) d_H_link_5 ⟨by show _ ≤ 8; omega, by show _ ≤ 2048; omega⟩ rfl) hM (fun u H locs hp hM => ?_)
  subst hp
  refine q_al_n (i := 0) hx hb d_H_link_8 rfl hl rfl ?_
  refine q_iload_n (i := 1) hx hb d_H_link_9 rfl hl rfl ?_
  refine q_iload_n (i := 2) hx hb d_H_link_10 rfl hl rfl ?_
  refine s_callq (r_V 2 [.int (nI v), .int (nI t)] rfl hx hb hml hown hg (m_H_linkBetween l D dA _ _ h0 tb (na 0) (na 1) (na 2) q pa nd rd sr v t hZ.1 hG hv9 ht9) (hM.pre hK hX) (hM.recv hK kh (q := cls.getD 0 (R_H, F_H, 7)) rfl) kw_350 kw_352 ks_11 kw_1 kw_353 (by decide +kernel) ⟨Nat.le_of_ble_eq_true rfl, Nat.le_of_ble_eq_true rfl⟩ rfl rfl hl.sz (by first | exact Nat.le_of_ble_eq_true rfl | simp [rf_cat] | simp [rf_cat, Value.category]) d_H_link_11 ⟨by show _ ≤ 8; omega, by show _ ≤ 2048; omega⟩ rfl) hM (fun r1 u H locs hp hM => ?_)
  obtain ⟨rfl, hp⟩ := hp
  refine q_ifnull (tgt := 19) hx hb d_H_link_14 (by decide) (fun c1 => ?_) (fun y c1 => ?_)
  · have hno : ¬ rE rd v t := by
      rcases hp with ⟨-, z⟩ | ⟨k, z, -⟩
      · exact z
      · rw [c1] at z; cases z
    refine q_al_n (i := 0) hx hb d_H_link_19 rfl hl rfl ?_
    refine s_geti (C := R_H) (T := F_H) (N := 7) (ci := 0) hx hb hg in_H hown hK hM kh rfl 5 (by decide) rfl (hg _ kw_70) (fun _ h9 => h9) d_H_link_20 ?_
    rw [hz1]
    refine lv_ldc (v := 65536) hx hb hown (hg _ kw_354) d_H_link_23 ?_
    refine lv_icmp_lt (tgt := 38) hx hb d_H_link_25 (by decide) (fun c2 => ?_) (fun c2 => ?_)
    · refine q_al_n (i := 0) hx hb d_H_link_38 rfl hl rfl ?_
      refine s_getr (C := R_H) (T := F_H) (N := 7) (ci := 0) hx hb hg in_H hown hK hM kh rfl 0 (by decide) rfl (hg _ kw_65) (fun _ h9 => h9) d_H_link_39 ?_
      rw [e0]
      refine q_iload_n (i := 1) hx hb d_H_link_42 rfl hl rfl ?_
      refine s_callq (r_V 1 [.int (nI v)] rfl hx hb hml hown hg (m_T_ofN l D dA _ _ tb pa nd v hG.1 hv9) (hM.pre hK hX) (hM.recv hK hG.1.1 (q := cls.getD 1 (R_H, F_H, 7)) rfl) kw_107 kw_108 kw_109 kw_2 kw_110 (by decide +kernel) ⟨Nat.le_of_ble_eq_true rfl, Nat.le_of_ble_eq_true rfl⟩ rfl rfl hl.sz (by first | exact Nat.le_of_ble_eq_true rfl | simp [rf_cat] | simp [rf_cat, Value.category]) d_H_link_43 ⟨by show _ ≤ 8; omega, by show _ ≤ 2048; omega⟩ rfl) hM (fun r2 u1 H locs hp9 hM => ?_)
      obtain ⟨a, rfl, hO⟩ := hp9
      obtain ⟨hZ1, f1, mono1, g1⟩ := Mz_of hZ hO
      have hna1 : va_up nd v (some a) v = some a := va_up_self _ _ _
      refine q_astore_n (i := 3) hx hb (_) d_H_link_46 rfl hl (by decide) (fun ls hl => ?_)
      simp only [List.set_cons_succ, List.set_cons_zero] at hl
      refine s_new (C := R_K) (T := F_K) (N := 6) (ci := 4) hx hb hg in_K ft_K ft_K_ok hown (hg _ kw_371) (hg _ kw_372) (hg _ kw_13) hK hM rfl df_K (by show _ ≤ 8; omega) (by show _ ≤ 2048; omega) d_H_link_47 (fun k H hk hM => ?_)
      obtain ⟨hZ2, f2, g2⟩ := Mz_new hZ1 (K := .inl 4) hk
      have kk2 : (sNew u1 k (.inl 4)).1 k = some (.inl 4) := va_up_self _ _ _
      have kr2 : (sNew u1 k (.inl 4)).2.1 k = fun _ => none := upr_self _ _ _
      have ki2 : (sNew u1 k (.inl 4)).2.2.1 k = fun _ => 0 := upr_self _ _ _
      have hkn : ∀ x y, (k, y) ∉ rd x := fun x y z => by
        have := (hZ1.2.2.1.2.2.2.1 x k y z).1
        rw [hk] at this; cases this
      generalize sNew u1 k (.inl 4) = u2 at hZ2 f2 g2 kk2 kr2 ki2 hM
      have kh2 := hZ2.1.1
      have e02 := hZ2.1.2.1
      obtain ⟨kd2, rf2, it2, lg2⟩ := u2
      dsimp only at kh2 e02 kk2 kr2 ki2
      refine lv_dup hx hb d_H_link_50 rfl ?_
      refine q_al_n (i := 3) hx hb d_H_link_51 rfl hl rfl ?_
      refine q_al_n (i := 0) hx hb d_H_link_52 rfl hl rfl ?_
      refine s_getr (C := R_H) (T := F_H) (N := 7) (ci := 0) hx hb hg in_H hown hK hM kh2 rfl 0 (by decide) rfl (hg _ kw_65) (fun _ h9 => h9) d_H_link_53 ?_
      rw [e02]
      refine q_iload_n (i := 2) hx hb d_H_link_56 rfl hl rfl ?_
      refine s_callq (r_V 1 [.int (nI t)] rfl hx hb hml hown hg (m_T_ofN l D dA _ _ tb pa _ t hZ2.2.2.1.1 ht9) (hM.pre hK hX) (hM.recv hK hZ2.2.2.1.1.1 (q := cls.getD 1 (R_H, F_H, 7)) rfl) kw_107 kw_108 kw_109 kw_2 kw_110 (by decide +kernel) ⟨Nat.le_of_ble_eq_true rfl, Nat.le_of_ble_eq_true rfl⟩ rfl rfl hl.sz (by first | exact Nat.le_of_ble_eq_true rfl | simp [rf_cat] | simp [rf_cat, Value.category]) d_H_link_57 ⟨by show _ ≤ 8; omega, by show _ ≤ 2048; omega⟩ rfl) hM (fun r2 u3 H locs hp9 hM => ?_)
      obtain ⟨b, rfl, hO3⟩ := hp9
      obtain ⟨hZ3, f3, mono3, g3⟩ := Mz_of hZ2 hO3
      have hna : va_up (va_up nd v (some a)) t (some b) v = some a := mono3 v a hna1
      have hnb : va_up (va_up nd v (some a)) t (some b) t = some b := va_up_self _ _ _
      have hL3 : fewN (va_up (va_up nd v (some a)) t (some b)) (2 * (mm + 1)) := fewN_le (fewN_up (fewN_up hX0.hL)) (by omega)
      have hkRA : ¬ isRA (kd2, rf2, it2, lg2) k := fun ⟨t9, n9, h9, _⟩ => by rw [show (kd2, rf2, it2, lg2).1 k = kd2 k from rfl, kk2] at h9; cases h9
      have hk3 := hO3.2.2.1 k (show kd2 k ≠ none by rw [kk2]; exact fun z => by cases z)
      have kk3 : u3.1 k = some (.inl 4) := hk3.1.trans kk2
      have kr3 : u3.2.1 k = fun _ => none := (hk3.2 hkRA).1.trans kr2
      have ki3 : u3.2.2.1 k = fun _ => 0 := (hk3.2 hkRA).2.1.trans ki2
      generalize va_up (va_up nd v (some a)) t (some b) = nd3 at hZ3 f3 mono3 hna hnb hL3
      clear hO3 hO
      refine s_callv (r_I 2 [.ref a, .ref b] rfl hx hb hml hown hg (m_K_init l D dA _ _ k a b kk3) (hM.pre hK hX) rfl kw_373 kw_374 kw_13 kw_375 (by decide +kernel) ⟨Nat.le_of_ble_eq_true rfl, Nat.le_of_ble_eq_true rfl⟩ rfl rfl hl.sz (by first | exact Nat.le_of_ble_eq_true rfl | simp [rf_cat] | simp [rf_cat, Value.category]) d_H_link_60 ⟨by show _ ≤ 8; omega, by show _ ≤ 2048; omega⟩ rfl) hM (fun u4 H locs hp9 hM => ?_)
      have ka3 := (hZ3.2.2.1.nk hna).2.1
      have kb3 := (hZ3.2.2.1.nk hnb).2.1
      have k4 : u4.1 = u3.1 := by rw [hp9]
      have rk0 : u4.2.1 k 0 = some a := by rw [hp9]; show up2 (up2 u3.2.1 k 0 (some a)) k 1 (some b) k 0 = _; rw [up2_ne _ _ (by decide), up2_self]
      have rk1 : u4.2.1 k 1 = some b := by rw [hp9]; show up2 (up2 u3.2.1 k 0 (some a)) k 1 (some b) k 1 = _; rw [up2_self]
      have hfa : ∀ y, u4.2.1 a 1 = some y → u4.1 y = some (.inl 4) := by
        intro y hy
        have hak : a ≠ k := sk_d ka3 kk3 (by decide)
        rw [hp9] at hy
        have hy' : up2 (up2 u3.2.1 k 0 (some a)) k 1 (some b) a 1 = some y := hy
        rw [up2_off _ _ hak, up2_off _ _ hak] at hy'
        rw [k4]
        exact hZ3.2.2.1.lk1 v y (ch_first (hZ3.2.2.1.c1 v a hna).1 hy')
      have hfb : ∀ y, u4.2.1 b 2 = some y → u4.1 y = some (.inl 4) := by
        intro y hy
        have hbk : b ≠ k := sk_d kb3 kk3 (by decide)
        rw [hp9] at hy
        have hy' : up2 (up2 u3.2.1 k 0 (some a)) k 1 (some b) b 2 = some y := hy
        rw [up2_off _ _ hbk, up2_off _ _ hbk] at hy'
        rw [k4]
        exact hZ3.2.2.1.lk2 t y (ch_first (hZ3.2.2.1.c2 t b hnb).1 hy')
      refine s_callv (r_V 0 [] rfl hx hb hml hown hg (m_K_fasten l D dA _ _ k a b hfa hfb (by rw [k4]; exact kk3) (by rw [k4]; exact ka3) (by rw [k4]; exact kb3) rk0 rk1) (hM.pre hK hX) (hM.recv hK (show u4.1 k = some (.inl 4) by rw [k4]; exact kk3) (q := cls.getD 4 (R_H, F_H, 7)) rfl) kw_400 kw_401 kw_402 kw_13 kw_403 (by decide +kernel) ⟨Nat.le_of_ble_eq_true rfl, Nat.le_of_ble_eq_true rfl⟩ rfl rfl hl.sz (by first | exact Nat.le_of_ble_eq_true rfl | simp [rf_cat] | simp [rf_cat, Value.category]) d_H_link_63 ⟨by show _ ≤ 8; omega, by show _ ≤ 2048; omega⟩ rfl) hM (fun u6 H locs hp8 hM => ?_)
      obtain ⟨u5, hJ1, hJ2⟩ := hp8
      obtain ⟨gG, gF, gI, gK, gE⟩ := Gr9_link hZ3.2.2.1 hna hnb kk3 (fun i _ => by rw [kr3]) hkn hno hp9 hJ1 hJ2
      obtain ⟨hZ6, g6⟩ := Mz_gr hZ3 (gF.weak (fun b _ z => Or.inl z)) gG
      have f6 : ∀ i x, 5 ≤ i → fl u6 nd3 i x = fl u3 nd3 i x := by
        intro i x hi
        cases hx9 : nd3 x with
        | none => rw [fl_no hx9, fl_no hx9]
        | some c9 => rw [fl_at hx9, fl_at hx9, gI x c9 i hx9 (by omega) (by omega)]
      have hflA : ∀ i x, 5 ≤ i → fl u6 nd3 i x = fl (kd, rf, it, lg) nd i x := fun i x hi => by
        rw [f6 i x hi, f3 i x (by omega), f2, f1 i x (by omega)]
      have hgA : ∀ i, u6.2.2.1 h0 i = it h0 i := fun i => by rw [g6, g3, g2, g1]
      have hmono : ∀ x b, nd x = some b → nd3 x = some b := fun x b hx => mono3 x b (mono1 x b hx)
      clear hJ1 hJ2 gK
      obtain ⟨kd6, rf6, it6, lg6⟩ := u6
      have kh6 := hZ6.1.1
      have e56 : it6 h0 5 = Int32.ofInt z5 := (hgA 5).trans hz1
      dsimp only at kh6
      refine q_al_n (i := 0) hx hb d_H_link_66 rfl hl rfl ?_
      refine lv_dup hx hb d_H_link_67 rfl ?_
      refine s_geti (C := R_H) (T := F_H) (N := 7) (ci := 0) hx hb hg in_H hown hK hM kh6 rfl 5 (by decide) rfl (hg _ kw_70) (fun _ h9 => h9) d_H_link_68 ?_
      rw [e56]
      refine lv_iconst (v := 1) hx hb d_H_link_71 (by decide) ?_
      refine lv_iadd hx hb d_H_link_72 ?_
      rw [oI_add]
      refine s_puti (C := R_H) (T := F_H) (N := 7) (ci := 0) hx hb hg in_H ft_H ft_H_ok fn_H hown hK hM kh6 rfl 5 (by decide) rfl (hg _ kw_70) (fun _ h9 => h9) rfl rfl rfl d_H_link_73 (fun H locs hM => ?_)
      obtain ⟨hZ7, f7⟩ := Mz_own hZ6 5 (Int32.ofInt (z5 + 1))
      dsimp only at hZ7 f7
      have hflB : ∀ i x, 5 ≤ i → fl (kd6, rf6, up2 it6 h0 5 (Int32.ofInt (z5 + 1)), lg6) nd3 i x = fl (kd, rf, it, lg) nd i x := fun i x hi => by rw [f7, hflA i x hi]
      obtain ⟨hq1, hq2, hq3⟩ := Ho_cost hX0 hZ7 hL3 hmono hflB hm hna
      refine q_al_n (i := 0) hx hb d_H_link_76 rfl hl rfl ?_
      refine q_al_n (i := 3) hx hb d_H_link_77 rfl hl rfl ?_
      refine s_callv (r_V 1 [.ref a] rfl hx hb hml hown hg (m_H_markTouched l D dA _ _ h0 tb (na 0) (na 1) (na 2) q a (nr 0) (nc 0) (nn 0) v (nf 0) hZ7.1 (hZ7.2.2.1.nk hna).2.1 (hZ7.2.2.1.nk hna).2.2 (hZ7.2.2.2.1 0 (by decide)) hq3) (hM.pre hK hX) (hM.recv hK hZ7.1.1 (q := cls.getD 0 (R_H, F_H, 7)) rfl) kw_412 kw_414 ks_14 kw_1 kw_415 (by decide +kernel) ⟨Nat.le_of_ble_eq_true rfl, Nat.le_of_ble_eq_true rfl⟩ rfl rfl hl.sz (by first | exact Nat.le_of_ble_eq_true rfl | simp [rf_cat] | simp [rf_cat, Value.category]) d_H_link_78 ⟨by show _ ≤ 8; omega, by show _ ≤ 2048; omega⟩ rfl) hM (fun u9 H locs hpm hM => ?_)
      refine lv_iconst (v := 1) hx hb d_H_link_81 (by decide) ?_
      refine W.widen (k := 8) (n := 2048) (by omega) (by omega) ?_
      refine s_zret hx hb hr rfl hM (Or.inr ⟨fun z => hno ((hX0.hE v t).mp z), rfl, ?_⟩) d_H_link_82 hlocks
      refine Ho_fin hX0 hZ7 hL3 hmono hflB hm hna (fun x y => ?_) (fun x => ?_) ?_ ⟨z5 + 1, ?_, by omega, by omega⟩ (fun x hx9 y => ?_) hpm
      · rw [hX0.hE]
        unfold rE
        by_cases e : x = v
        · rw [e, va_up_self]
          constructor
          · rintro (⟨c9, h9⟩ | ⟨-, h9⟩)
            · exact ⟨c9, List.mem_cons_of_mem _ h9⟩
            · rw [h9]; exact ⟨k, List.mem_cons_self⟩
          · rintro ⟨c9, h9⟩
            rcases List.mem_cons.mp h9 with z | z
            · exact Or.inr ⟨rfl, congrArg Prod.snd z⟩
            · exact Or.inl ⟨c9, z⟩
        · rw [va_up_ne _ _ e]
          exact ⟨fun z => z.elim id (fun z => absurd z.1 e), Or.inl⟩
      · constructor
        · by_cases e : x = v
          · rw [e, va_up_self, List.length_cons]; have := (hX0.hlen v).1; omega
          · rw [va_up_ne _ _ e]; have := (hX0.hlen x).1; omega
        · by_cases e : x = t
          · rw [e, va_up_self, List.length_cons]; have := (hX0.hlen t).2; omega
          · rw [va_up_ne _ _ e]; have := (hX0.hlen x).2; omega
      · show up2 it6 h0 5 _ h0 6 = _
        rw [up2_ne _ _ (by decide)]; exact hgA 6
      · show up2 it6 h0 5 _ h0 5 = _
        rw [up2_self]
      · exact ⟨fun z => z.elim id (fun z => absurd z.1 hx9), Or.inl⟩
    · exact absurd (oI_lt (by omega) (by omega)) c2
  · refine lv_iconst (v := 0) hx hb d_H_link_17 (by decide) ?_
    have hyes : E v t := by
      rcases hp with ⟨z, -⟩ | ⟨k, -, z⟩
      · rw [c1] at z; cases z
      · exact (hX0.hE v t).mpr ⟨k, z⟩
    refine W.widen (k := 8) (n := 2048) (by omega) (by omega) ?_
    exact s_zret hx hb hr rfl hM (Or.inl ⟨hyes, rfl, hH'⟩) d_H_link_18 hlocks
