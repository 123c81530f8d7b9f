/-- what unlink does -/
def UnlinkP (h0 mm : Nat) (E : Nat → Nat → Prop) (T Rg : Nat → Prop) (wl : List Nat) (rc v t : Nat) (x : Int32) (u : sS) : Prop :=
  (¬ E v t ∧ x = 0 ∧ Ho u h0 (mm + 1) E T Rg wl rc) ∨ (E v t ∧ x = 1 ∧ Ho u h0 (mm + 1) (fun a b => E a b ∧ ¬ (a = v ∧ b = t)) (fun a => T a ∨ a = v) Rg wl rc)
set_option maxHeartbeats 4000000 in
set_option maxRecDepth 100000 in
theorem m_H_unlink (l : Launch) (D : va_G) (dA : Nat → ClassId) (S : sS) (sz : Nat) (h0 mm : Nat) (E : Nat → Nat → Prop) (T Rg : Nat → Prop) (wl : List Nat) (rc : Nat) (v t : Nat) (hH : Ho S h0 mm E T Rg wl rc) (hm : mm ≤ 511) (hv9 : v < 16384) (ht9 : t < 16384) :
    cI l y_H_unlink c_H_unlink 4 (some .boolean) (rmk 4 8 2048) D dA S sz [.ref h0, .int (nI v), .int (nI t)] (UnlinkP h0 mm E T Rg wl rc v t) (8) (2048) := by
  have hH' := Ho_mono hH (Nat.le_succ mm)
  obtain ⟨tb, pa, q, na, nd, rd, sr, nr, nc, nn, nf, hZ, hX0⟩ := hH
  have hin9 : vp_in (nI v) 16384 := vp_in_nI hv9 (by omega)
  obtain ⟨z5, hz1, hz2, hz3⟩ := hX0.c5
  obtain ⟨kd, rf, it, lg⟩ := S
  obtain ⟨⟨kh, e0, e1, e2, e3, e4⟩, ⟨kq, eq⟩, hG, hN, hna, hnr⟩ := id hZ
  dsimp only at kh e0 e1 e2 e3 e4 kq eq
  dsimp only at hz1
  have hin8 : vp_in (nI t) 16384 := vp_in_nI ht9 (by omega)
  refine s_met (cc := c_H_unlink) (maxL := 4) (by decide) rfl (by simp [Value.category]) (by simp [lg_sl, Value.category]) ?_
  intro p e s m args below meth c ls hx hb hr hts hown hlocks hin hml hK hX hsz hM hl
  have hg := gd_hts hts
  have hl : lc ls 4 [some (va_rf (some h0)), some (.int (nI v)), some (.int (nI t)), none] := hl
  refine q_iload_n (i := 1) hx hb d_H_unlink_0 rfl hl rfl ?_
  refine s_callv (r_S 1 [.int (nI v)] rfl hx hb hml hown hg (m_H_requireNode l D dA _ _ (nI v) hin9) (hM.pre hK hX) kw_280 kw_281 kw_1 kw_282 (by decide +kernel) ⟨Nat.le_of_ble_eq_true rfl, Nat.le_of_ble_eq_true rfl⟩ rfl rfl hl.sz (by first | exact Nat.le_of_ble_eq_true rfl | simp [rf_cat] | simp [rf_cat, Value.category]) d_H_unlink_1 ⟨by show _ ≤ 8; omega, by show _ ≤ 2048; omega⟩ rfl) hM (fun u H locs hp hM => ?_)
  subst hp
  refine q_iload_n (i := 2) hx hb d_H_unlink_4 rfl hl rfl ?_
  refine s_callv (r_S 1 [.int (nI t)] rfl hx hb hml hown hg (m_H_requireNode l D dA _ _ (nI t) hin8) (hM.pre hK hX) kw_280 kw_281 kw_1 kw_282 (by decide +kernel) ⟨Nat.le_of_ble_eq_true rfl, Nat.le_of_ble_eq_true rfl⟩ rfl rfl hl.sz (by first | exact Nat.le_of_ble_eq_true rfl | simp [rf_cat] | simp [rf_cat, Value.category]) d_H_unlink_5 ⟨by show _ ≤ 8; omega, by show _ ≤ 2048; omega⟩ rfl) hM (fun u H locs hp hM => ?_)
  subst hp
  refine q_al_n (i := 0) hx hb d_H_unlink_8 rfl hl rfl ?_
  refine q_iload_n (i := 1) hx hb d_H_unlink_9 rfl hl rfl ?_
  refine q_iload_n (i := 2) hx hb d_H_unlink_10 rfl hl rfl ?_
  refine s_callq (r_V 2 [.int (nI v), .int (nI t)] rfl hx hb hml hown hg (m_H_linkBetween l D dA _ _ h0 tb (na 0) (na 1) (na 2) q pa nd rd sr v t hZ.1 hG hv9 ht9) (hM.pre hK hX) (hM.recv hK kh (q := cls.getD 0 (R_H, F_H, 7)) rfl) kw_350 kw_352 ks_11 kw_1 kw_353 (by decide +kernel) ⟨Nat.le_of_ble_eq_true rfl, Nat.le_of_ble_eq_true rfl⟩ rfl rfl hl.sz (by first | exact Nat.le_of_ble_eq_true rfl | simp [rf_cat] | simp [rf_cat, Value.category]) d_H_unlink_11 ⟨by show _ ≤ 8; omega, by show _ ≤ 2048; omega⟩ rfl) hM (fun r1 u H locs hp hM => ?_)
  obtain ⟨rfl, hp⟩ := hp
  refine q_astore_n (i := 3) hx hb (_) d_H_unlink_14 rfl hl (by decide) (fun ls hl => ?_)
  simp only [List.set_cons_succ, List.set_cons_zero] at hl
  refine q_al_n (i := 3) hx hb d_H_unlink_15 rfl hl rfl ?_
  refine q_ifnonnull (tgt := 21) hx hb d_H_unlink_16 (by decide) (fun k c1 => ?_) (fun c1 => ?_)
  · have hkm : (k, t) ∈ rd v := by
      rcases hp with ⟨z, -⟩ | ⟨k2, z, z2⟩
      · rw [c1] at z; cases z
      · rw [c1] at z; rw [Option.some.inj z]; exact z2
    obtain ⟨kk, ⟨a, hna, rk0⟩, ⟨b, hnb, rk1⟩, hsm⟩ := hG.2.2.2.1 v k t hkm
    obtain ⟨lo1, lo2⟩ := Gr9_lo hG hkm
    obtain ⟨i9, hi9⟩ := List.getElem?_of_mem hkm
    obtain ⟨j9, hj9⟩ := List.getElem?_of_mem hsm
    dsimp only at kk rk0 rk1
    rw [c1] at hl
    refine q_al_n (i := 3) hx hb d_H_unlink_21 rfl hl rfl ?_
    refine s_callv (r_V 0 [] rfl hx hb hml hown hg (m_K_loosen l D dA _ _ k a b lo1 kk (hG.nk hna).2.1 (hG.nk hnb).2.1 rk0 rk1 lo2) (hM.pre hK hX) (hM.recv hK kk (q := cls.getD 4 (R_H, F_H, 7)) rfl) kw_423 kw_424 kw_425 kw_13 kw_426 (by decide +kernel) ⟨Nat.le_of_ble_eq_true rfl, Nat.le_of_ble_eq_true rfl⟩ rfl rfl hl.sz (by first | exact Nat.le_of_ble_eq_true rfl | simp [rf_cat] | simp [rf_cat, Value.category]) d_H_unlink_22 ⟨by show _ ≤ 8; omega, by show _ ≤ 2048; omega⟩ rfl) hM (fun u6 H locs hp8 hM => ?_)
    obtain ⟨u5, hJ1, hJ2⟩ := hp8
    obtain ⟨gG, gF, gI, gE, gM, gN⟩ := Gr9_unlink hG hna hnb hi9 hj9 (fun x => by have := (hX0.hlen x).1; omega) (fun x => by have := (hX0.hlen x).2; omega) hJ1 hJ2
    obtain ⟨hZ6, g6⟩ := Mz_gr hZ (gF.weak (fun b _ z => Or.inl z)) gG
    have hflA : ∀ i x, 5 ≤ i → fl u6 nd i x = fl (kd, rf, it, lg) nd i x := by
      intro i x hi
      cases hx9 : nd x with
      | none => rw [fl_no hx9, fl_no hx9]
      | some c9 => rw [fl_at hx9, fl_at hx9, gI x c9 i hx9 (by omega) (by omega)]
    have kk6 : u6.1 k = some (.inl 4) := by rw [gE]; exact kk
    have rk6 : u6.2.1 k 0 = some a := by
      rw [leave_rf hJ2 (Or.inr (by decide)) (by decide) (by decide), leave_rf hJ1 (Or.inr (by decide)) (by decide) (by decide)]; exact rk0
    clear hJ1 hJ2
    have hL6 : fewN nd (2 * (mm + 1)) := fewN_le hX0.hL (by omega)
    obtain ⟨kd6, rf6, it6, lg6⟩ := u6
    have kh6 := hZ6.1.1
    have e56 : it6 h0 5 = Int32.ofInt z5 := (g6 5).trans hz1
    dsimp only at kh6 kk6 rk6
    refine q_al_n (i := 0) hx hb d_H_unlink_25 rfl hl rfl ?_
    refine lv_dup hx hb d_H_unlink_26 rfl ?_
    refine s_geti (C := R_H) (T := F_H) (N := 7) (ci := 0) hx hb hg in_H hown hK hM kh6 rfl 5 (by decide) rfl (hg _ kw_70) (fun _ h9 => h9) d_H_unlink_27 ?_
    rw [e56]
    refine lv_iconst (v := nI 1) hx hb d_H_unlink_30 (by decide) ?_
    refine lv_isub hx hb d_H_unlink_31 ?_
    rw [oI_sub]
    refine s_puti (C := R_H) (T := F_H) (N := 7) (ci := 0) hx hb hg in_H ft_H ft_H_ok fn_H hown hK hM kh6 rfl 5 (by decide) rfl (hg _ kw_70) (fun _ h9 => h9) rfl rfl rfl d_H_unlink_32 (fun H locs hM => ?_)
    obtain ⟨hZ7, f7⟩ := Mz_own hZ6 5 (Int32.ofInt (z5 - (1 : Nat)))
    dsimp only at hZ7 f7
    have hflB : ∀ i x, 5 ≤ i → fl (kd6, rf6, up2 it6 h0 5 (Int32.ofInt (z5 - (1 : Nat))), lg6) nd i x = fl (kd, rf, it, lg) nd i x := fun i x hi => by rw [f7, hflA i x hi]
    obtain ⟨hq1, hq2, hq3⟩ := Ho_cost hX0 hZ7 hL6 (fun _ _ h => h) hflB hm hna
    refine q_al_n (i := 0) hx hb d_H_unlink_35 rfl hl rfl ?_
    refine q_al_n (i := 3) hx hb d_H_unlink_36 rfl hl rfl ?_
    refine s_getr (C := R_K) (T := F_K) (N := 6) (ci := 4) hx hb hg in_K hown hK hM kk6 rfl 0 (by decide) rfl (hg _ kw_378) (fun _ h9 => h9) d_H_unlink_37 ?_
    rw [rk6]
    refine s_callv (r_V 1 [.ref a] rfl hx hb hml hown hg (m_H_markTouched l D dA _ _ h0 tb (na 0) (na 1) (na 2) q a (nr 0) (nc 0) (nn 0) v (nf 0) hZ7.1 (hZ7.2.2.1.nk hna).2.1 (hZ7.2.2.1.nk hna).2.2 (hZ7.2.2.2.1 0 (by decide)) hq3) (hM.pre hK hX) (hM.recv hK hZ7.1.1 (q := cls.getD 0 (R_H, F_H, 7)) rfl) kw_412 kw_414 ks_14 kw_1 kw_415 (by decide +kernel) ⟨Nat.le_of_ble_eq_true rfl, Nat.le_of_ble_eq_true rfl⟩ rfl rfl hl.sz (by first | exact Nat.le_of_ble_eq_true rfl | simp [rf_cat] | simp [rf_cat, Value.category]) d_H_unlink_40 ⟨by show _ ≤ 8; omega, by show _ ≤ 2048; omega⟩ rfl) hM (fun u9 H locs hpm hM => ?_)
    refine lv_iconst (v := 1) hx hb d_H_unlink_43 (by decide) ?_
    refine W.widen (k := 8) (n := 2048) (by omega) (by omega) ?_
    refine s_zret hx hb hr rfl hM (Or.inr ⟨(hX0.hE v t).mpr ⟨k, hkm⟩, rfl, ?_⟩) d_H_unlink_44 hlocks
    refine Ho_fin hX0 hZ7 hL6 (fun _ _ h => h) hflB hm hna (fun x y => ?_) (fun x => ?_) ?_ ⟨z5 - (1 : Nat), ?_, by omega, by omega⟩ (fun x hx9 y => ?_) hpm
    · rw [hX0.hE]
      unfold rE
      by_cases e : x = v
      · rw [e, va_up_self, gM]
        exact ⟨fun z => ⟨z.1, fun y9 => z.2 ⟨rfl, y9⟩⟩, fun z => ⟨z.1, fun y9 => z.2 y9.2⟩⟩
      · rw [va_up_ne _ _ e]
        exact ⟨fun z => z.1, fun z => ⟨z, fun y9 => e y9.1⟩⟩
    · constructor
      · by_cases e : x = v
        · rw [e, va_up_self]; have := (hX0.hlen v).1; omega
        · rw [va_up_ne _ _ e]; have := (hX0.hlen x).1; omega
      · by_cases e : x = t
        · rw [e, va_up_self]; have := (hX0.hlen t).2; have := List.length_eraseIdx_le (sr t) j9; omega
        · rw [va_up_ne _ _ e]; have := (hX0.hlen x).2; omega
    · show up2 it6 h0 5 _ h0 6 = _
      rw [up2_ne _ _ (by decide)]; exact g6 6
    · show up2 it6 h0 5 _ h0 5 = _
      rw [up2_self]
    · exact ⟨fun z => z.1, fun z => ⟨z, fun y9 => hx9 y9.1⟩⟩
  · refine lv_iconst (v := 0) hx hb d_H_unlink_19 (by decide) ?_
    have hno : ¬ E v t := by
      rcases hp with ⟨-, z⟩ | ⟨k, z, -⟩
      · exact fun y => z ((hX0.hE v t).mp y)
      · rw [c1] at z; cases z
    refine W.widen (k := 8) (n := 2048) (by omega) (by omega) ?_
    exact s_zret hx hb hr rfl hM (Or.inl ⟨hno, rfl, hH'⟩) d_H_unlink_20 hlocks
/-- clear's loop: the first i links are loosened -/
def ClI (S1 S : sS) (h0 tb pa q : Nat) (na : Nat → Nat) (nd : Nat → Option Nat) (rd rdi sri : Nat → List (Nat × Nat)) (nr nc nn : Nat → Nat) (nf : Nat → Nat → Nat) (mm v i : Nat) : Prop :=
  Mz S h0 tb pa q na nd rdi sri nr nc nn nf ∧ rdi v = (rd v).drop i ∧ (∀ x, x ≠ v → rdi x = rd x) ∧ (∀ x, (sri x).length ≤ mm) ∧ (∀ j x, 5 ≤ j → fl S nd j x = fl S1 nd j x) ∧ ∀ j, S.2.2.1 h0 j = S1.2.2.1 h0 j
set_option maxHeartbeats 4000000 in
set_option maxRecDepth 100000 in
theorem cl_loop {p : Program} {l : Launch} {e : Env} {s : State} {m : MethodId} {args : Array Value} {below : List Frame} {meth : Method} {c : Code} {D : va_G} {dA : Nat → ClassId} {A : Nat → Prop} {Q : State → Prop} (hx : p.tables.exec = Jvm.exec) (hb : c.code = c_H_clear) (hml : c.maxLocals = 6) (hown : s.vm.findClass R_H = some m.cls) (hg : ∀ w ∈ gd, w.before args s = true) (hK : va_K D cls (tys dA) s) (hX : sKx s) {cells slots : Nat} (hcs : cells ≤ 8 ∧ slots ≤ 2048) {S1 : sS} {h0 tb pa q : Nat} {na : Nat → Nat} {nd : Nat → Option Nat} {rd : Nat → List (Nat × Nat)} {nr nc nn : Nat → Nat} {nf : Nat → Nat → Nat} {mm v a N : Nat} (hm : mm ≤ 511) (hlen : ∀ x, (rd x).length ≤ mm) (hna : nd v = some a)
    (kk : ∀ (S : sS) (rdi sri : Nat → List (Nat × Nat)) (H : Heap) (locs : List Loc) (ls : Array Slot) (o : Option Value), SW D dA A s.heap S H locs → lc ls 6 [some (va_rf (some h0)), some (.int (nI v)), some (va_rf (some a)), some (.int (nI N)), some (va_rf none), o] → ClI S1 S h0 tb pa q na nd rd rdi sri nr nc nn nf mm v (rd v).length → W p l e (rmk 4 8 2048) s m args below meth c H locs cells slots Q (F0 m 48 ls [])) :
    ∀ (d i : Nat) (S : sS) (rdi sri : Nat → List (Nat × Nat)) (H : Heap) (locs : List Loc) (ls : Array Slot) (o : Option Value), i + d = (rd v).length → SW D dA A s.heap S H locs → lc ls 6 [some (va_rf (some h0)), some (.int (nI v)), some (va_rf (some a)), some (.int (nI N)), some (va_rf (((rd v).map Prod.fst)[i]?)), o] → ClI S1 S h0 tb pa q na nd rd rdi sri nr nc nn nf mm v i → W p l e (rmk 4 8 2048) s m args below meth c H locs cells slots Q (F0 m 24 ls []) := by
  intro d
  induction d with
  | zero =>
    intro i S rdi sri H locs ls o hi hM hl hI
    have e : ((rd v).map Prod.fst)[i]? = none := List.getElem?_eq_none (by rw [List.length_map]; omega)
    have ei : i = (rd v).length := by omega
    rw [e] at hl
    rw [ei] at hI
    refine q_al hx hb d_H_clear_24 hl rfl ?_
    refine q_ifnull (tgt := 48) hx hb d_H_clear_26 (by decide) (fun c1 => ?_) (fun y c1 => ?_)
    · exact kk S rdi sri H locs ls _ hM hl hI
    · cases c1
  | succ d ih =>
    intro i S rdi sri H locs ls o hi hM hl hI
    obtain ⟨hZ, i1, i2, i3, i4, i5⟩ := hI
    have hG := hZ.2.2.1
    have hil : i < ((rd v).map Prod.fst).length := by rw [List.length_map]; omega
    obtain ⟨k, ek⟩ : ∃ k, ((rd v).map Prod.fst)[i]? = some k := ⟨_, List.getElem?_eq_getElem hil⟩
    obtain ⟨t, et⟩ := ml_at ek
    have hi0 : (rdi v)[0]? = some (k, t) := by rw [i1, List.getElem?_drop, Nat.add_zero]; exact et
    have hkm := List.mem_of_getElem? hi0
    obtain ⟨kk9, ⟨a9, hna9, rk0⟩, ⟨b, hnb, rk1⟩, hsm⟩ := hG.2.2.2.1 v k t hkm
    have ea : a9 = a := Option.some.inj (hna9.symm.trans hna)
    subst ea
    obtain ⟨lo1, lo2⟩ := Gr9_lo hG hkm
    obtain ⟨j9, hj9⟩ := List.getElem?_of_mem hsm
    have hlenI : ∀ x, (rdi x).length ≤ mm := by
      intro x
      by_cases e : x = v
      · rw [e, i1, List.length_drop]; have := hlen v; omega
      · rw [i2 x e]; exact hlen x
    have hk0 : ((rdi v).map Prod.fst)[0]? = some k := by rw [List.getElem?_map, hi0]; rfl
    have r3 : S.2.1 k 3 = ((rd v).map Prod.fst)[i + 1]? := by
      rw [((hG.2.1 v a9 hna).1.2 0 k hk0).1, i1, List.map_drop, List.getElem?_drop]
    obtain ⟨kd, rf, it, lg⟩ := S
    dsimp only at kk9 rk0 rk1 r3
    rw [ek] at hl
    refine q_al hx hb d_H_clear_24 hl rfl ?_
    refine q_ifnull (tgt := 48) hx hb d_H_clear_26 (by decide) (fun c1 => ?_) (fun y c1 => ?_)
    · cases c1
    · refine q_al hx hb d_H_clear_29 hl rfl ?_
      refine s_getr (C := R_K) (T := F_K) (N := 6) (ci := 4) hx hb hg in_K hown hK hM kk9 rfl 3 (by decide) rfl (hg _ kw_383) (fun _ h9 => h9) d_H_clear_31 ?_
      rw [r3]
      refine q_astore hx hb (_) d_H_clear_34 hl (by decide) (fun ls hl => ?_)
      simp only [List.set_cons_succ, List.set_cons_zero] at hl
      refine q_al hx hb d_H_clear_36 hl rfl ?_
      refine s_callv (r_V 0 [] rfl hx hb hml hown hg (m_K_loosen l D dA _ _ k a9 b lo1 kk9 (hG.nk hna).2.1 (hG.nk hnb).2.1 rk0 rk1 lo2) (hM.pre hK hX) (hM.recv hK kk9 (q := cls.getD 4 (R_H, F_H, 7)) rfl) kw_423 kw_424 kw_425 kw_13 kw_426 (by decide +kernel) ⟨Nat.le_of_ble_eq_true rfl, Nat.le_of_ble_eq_true rfl⟩ rfl rfl hl.sz (by first | exact Nat.le_of_ble_eq_true rfl | simp [rf_cat] | simp [rf_cat, Value.category]) d_H_clear_38 ⟨hcs.1, hcs.2⟩ rfl) hM (fun u6 H locs hp8 hM => ?_)
      obtain ⟨u5, hJ1, hJ2⟩ := hp8
      obtain ⟨gG, gF, gI, gE, gM, gN⟩ := Gr9_unlink hG hna hnb hi0 hj9 (fun x => by have := hlenI x; omega) (fun x => by have := i3 x; omega) hJ1 hJ2
      obtain ⟨hZ6, g6⟩ := Mz_gr hZ (gF.weak (fun b _ z => Or.inl z)) gG
      refine q_al hx hb d_H_clear_41 hl rfl ?_
      refine q_astore hx hb (_) d_H_clear_43 hl (by decide) (fun ls hl => ?_)
      simp only [List.set_cons_succ, List.set_cons_zero] at hl
      refine lv_goto (tgt := 24) hx hb d_H_clear_45 (by decide) ?_
      refine ih (i + 1) u6 _ _ H locs ls _ (by omega) hM hl ⟨hZ6, ?_, fun x hx9 => ?_, fun x => ?_, fun j x hj => ?_, fun j => (g6 j).trans (i5 j)⟩
      · rw [va_up_self, i1, List.eraseIdx_zero, List.tail_drop]
      · rw [va_up_ne _ _ hx9]; exact i2 x hx9
      · by_cases e : x = t
        · rw [e, va_up_self]; have := i3 t; have := List.length_eraseIdx_le (sri t) j9; omega
        · rw [va_up_ne _ _ e]; exact i3 x
      · rw [← i4 j x hj]
        cases hx9 : nd x with
        | none => rw [fl_no hx9, fl_no hx9]
        | some c9 => rw [fl_at hx9, fl_at hx9, gI x c9 j hx9 (by omega) (by omega)]
/-- what clear does -/
def ClearP (h0 mm : Nat) (E : Nat → Nat → Prop) (T Rg : Nat → Prop) (wl : List Nat) (rc v : Nat) (x : Int32) (u : sS) : Prop :=
  Ho u h0 (mm + 1) (fun a b => E a b ∧ a ≠ v) (fun a => T a ∨ a = v) Rg wl rc ∧ ∃ n, n ≤ 1024 ∧ crd (fun b => E v b) n ∧ x = nI n
set_option maxHeartbeats 4000000 in
set_option maxRecDepth 100000 in
theorem m_H_clear (l : Launch) (D : va_G) (dA : Nat → ClassId) (S : sS) (sz : Nat) (h0 mm : Nat) (E : Nat → Nat → Prop) (T Rg : Nat → Prop) (wl : List Nat) (rc : Nat) (v : Nat) (hH : Ho S h0 mm E T Rg wl rc) (hm : mm ≤ 511) (hv9 : v < 16384) :
    cI l y_H_clear c_H_clear 6 (some .int) (rmk 4 8 2048) D dA S sz [.ref h0, .int (nI v)] (ClearP h0 mm E T Rg wl rc v) (8) (2048) := by
  obtain ⟨tb, pa, q, na, nd, rd, sr, nr, nc, nn, nf, hZ, hX0⟩ := hH
  have hin9 : vp_in (nI v) 16384 := vp_in_nI hv9 (by omega)
  obtain ⟨z5, hz1, hz2, hz3⟩ := hX0.c5
  obtain ⟨kd, rf, it, lg⟩ := S
  obtain ⟨⟨kh, e0, e1, e2, e3, e4⟩, ⟨kq, eq⟩, hG, hN, hna, hnr⟩ := id hZ
  dsimp only at kh e0 e1 e2 e3 e4 kq eq
  dsimp only at hz1
  refine s_met (cc := c_H_clear) (maxL := 6) (by decide) rfl (by simp [Value.category]) (by simp [lg_sl, Value.category]) ?_
  intro p e s m args below meth c ls hx hb hr hts hown hlocks hin hml hK hX hsz hM hl
  have hg := gd_hts hts
  have hl : lc ls 6 [some (va_rf (some h0)), some (.int (nI v)), none, none, none, none] := hl
  refine q_iload_n (i := 1) hx hb d_H_clear_0 rfl hl rfl ?_
  refine s_callv (r_S 1 [.int (nI v)] rfl hx hb hml hown hg (m_H_requireNode l D dA _ _ (nI v) hin9) (hM.pre hK hX) kw_280 kw_281 kw_1 kw_282 (by decide +kernel) ⟨Nat.le_of_ble_eq_true rfl, Nat.le_of_ble_eq_true rfl⟩ rfl rfl hl.sz (by first | exact Nat.le_of_ble_eq_true rfl | simp [rf_cat] | simp [rf_cat, Value.category]) d_H_clear_1 ⟨by show _ ≤ 8; omega, by show _ ≤ 2048; omega⟩ rfl) hM (fun u H locs hp hM => ?_)
  subst hp
  refine q_al_n (i := 0) hx hb d_H_clear_4 rfl hl rfl ?_
  refine s_getr (C := R_H) (T := F_H) (N := 7) (ci := 0) hx hb hg in_H hown hK hM kh rfl 0 (by decide) rfl (hg _ kw_65) (fun _ h9 => h9) d_H_clear_5 ?_
  rw [e0]
  refine q_iload_n (i := 1) hx hb d_H_clear_8 rfl hl rfl ?_
  refine s_callq (r_V 1 [.int (nI v)] rfl hx hb hml hown hg (m_T_ofN l D dA _ _ tb pa nd v hG.1 hv9) (hM.pre hK hX) (hM.recv hK hG.1.1 (q := cls.getD 1 (R_H, F_H, 7)) rfl) kw_107 kw_108 kw_109 kw_2 kw_110 (by decide +kernel) ⟨Nat.le_of_ble_eq_true rfl, Nat.le_of_ble_eq_true rfl⟩ rfl rfl hl.sz (by first | exact Nat.le_of_ble_eq_true rfl | simp [rf_cat] | simp [rf_cat, Value.category]) d_H_clear_9 ⟨by show _ ≤ 8; omega, by show _ ≤ 2048; omega⟩ rfl) hM (fun r2 u1 H locs hp hM => ?_)
  obtain ⟨a, rfl, hO⟩ := hp
  obtain ⟨hZ1, f1, mono1, g1⟩ := Mz_of hZ hO
  have hna : va_up nd v (some a) v = some a := va_up_self _ _ _
  have hL1 : fewN (va_up nd v (some a)) (2 * (mm + 1)) := fewN_le (fewN_up hX0.hL) (by omega)
  clear hO
  generalize va_up nd v (some a) = nd1 at hZ1 f1 mono1 hna hL1
  have ka1 := (hZ1.2.2.1.nk hna).2.1
  obtain ⟨hch, hct, -, -⟩ := hZ1.2.2.1.2.1 v a hna
  have hch0 := hch.1
  obtain ⟨kd1, rf1, it1, lg1⟩ := u1
  dsimp only at ka1 hct hch0
  refine q_astore_n (i := 2) hx hb (_) d_H_clear_12 rfl hl (by decide) (fun ls hl => ?_)
  simp only [List.set_cons_succ, List.set_cons_zero] at hl
  refine q_al_n (i := 2) hx hb d_H_clear_13 rfl hl rfl ?_
  refine s_geti (C := R_N) (T := F_N) (N := 9) (ci := 3) hx hb hg in_N hown hK hM ka1 rfl 3 (by decide) rfl (hg _ kw_138) (fun _ h9 => h9) d_H_clear_14 ?_
  rw [hct]
  refine q_istore_n (i := 3) hx hb d_H_clear_17 rfl hl (by decide) (fun ls hl => ?_)
  simp only [List.set_cons_succ, List.set_cons_zero] at hl
  refine q_al_n (i := 2) hx hb d_H_clear_18 rfl hl rfl ?_
  refine s_getr (C := R_N) (T := F_N) (N := 9) (ci := 3) hx hb hg in_N hown hK hM ka1 rfl 1 (by decide) rfl (hg _ kw_135) (fun _ h9 => h9) d_H_clear_19 ?_
  rw [hch0]
  refine q_astore hx hb (_) d_H_clear_22 hl (by decide) (fun ls hl => ?_)
  simp only [List.set_cons_succ, List.set_cons_zero] at hl
  refine cl_loop hx hb hml hown hg hK hX (by decide) (S1 := (kd1, rf1, it1, lg1)) (nr := nr) (nc := nc) (nn := nn) (nf := nf) (mm := mm) hm (fun x => (hX0.hlen x).1) hna ?_ (rd v).length 0 _ rd sr H locs ls _ (by omega) hM hl ⟨hZ1, by rw [List.drop_zero], fun _ _ => rfl, fun x => (hX0.hlen x).2, fun _ _ _ => rfl, fun _ => rfl⟩
  intro S6 rdi sri H locs ls o hM hl hI
  obtain ⟨hZ6, i1, i2, i3, i4, i5⟩ := hI
  rw [List.drop_length] at i1
  have hflA : ∀ i x, 5 ≤ i → fl S6 nd1 i x = fl (kd, rf, it, lg) nd i x := fun i x hi => by rw [i4 i x hi, f1 i x (by omega)]
  have hgA : ∀ i, S6.2.2.1 h0 i = it h0 i := fun i => (i5 i).trans (g1 i)
  obtain ⟨kd6, rf6, it6, lg6⟩ := S6
  have kh6 := hZ6.1.1
  have e56 : it6 h0 5 = Int32.ofInt z5 := (hgA 5).trans hz1
  dsimp only at kh6
  refine q_al_n (i := 0) hx hb d_H_clear_48 rfl hl rfl ?_
  refine lv_dup hx hb d_H_clear_49 rfl ?_
  refine s_geti (C := R_H) (T := F_H) (N := 7) (ci := 0) hx hb hg in_H hown hK hM kh6 rfl 5 (by decide) rfl (hg _ kw_70) (fun _ h9 => h9) d_H_clear_50 ?_
  rw [e56]
  refine q_iload_n (i := 3) hx hb d_H_clear_53 rfl hl rfl ?_
  refine lv_isub hx hb d_H_clear_54 ?_
  rw [oI_sub]
  refine s_puti (C := R_H) (T := F_H) (N := 7) (ci := 0) hx hb hg in_H ft_H ft_H_ok fn_H hown hK hM kh6 rfl 5 (by decide) rfl (hg _ kw_70) (fun _ h9 => h9) rfl rfl rfl d_H_clear_55 (fun H locs hM => ?_)
  have hlv := (hX0.hlen v).1
  obtain ⟨hZ7, f7⟩ := Mz_own hZ6 5 (Int32.ofInt (z5 - (rd v).length))
  dsimp only at hZ7 f7
  have hflB : ∀ i x, 5 ≤ i → fl (kd6, rf6, up2 it6 h0 5 (Int32.ofInt (z5 - (rd v).length)), lg6) nd1 i x = fl (kd, rf, it, lg) nd i x := fun i x hi => by rw [f7, hflA i x hi]
  obtain ⟨hq1, hq2, hq3⟩ := Ho_cost hX0 hZ7 hL1 mono1 hflB hm hna
  refine q_al_n (i := 0) hx hb d_H_clear_58 rfl hl rfl ?_
  refine q_al_n (i := 2) hx hb d_H_clear_59 rfl hl rfl ?_
  refine s_callv (r_V 1 [.ref a] rfl hx hb hml hown hg (m_H_markTouched l D dA _ _ h0 tb (na 0) (na 1) (na 2) q a (nr 0) (nc 0) (nn 0) v (nf 0) hZ7.1 (hZ7.2.2.1.nk hna).2.1 (hZ7.2.2.1.nk hna).2.2 (hZ7.2.2.2.1 0 (by decide)) hq3) (hM.pre hK hX) (hM.recv hK hZ7.1.1 (q := cls.getD 0 (R_H, F_H, 7)) rfl) kw_412 kw_414 ks_14 kw_1 kw_415 (by decide +kernel) ⟨Nat.le_of_ble_eq_true rfl, Nat.le_of_ble_eq_true rfl⟩ rfl rfl hl.sz (by first | exact Nat.le_of_ble_eq_true rfl | simp [rf_cat] | simp [rf_cat, Value.category]) d_H_clear_60 ⟨by show _ ≤ 8; omega, by show _ ≤ 2048; omega⟩ rfl) hM (fun u9 H locs hpm hM => ?_)
  refine q_iload_n (i := 3) hx hb d_H_clear_63 rfl hl rfl ?_
  refine W.widen (k := 8) (n := 2048) (by omega) (by omega) ?_
  refine s_iret hx hb hr hM ⟨?_, (rd v).length, by omega, ⟨(rd v).map Prod.snd, (hG.2.2.1 v).2.2.1, fun x => ?_, List.length_map _⟩, rfl⟩ d_H_clear_64 hlocks
  · refine Ho_fin hX0 hZ7 hL1 mono1 hflB hm hna (fun x y => ?_) (fun x => ?_) ?_ ⟨z5 - (rd v).length, ?_, by omega, by omega⟩ (fun x hx9 y => ?_) hpm
    · rw [hX0.hE]
      unfold rE
      by_cases e : x = v
      · rw [e, i1]
        exact ⟨fun z => absurd rfl z.2, fun ⟨c9, h9⟩ => absurd h9 (List.not_mem_nil)⟩
      · rw [i2 x e]
        exact ⟨fun z => z.1, fun z => ⟨z, e⟩⟩
    · refine ⟨?_, Nat.le_succ_of_le (i3 x)⟩
      by_cases e : x = v
      · rw [e, i1]; exact Nat.zero_le _
      · rw [i2 x e]; exact Nat.le_succ_of_le (hX0.hlen x).1
    · show up2 it6 h0 5 _ h0 6 = _
      rw [up2_ne _ _ (by decide)]; exact hgA 6
    · show up2 it6 h0 5 _ h0 5 = _
      rw [up2_self]
    · exact ⟨fun z => z.1, fun z => ⟨z, hx9⟩⟩
  · dsimp only; rw [hX0.hE]; exact mem_sn
