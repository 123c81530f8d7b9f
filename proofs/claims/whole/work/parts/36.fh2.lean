set_option maxHeartbeats 4000000 in
set_option maxRecDepth 100000 in
theorem fh_out {p : Program} {l : Launch} {e : Env} {s : State} {m : MethodId} {args : Array Value} {below : List Frame} {meth : Method} {c : Code} {D : va_G} {dA : Nat → ClassId} {A : Nat → Prop} {Q : State → Prop} (hx : p.tables.exec = Jvm.exec) (hb : c.code = c_H_findHanging) (hml : c.maxLocals = 4) (hown : s.vm.findClass R_H = some m.cls) (hg : ∀ w ∈ gd, w.before args s = true) (hK : va_K D cls (tys dA) s) (hX : sKx s) {h0 tb pa q : Nat} {na : Nat → Nat} {nd : Nat → Option Nat} {rd sr : Nat → List (Nat × Nat)} {S0 : sS} {nr nc nn : Nat → Nat} {nf : Nat → Nat → Nat} {T : Nat → Prop} (hL : fewN nd 1024)
    (kk : ∀ (S : sS) (r c9 n : Nat) (f : Nat → Nat) (H : Heap) (locs : List Loc) (ls : Array Slot), SW D dA A s.heap S H locs → FhI S0 S h0 tb pa q na nd rd sr nr nc nn nf T r c9 n f n → W p l e (rmk 4 64 2048) s m args below meth c H locs (c9 / 16) (2 * c9) Q (F0 m 67 ls [])) :
    ∀ (d k : Nat) (S : sS) (r c9 n : Nat) (f : Nat → Nat) (H : Heap) (locs : List Loc) (ls : Array Slot) (o2 o3 : Option Value), k + d = 1024 → SW D dA A s.heap S H locs → lc ls 4 [some (va_rf (some h0)), some (.int (nI k)), o2, o3] → FhI S0 S h0 tb pa q na nd rd sr nr nc nn nf T r c9 n f k → W p l e (rmk 4 64 2048) s m args below meth c H locs (c9 / 16) (2 * c9) Q (F0 m 2 ls []) := by
  intro d
  induction d with
  | zero =>
    intro k S r c9 n f H locs ls o2 o3 hd hM hl hI
    have hI' := hI
    obtain ⟨kd, rf, it, lg⟩ := S
    obtain ⟨hF, hk, i1, i2, i3, i4, i5⟩ := hI'
    have hZ := hF.1
    obtain ⟨⟨kh, e0, e1, e2, e3, e4⟩, ⟨kq, eq⟩, hG, hN, hna, hnr⟩ := id hZ
    dsimp only at kh e0 e1 e2 e3 e4 kq eq
    have hN1 := hN 1 (by decide)
    simp only [va_up_self] at hN1
    have hn1 := hN1.2.2.2.1
    have k1 := hN1.1
    dsimp only at hn1 k1
    have hn9 := few_le hL hF.2.1 hF.2.2.1
    have hkn : k = n := by omega
    refine q_iload_n (i := 1) hx hb d_H_findHanging_2 rfl hl rfl ?_
    refine lv_sipush (v := nI 16384) hx hb d_H_findHanging_3 (by decide) ?_
    refine n_ge (tgt := 67) hx hb d_H_findHanging_6 (by decide) (by omega) (by omega) (fun c1 => ?_) (fun c1 => ?_)
    · omega
    · refine q_iload_n (i := 1) hx hb d_H_findHanging_9 rfl hl rfl ?_
      refine q_al_n (i := 0) hx hb d_H_findHanging_10 rfl hl rfl ?_
      refine s_getr (C := R_H) (T := F_H) (N := 7) (ci := 0) hx hb hg in_H hown hK hM kh rfl 2 (by decide) rfl (hg _ kw_67) (fun _ h9 => h9) d_H_findHanging_11 ?_
      rw [e2]
      refine s_geti (C := R_U) (T := F_U) (N := 2) (ci := 5) hx hb hg in_U hown hK hM k1 rfl 1 (by decide) rfl (hg _ kw_46) (fun _ h9 => h9) d_H_findHanging_14 ?_
      rw [hn1]
      refine n_ge (tgt := 67) hx hb d_H_findHanging_17 (by decide) (by omega) (by omega) (fun c2 => ?_) (fun c2 => ?_)
      · rw [hkn] at hI
        exact kk _ r c9 n f H locs ls hM hI
      · omega
  | succ d ih =>
    intro k S r c9 n f H locs ls o2 o3 hd hM hl hI
    have hI' := hI
    obtain ⟨kd, rf, it, lg⟩ := S
    obtain ⟨hF, hk, i1, i2, i3, i4, i5⟩ := hI'
    have hZ := hF.1
    have hc9 := hF.2.2.2.2
    obtain ⟨⟨kh, e0, e1, e2, e3, e4⟩, ⟨kq, eq⟩, hG, hN, hna, hnr⟩ := id hZ
    dsimp only at kh e0 e1 e2 e3 e4 kq eq
    have hN1 := hN 1 (by decide)
    simp only [va_up_self] at hN1
    have hn1 := hN1.2.2.2.1
    have k1 := hN1.1
    dsimp only at hn1 k1
    have hn9 := few_le hL hF.2.1 hF.2.2.1
    refine q_iload_n (i := 1) hx hb d_H_findHanging_2 rfl hl rfl ?_
    refine lv_sipush (v := nI 16384) hx hb d_H_findHanging_3 (by decide) ?_
    refine n_ge (tgt := 67) hx hb d_H_findHanging_6 (by decide) (by omega) (by omega) (fun c1 => ?_) (fun c1 => ?_)
    · omega
    · refine q_iload_n (i := 1) hx hb d_H_findHanging_9 rfl hl rfl ?_
      refine q_al_n (i := 0) hx hb d_H_findHanging_10 rfl hl rfl ?_
      refine s_getr (C := R_H) (T := F_H) (N := 7) (ci := 0) hx hb hg in_H hown hK hM kh rfl 2 (by decide) rfl (hg _ kw_67) (fun _ h9 => h9) d_H_findHanging_11 ?_
      rw [e2]
      refine s_geti (C := R_U) (T := F_U) (N := 2) (ci := 5) hx hb hg in_U hown hK hM k1 rfl 1 (by decide) rfl (hg _ kw_46) (fun _ h9 => h9) d_H_findHanging_14 ?_
      rw [hn1]
      refine n_ge (tgt := 67) hx hb d_H_findHanging_17 (by decide) (by omega) (by omega) (fun c2 => ?_) (fun c2 => ?_)
      · have hkn : k = n := by omega
        rw [hkn] at hI
        exact kk _ r c9 n f H locs ls hM hI
      · obtain ⟨av, hv⟩ : ∃ a, nd (f k) = some a := Option.ne_none_iff_exists'.mp (hF.2.2.1 k c2)
        obtain ⟨hv9, kav, hiv⟩ := hG.nk hv
        dsimp only at kav hiv
        have hfr : rf av 2 = ((sr (f k)).map Prod.fst)[0]? := (hG.2.1 (f k) av hv).2.2.1.1
        refine q_al_n (i := 0) hx hb d_H_findHanging_20 rfl hl rfl ?_
        refine s_getr (C := R_H) (T := F_H) (N := 7) (ci := 0) hx hb hg in_H hown hK hM kh rfl 0 (by decide) rfl (hg _ kw_65) (fun _ h9 => h9) d_H_findHanging_21 ?_
        rw [e0]
        refine q_al_n (i := 0) hx hb d_H_findHanging_24 rfl hl rfl ?_
        refine s_getr (C := R_H) (T := F_H) (N := 7) (ci := 0) hx hb hg in_H hown hK hM kh rfl 2 (by decide) rfl (hg _ kw_67) (fun _ h9 => h9) d_H_findHanging_25 ?_
        rw [e2]
        refine q_iload_n (i := 1) hx hb d_H_findHanging_28 rfl hl rfl ?_
        refine s_calli (r_V 1 [.int (nI k)] rfl hx hb hml hown hg (m_U_at l D dA _ _ (na 1) r c9 n f (nI k) hN1) (hM.pre hK hX) (hM.recv hK k1 (q := cls.getD 5 (R_H, F_H, 7)) rfl) kw_99 kw_100 kw_101 kw_3 kw_102 (by decide +kernel) ⟨Nat.le_of_ble_eq_true rfl, Nat.le_of_ble_eq_true rfl⟩ rfl rfl hl.sz (by first | exact Nat.le_of_ble_eq_true rfl | simp [rf_cat] | simp [rf_cat, Value.category]) d_H_findHanging_29 ⟨by show _ ≤ 64; omega, by show _ ≤ 2048; omega⟩ rfl) hM (fun r1 u H locs hp hM => ?_)
        obtain ⟨rfl, hp⟩ := hp
        have er : r1 = nI (f k) := by
          rcases hp with ⟨-, e⟩ | ⟨z, -⟩
          · rw [e, nI_clamp (by omega)]
          · exact absurd (vp_in_nI c2 (by omega)) z
        subst er
        refine s_callq (r_V 1 [.int (nI (f k))] rfl hx hb hml hown hg (m_T_of l D dA _ _ tb pa nd (f k) av hG.1 hv9 hv) (hM.pre hK hX) (hM.recv hK hG.1.1 (q := cls.getD 1 (R_H, F_H, 7)) rfl) kw_107 kw_108 kw_109 kw_2 kw_110 (by decide +kernel) ⟨Nat.le_of_ble_eq_true rfl, Nat.le_of_ble_eq_true rfl⟩ rfl rfl hl.sz (by first | exact Nat.le_of_ble_eq_true rfl | simp [rf_cat] | simp [rf_cat, Value.category]) d_H_findHanging_32 ⟨by show _ ≤ 64; omega, by show _ ≤ 2048; omega⟩ rfl) hM (fun r1 u H locs hp hM => ?_)
        obtain ⟨rfl, rfl⟩ := hp
        refine q_astore_n (i := 2) hx hb (_) d_H_findHanging_35 rfl hl (by decide) (fun ls hl => ?_)
        simp only [List.set_cons_succ, List.set_cons_zero] at hl
        refine q_al_n (i := 2) hx hb d_H_findHanging_36 rfl hl rfl ?_
        refine s_getr (C := R_N) (T := F_N) (N := 9) (ci := 3) hx hb hg in_N hown hK hM kav rfl 2 (by decide) rfl (hg _ kw_137) (fun _ h9 => h9) d_H_findHanging_37 ?_
        rw [hfr]
        refine q_astore_n (i := 3) hx hb (_) d_H_findHanging_40 rfl hl (by decide) (fun ls hl => ?_)
        simp only [List.set_cons_succ, List.set_cons_zero] at hl
        refine fh_in hx hb hml hown hg hK hX (T := T) (S0 := S0) hL hv ?_ (sr (f k)).length 0 _ r c9 n f H locs ls (by omega) hM hl hI c2 rfl (fun i x y hi => absurd hi (Nat.not_lt_zero i))
        intro S2 r2 c2' n2 f2 H locs ls o hM hl hI2 hk2 hf2 hdone
        refine q_iinc hx hb (nI (k + 1)) d_H_findHanging_61 hl rfl (nI_1 k) (by decide) (fun ls hl => ?_)
        simp only [List.set_cons_succ, List.set_cons_zero] at hl
        refine lv_goto (tgt := 2) hx hb d_H_findHanging_64 (by decide) ?_
        obtain ⟨a1, a2, a3, a4⟩ := hI2
        refine ih (k + 1) S2 r2 c2' n2 f2 H locs ls _ _ (by omega) hM hl ⟨a1, by omega, fun i hi w hw => ?_, a4⟩
        by_cases e : i = k
        · rw [e, hf2] at hw; exact hdone w hw
        · exact a3 i (by omega) w hw
/-- what findHanging does -/
def FhP (S : sS) (h0 tb pa q : Nat) (na : Nat → Nat) (nd : Nat → Option Nat) (rd sr : Nat → List (Nat × Nat)) (nr nc nn : Nat → Nat) (nf : Nat → Nat → Nat) (T : Nat → Prop) (u : sS) : Prop :=
  ∃ r c n f, Fnd u h0 tb pa q na nd rd sr nr nc nn nf r c n f ∧ (∀ v, hp_set f n v ↔ gF (rE rd) T v) ∧ (∀ j v, j ≠ 7 → fl u nd j v = fl S nd j v) ∧ ∀ j, u.2.2.1 h0 j = S.2.2.1 h0 j
set_option maxHeartbeats 4000000 in
set_option maxRecDepth 100000 in
theorem m_H_findHanging (l : Launch) (D : va_G) (dA : Nat → ClassId) (S : sS) (sz : Nat) (h0 tb pa q : Nat) (na : Nat → Nat) (nd : Nat → Option Nat) (rd sr : Nat → List (Nat × Nat)) (nr nc nn : Nat → Nat) (nf : Nat → Nat → Nat) (r c9 n : Nat) (f : Nat → Nat) (hL : fewN nd 1024) (hF : Fnd S h0 tb pa q na nd rd sr nr nc nn nf r c9 n f) :
    cV l y_H_findHanging c_H_findHanging 4 (rmk 4 64 2048) D dA S sz [.ref h0] (FhP S h0 tb pa q na nd rd sr nr nc nn nf (hp_set f n)) (64) (2048) := by
  refine s_met (cc := c_H_findHanging) (maxL := 4) (by decide) rfl (by simp [Value.category]) (by simp [lg_sl, Value.category]) ?_
  intro p e s m args below meth c ls hx hb hr hts hown hlocks hin hml hK hX hsz hM hl
  have hg := gd_hts hts
  have hl : lc ls 4 [some (va_rf (some h0)), none, none, none] := hl
  refine lv_iconst (v := nI 0) hx hb d_H_findHanging_0 (by decide) ?_
  refine q_istore_n (i := 1) hx hb d_H_findHanging_1 rfl hl (by decide) (fun ls hl => ?_)
  simp only [List.set_cons_succ, List.set_cons_zero] at hl
  refine W.widen (k := c9 / 16) (n := 2 * c9) (Nat.zero_le _) (Nat.zero_le _) ?_
  refine fh_out hx hb hml hown hg hK hX (S0 := S) (T := hp_set f n) (nr := nr) (nc := nc) (nn := nn) (nf := nf) hL ?_ 1024 0 S r c9 n f s.heap [] ls _ _ (by omega) hM hl ⟨hF, Nat.zero_le _, fun i hi => absurd hi (Nat.not_lt_zero i), fun v hv => hv, fun v hv => (gF_up (rE rd) (hp_set f n)).1 v hv, fun j v _ => rfl, fun j => rfl⟩
  intro S1 r1 c1 n1 f1 H locs ls hM hI
  obtain ⟨hF1, -, i1, i2, i3, i4, i5⟩ := hI
  have hc1 := hF1.2.2.2.2
  refine W.widen (k := 64) (n := 2048) (by omega) (by omega) ?_
  refine s_vret hx hb hr hM ⟨r1, c1, n1, f1, hF1, fun v => ⟨i3 v, fun hv => gF_le ⟨i2, fun v w hvw hw => ?_⟩ hv⟩, i4, i5⟩ d_H_findHanging_67 hlocks
  obtain ⟨i, hi, e⟩ := hw
  rw [← e] at hvw
  exact i1 i hi v hvw
