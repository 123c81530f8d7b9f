theorem nI_sub {a b : Nat} (h : b ≤ a) : nI a - nI b = nI (a - b) := by
  have e : nI (a - b) + nI b = nI a := by rw [nI_add, Nat.sub_add_cancel h]
  rw [← e, Int32.add_sub_cancel]
/-- a number of the object's own, changed -/
theorem Mz_own {S : sS} {h0 tb pa q : Nat} {na : Nat → Nat} {nd : Nat → Option Nat} {rd sr : Nat → List (Nat × Nat)} {nr nc nn : Nat → Nat} {nf : Nat → Nat → Nat} (h : Mz S h0 tb pa q na nd rd sr nr nc nn nf) (i : Nat) (x : Int32) : Mz (S.1, S.2.1, up2 S.2.2.1 h0 i x, S.2.2.2) h0 tb pa q na nd rd sr nr nc nn nf ∧ ∀ j w, fl (S.1, S.2.1, up2 S.2.2.1 h0 i x, S.2.2.2) nd j w = fl S nd j w := by
  obtain ⟨h1, h2, h3, h4, h5⟩ := h
  refine ⟨⟨h1, h2, Gr9_dep h3 (fun b k hb hk => ⟨rfl, rfl⟩) (fun v b hv j hj => ?_), fun k hk => ?_, h5⟩, fun j w => ?_⟩
  · show up2 S.2.2.1 h0 i x b j = S.2.2.1 b j
    rw [up2_off _ _ (sk_d (h3.nk hv).2.1 h1.1 (by decide))]
  · have hN := h4 k hk
    exact Nm_fl hN (sk_d hN.1 h1.1 (by decide)) (sk_d hN.2.2.1 h1.1 (fun z => by cases z))
  · cases hw : nd w with
    | none => rw [fl_no hw, fl_no hw]
    | some b =>
      rw [fl_at hw, fl_at hw]
      show up2 S.2.2.1 h0 i x b j = _
      rw [up2_off _ _ (sk_d (h3.nk hw).2.1 h1.1 (by decide))]
/-- settleRinged's loop: the first k are settled -/
def SrI (S0 S : sS) (h0 tb pa q : Nat) (na : Nat → Nat) (nd : Nat → Option Nat) (rd sr : Nat → List (Nat × Nat)) (nr nc nn : Nat → Nat) (nf : Nat → Nat → Nat) (wt : Nat → Nat) (k : Nat) : Prop :=
  Mz S h0 tb pa q na nd rd sr nr nc nn nf ∧ (∀ v, hp_set (nf 1) k v → fl S nd 7 v = 0 ∧ fl S nd 6 v = if wt v = 0 then 0 else 1) ∧ (∀ j v, ¬ hp_set (nf 1) k v → fl S nd j v = fl S0 nd j v) ∧ (∀ j v, j ≠ 6 → j ≠ 7 → fl S nd j v = fl S0 nd j v) ∧ ∀ j, S.2.2.1 h0 j = S0.2.2.1 h0 j
set_option maxHeartbeats 4000000 in
set_option maxRecDepth 100000 in
theorem sr_loop {p : Program} {l : Launch} {e : Env} {s : State} {m : MethodId} {args : Array Value} {below : List Frame} {meth : Method} {c : Code} {D : va_G} {dA : Nat → ClassId} {A : Nat → Prop} {Q : State → Prop} (hx : p.tables.exec = Jvm.exec) (hb : c.code = c_H_settleRinged) (hml : c.maxLocals = 3) (hown : s.vm.findClass R_H = some m.cls) (hg : ∀ w ∈ gd, w.before args s = true) (hK : va_K D cls (tys dA) s) (hX : sKx s) {h0 tb pa q : Nat} {na : Nat → Nat} {nd : Nat → Option Nat} {rd sr : Nat → List (Nat × Nat)} {S0 : sS} {nr nc nn : Nat → Nat} {nf : Nat → Nat → Nat} {wt : Nat → Nat} (hB : nn 1 ≤ 1024) (hinj : hp_inj (nf 1) (nn 1)) (hnd : ∀ i, i < nn 1 → nd (nf 1 i) ≠ none) (hwt : ∀ v, hp_set (nf 1) (nn 1) v → fl S0 nd 8 v = nI (wt v) ∧ wt v < 2 ^ 31)
    (kk : ∀ (S : sS) (H : Heap) (locs : List Loc) (ls : Array Slot) (o1 o2 : Option Value), SW D dA A s.heap S H locs → lc ls 3 [some (va_rf (some h0)), o1, o2] → SrI S0 S h0 tb pa q na nd rd sr nr nc nn nf wt (nn 1) → W p l e (rmk 4 0 0) s m args below meth c H locs 0 0 Q (F0 m 56 ls [])) :
    ∀ (d k : Nat) (S : sS) (H : Heap) (locs : List Loc) (ls : Array Slot) (o : Option Value), k + d = nn 1 → SW D dA A s.heap S H locs → lc ls 3 [some (va_rf (some h0)), some (.int (nI k)), o] → SrI S0 S h0 tb pa q na nd rd sr nr nc nn nf wt k → W p l e (rmk 4 0 0) s m args below meth c H locs 0 0 Q (F0 m 2 ls []) := by
  intro d
  induction d with
  | zero =>
    intro k S H locs ls o hk hM hl hI
    have hk0 : k = nn 1 := by omega
    subst hk0
    obtain ⟨kd, rf, it, lg⟩ := S
    have hZ := hI.1
    obtain ⟨⟨kh, e0, e1, e2, e3, e4⟩, ⟨kq, eq⟩, hG, hN, hna, hnr⟩ := id hZ
    dsimp only at kh e0 e1 e2 e3 e4 kq eq
    have hN1 := hN 1 (by decide)
    have hn1 := hN1.2.2.2.1
    have k1 := hN1.1
    dsimp only at hn1 k1
    refine q_iload_n (i := 1) hx hb d_H_settleRinged_2 rfl hl rfl ?_
    refine q_al_n (i := 0) hx hb d_H_settleRinged_3 rfl hl rfl ?_
    refine s_getr (C := R_H) (T := F_H) (N := 7) (ci := 0) hx hb hg in_H hown hK hM kh rfl 2 (by decide) rfl (hg _ kw_67) (fun _ h9 => h9) d_H_settleRinged_4 ?_
    rw [e2]
    refine s_geti (C := R_U) (T := F_U) (N := 2) (ci := 5) hx hb hg in_U hown hK hM k1 rfl 1 (by decide) rfl (hg _ kw_46) (fun _ h9 => h9) d_H_settleRinged_7 ?_
    rw [hn1]
    refine n_ge (tgt := 56) hx hb d_H_settleRinged_10 (by decide) (by omega) (by omega) (fun c1 => ?_) (fun c1 => ?_)
    · exact kk _ H locs ls _ _ hM hl hI
    · omega
  | succ d ih =>
    intro k S H locs ls o hk hM hl hI
    obtain ⟨kd, rf, it, lg⟩ := S
    obtain ⟨hZ, i1, i2, i3, i4⟩ := hI
    obtain ⟨⟨kh, e0, e1, e2, e3, e4⟩, ⟨kq, eq⟩, hG, hN, hna, hnr⟩ := id hZ
    dsimp only at kh e0 e1 e2 e3 e4 kq eq
    have hkn : k < nn 1 := by omega
    have hN1 := hN 1 (by decide)
    have hn1 := hN1.2.2.2.1
    have k1 := hN1.1
    dsimp only at hn1 k1
    obtain ⟨a, ha⟩ : ∃ a, nd (nf 1 k) = some a := Option.ne_none_iff_exists'.mp (hnd k hkn)
    obtain ⟨hv9, ka, hva⟩ := hG.nk ha
    dsimp only at ka hva
    have hout : ¬ hp_set (nf 1) k (nf 1 k) := fun ⟨i, hi, e⟩ => by have := hinj i k (by omega) hkn e; omega
    obtain ⟨hw1, hw2⟩ := hwt (nf 1 k) ⟨k, hkn, rfl⟩
    have e8 : it a 8 = nI (wt (nf 1 k)) := by
      have := i3 8 (nf 1 k) (by decide) (by decide)
      rw [hw1, fl_at ha] at this
      exact this
    refine q_iload_n (i := 1) hx hb d_H_settleRinged_2 rfl hl rfl ?_
    refine q_al_n (i := 0) hx hb d_H_settleRinged_3 rfl hl rfl ?_
    refine s_getr (C := R_H) (T := F_H) (N := 7) (ci := 0) hx hb hg in_H hown hK hM kh rfl 2 (by decide) rfl (hg _ kw_67) (fun _ h9 => h9) d_H_settleRinged_4 ?_
    rw [e2]
    refine s_geti (C := R_U) (T := F_U) (N := 2) (ci := 5) hx hb hg in_U hown hK hM k1 rfl 1 (by decide) rfl (hg _ kw_46) (fun _ h9 => h9) d_H_settleRinged_7 ?_
    rw [hn1]
    refine n_ge (tgt := 56) hx hb d_H_settleRinged_10 (by decide) (by omega) (by omega) (fun c1 => ?_) (fun c1 => ?_)
    · omega
    · refine q_al_n (i := 0) hx hb d_H_settleRinged_13 rfl hl rfl ?_
      refine s_getr (C := R_H) (T := F_H) (N := 7) (ci := 0) hx hb hg in_H hown hK hM kh rfl 0 (by decide) rfl (hg _ kw_65) (fun _ h9 => h9) d_H_settleRinged_14 ?_
      rw [e0]
      refine q_al_n (i := 0) hx hb d_H_settleRinged_17 rfl hl rfl ?_
      refine s_getr (C := R_H) (T := F_H) (N := 7) (ci := 0) hx hb hg in_H hown hK hM kh rfl 2 (by decide) rfl (hg _ kw_67) (fun _ h9 => h9) d_H_settleRinged_18 ?_
      rw [e2]
      refine q_iload_n (i := 1) hx hb d_H_settleRinged_21 rfl hl rfl ?_
      refine s_calli (r_V 1 [.int (nI k)] rfl hx hb hml hown hg (m_U_at l D dA _ _ (na 1) (nr 1) (nc 1) (nn 1) (nf 1) (nI k) hN1) (hM.pre hK hX) (hM.recv hK k1 (q := cls.getD 5 (R_H, F_H, 7)) rfl) kw_99 kw_100 kw_101 kw_3 kw_102 (by decide +kernel) ⟨Nat.le_of_ble_eq_true rfl, Nat.le_of_ble_eq_true rfl⟩ rfl rfl hl.sz (by first | exact Nat.le_of_ble_eq_true rfl | simp [rf_cat] | simp [rf_cat, Value.category]) d_H_settleRinged_22 ⟨Nat.le_refl _, Nat.le_refl _⟩ rfl) hM (fun r1 u H locs hp hM => ?_)
      obtain ⟨rfl, hp⟩ := hp
      have er : r1 = nI (nf 1 k) := by
        rcases hp with ⟨-, e⟩ | ⟨z, -⟩
        · rw [e, nI_clamp (by omega)]
        · exact absurd (vp_in_nI hkn (by omega)) z
      subst er
      refine s_callq (r_V 1 [.int (nI (nf 1 k))] rfl hx hb hml hown hg (m_T_of l D dA _ _ tb pa nd (nf 1 k) a hG.1 hv9 ha) (hM.pre hK hX) (hM.recv hK hG.1.1 (q := cls.getD 1 (R_H, F_H, 7)) rfl) kw_107 kw_108 kw_109 kw_2 kw_110 (by decide +kernel) ⟨Nat.le_of_ble_eq_true rfl, Nat.le_of_ble_eq_true rfl⟩ rfl rfl hl.sz (by first | exact Nat.le_of_ble_eq_true rfl | simp [rf_cat] | simp [rf_cat, Value.category]) d_H_settleRinged_25 ⟨Nat.le_refl _, Nat.le_refl _⟩ rfl) hM (fun r1 u H locs hp hM => ?_)
      obtain ⟨rfl, rfl⟩ := hp
      refine q_astore_n (i := 2) hx hb (_) d_H_settleRinged_28 rfl hl (by decide) (fun ls hl => ?_)
      simp only [List.set_cons_succ, List.set_cons_zero] at hl
      refine q_al_n (i := 2) hx hb d_H_settleRinged_29 rfl hl rfl ?_
      refine lv_iconst (v := 0) hx hb d_H_settleRinged_30 (by decide) ?_
      refine s_puti (C := R_N) (T := F_N) (N := 9) (ci := 3) hx hb hg in_N ft_N ft_N_ok fn_N hown hK hM ka rfl 7 (by decide) rfl (hg _ kw_144) (fun _ h9 => h9) rfl rfl rfl d_H_settleRinged_31 (fun H locs hM => ?_)
      obtain ⟨hZ1, f1⟩ := Mz_flag hZ ha (i := 7) (by decide) 0
      dsimp only at hZ1 f1
      have hha : h0 ≠ a := sk_d kh ka (by decide)
      have tail : ∀ (x : Int32) (H : Heap) (locs : List Loc), x = (if wt (nf 1 k) = 0 then 0 else 1) → SW D dA A s.heap (kd, rf, up2 (up2 it a 7 0) a 6 x, lg) H locs → W p l e (rmk 4 0 0) s m args below meth c H locs 0 0 Q (F0 m 50 ls []) := by
        intro x H locs hxe hM
        obtain ⟨hZ2, f2⟩ := Mz_flag hZ1 ha (i := 6) (by decide) x
        dsimp only at hZ2 f2
        refine q_iinc hx hb (nI (k + 1)) d_H_settleRinged_50 hl rfl (nI_1 k) (by decide) (fun ls hl => ?_)
        simp only [List.set_cons_succ, List.set_cons_zero] at hl
        refine lv_goto (tgt := 2) hx hb d_H_settleRinged_53 (by decide) ?_
        refine ih (k + 1) _ H locs ls _ (by omega) hM hl ⟨hZ2, fun v hs => ?_, fun j v hs => ?_, fun j v hj6 hj7 => ?_, fun j => ?_⟩
        · rw [f2, f2, f1, f1]
          by_cases e : v = nf 1 k
          · rw [if_neg (fun y => by cases y.2), if_pos ⟨e, rfl⟩, if_pos ⟨e, rfl⟩, hxe, e]; exact ⟨rfl, rfl⟩
          · rw [if_neg (fun y => e y.1), if_neg (fun y => e y.1), if_neg (fun y => e y.1), if_neg (fun y => e y.1)]
            refine i1 v ?_
            obtain ⟨i, q1, q2⟩ := hs
            have hik : i ≠ k := fun z => e (by rw [← q2, z])
            exact ⟨i, by omega, q2⟩
        · have e : v ≠ nf 1 k := fun y => hs ⟨k, by omega, y.symm⟩
          rw [f2, f1, if_neg (fun y => e y.1), if_neg (fun y => e y.1)]
          exact i2 j v (fun ⟨i, q1, q2⟩ => hs ⟨i, by omega, q2⟩)
        · rw [f2, f1, if_neg (fun y => hj6 y.2), if_neg (fun y => hj7 y.2)]; exact i3 j v hj6 hj7
        · show up2 (up2 it a 7 0) a 6 x h0 j = _
          rw [up2_off _ _ hha, up2_off _ _ hha]; exact i4 j
      refine q_al_n (i := 2) hx hb d_H_settleRinged_34 rfl hl rfl ?_
      refine q_al_n (i := 2) hx hb d_H_settleRinged_35 rfl hl rfl ?_
      refine s_geti (C := R_N) (T := F_N) (N := 9) (ci := 3) hx hb hg in_N hown hK hM ka rfl 8 (by decide) rfl (hg _ kw_145) (fun _ h9 => h9) d_H_settleRinged_36 ?_
      rw [up2_ne _ _ (by decide), e8]
      refine lv_if_le (tgt := 46) hx hb d_H_settleRinged_39 (by decide) (fun c3 => ?_) (fun c3 => ?_)
      · have w0 : wt (nf 1 k) = 0 := by
          refine Classical.byContradiction fun z => ?_
          exact nI_nle (by omega) hw2 c3
        refine lv_iconst (v := 0) hx hb d_H_settleRinged_46 (by decide) ?_
        refine s_puti (C := R_N) (T := F_N) (N := 9) (ci := 3) hx hb hg in_N ft_N ft_N_ok fn_N hown hK hM ka rfl 6 (by decide) rfl (hg _ kw_143) (fun _ h9 => h9) rfl rfl rfl d_H_settleRinged_47 (fun H locs hM => ?_)
        exact tail 0 H locs (by rw [if_pos w0]) hM
      · have w0 : ¬ wt (nf 1 k) = 0 := fun z => c3 (by rw [z]; decide)
        refine lv_iconst (v := 1) hx hb d_H_settleRinged_42 (by decide) ?_
        refine lv_goto (tgt := 47) hx hb d_H_settleRinged_43 (by decide) ?_
        refine s_puti (C := R_N) (T := F_N) (N := 9) (ci := 3) hx hb hg in_N ft_N ft_N_ok fn_N hown hK hM ka rfl 6 (by decide) rfl (hg _ kw_143) (fun _ h9 => h9) rfl rfl rfl d_H_settleRinged_47 (fun H locs hM => ?_)
        exact tail 1 H locs (by rw [if_neg w0]) hM
/-- what settleRinged does -/
def SrP (S : sS) (h0 tb pa q : Nat) (na : Nat → Nat) (nd : Nat → Option Nat) (rd sr : Nat → List (Nat × Nat)) (nr nc nn : Nat → Nat) (nf : Nat → Nat → Nat) (wt : Nat → Nat) (u : sS) : Prop :=
  Mz u h0 tb pa q na nd rd sr nr nc nn nf ∧ (∀ v, hp_set (nf 1) (nn 1) v → fl u nd 7 v = 0 ∧ fl u nd 6 v = if wt v = 0 then 0 else 1) ∧ (∀ j v, ¬ hp_set (nf 1) (nn 1) v → fl u nd j v = fl S nd j v) ∧ (∀ j v, j ≠ 6 → j ≠ 7 → fl u nd j v = fl S nd j v) ∧ u.2.2.1 h0 6 = nI (nn 1 - nn 2) ∧ u.2.2.1 h0 5 = S.2.2.1 h0 5
set_option maxHeartbeats 4000000 in
set_option maxRecDepth 100000 in
theorem m_H_settleRinged (l : Launch) (D : va_G) (dA : Nat → ClassId) (S : sS) (sz : Nat) (h0 tb pa q : Nat) (na : Nat → Nat) (nd : Nat → Option Nat) (rd sr : Nat → List (Nat × Nat)) (nr nc nn : Nat → Nat) (nf : Nat → Nat → Nat) (wt : Nat → Nat) (hZ : Mz S h0 tb pa q na nd rd sr nr nc nn nf) (hB : nn 1 ≤ 1024) (hinj : hp_inj (nf 1) (nn 1)) (hnd : ∀ i, i < nn 1 → nd (nf 1 i) ≠ none) (hwt : ∀ v, hp_set (nf 1) (nn 1) v → fl S nd 8 v = nI (wt v) ∧ wt v < 2 ^ 31) (h21 : nn 2 ≤ nn 1) :
    cV l y_H_settleRinged c_H_settleRinged 3 (rmk 4 0 0) D dA S sz [.ref h0] (SrP S h0 tb pa q na nd rd sr nr nc nn nf wt) (0) (0) := by
  refine s_met (cc := c_H_settleRinged) (maxL := 3) (by decide) rfl (by simp [Value.category]) (by simp [lg_sl, Value.category]) ?_
  intro p e s m args below meth c ls hx hb hr hts hown hlocks hin hml hK hX hsz hM hl
  have hg := gd_hts hts
  have hl : lc ls 3 [some (va_rf (some h0)), none, none] := hl
  refine lv_iconst (v := nI 0) hx hb d_H_settleRinged_0 (by decide) ?_
  refine q_istore_n (i := 1) hx hb d_H_settleRinged_1 rfl hl (by decide) (fun ls hl => ?_)
  simp only [List.set_cons_succ, List.set_cons_zero] at hl
  refine sr_loop hx hb hml hown hg hK hX (S0 := S) (nr := nr) (nc := nc) (nn := nn) (nf := nf) (wt := wt) hB hinj hnd hwt ?_ (nn 1) 0 S s.heap [] ls _ (by omega) hM hl ⟨hZ, fun v ⟨i, hi, _⟩ => absurd hi (Nat.not_lt_zero i), fun j v _ => rfl, fun j v _ _ => rfl, fun j => rfl⟩
  intro S1 H locs ls o1 o2 hM hl hI
  obtain ⟨kd, rf, it, lg⟩ := S1
  obtain ⟨hZ1, i1, i2, i3, i4⟩ := hI
  obtain ⟨⟨kh, e0, e1, e2, e3, e4⟩, ⟨kq, eq⟩, hG, hN, hna, hnr⟩ := id hZ1
  dsimp only at kh e0 e1 e2 e3 e4 kq eq
  have hN1 := hN 1 (by decide)
  have hn1 := hN1.2.2.2.1
  have k1 := hN1.1
  have hN2 := hN 2 (by decide)
  have hn2 := hN2.2.2.2.1
  have k2 := hN2.1
  dsimp only at hn1 k1 hn2 k2
  refine q_al_n (i := 0) hx hb d_H_settleRinged_56 rfl hl rfl ?_
  refine q_al_n (i := 0) hx hb d_H_settleRinged_57 rfl hl rfl ?_
  refine s_getr (C := R_H) (T := F_H) (N := 7) (ci := 0) hx hb hg in_H hown hK hM kh rfl 2 (by decide) rfl (hg _ kw_67) (fun _ h9 => h9) d_H_settleRinged_58 ?_
  rw [e2]
  refine s_geti (C := R_U) (T := F_U) (N := 2) (ci := 5) hx hb hg in_U hown hK hM k1 rfl 1 (by decide) rfl (hg _ kw_46) (fun _ h9 => h9) d_H_settleRinged_61 ?_
  rw [hn1]
  refine q_al_n (i := 0) hx hb d_H_settleRinged_64 rfl hl rfl ?_
  refine s_getr (C := R_H) (T := F_H) (N := 7) (ci := 0) hx hb hg in_H hown hK hM kh rfl 3 (by decide) rfl (hg _ kw_68) (fun _ h9 => h9) d_H_settleRinged_65 ?_
  rw [e3]
  refine s_geti (C := R_U) (T := F_U) (N := 2) (ci := 5) hx hb hg in_U hown hK hM k2 rfl 1 (by decide) rfl (hg _ kw_46) (fun _ h9 => h9) d_H_settleRinged_68 ?_
  rw [hn2]
  refine lv_isub hx hb d_H_settleRinged_71 ?_
  rw [nI_sub h21]
  refine s_puti (C := R_H) (T := F_H) (N := 7) (ci := 0) hx hb hg in_H ft_H ft_H_ok fn_H hown hK hM kh rfl 6 (by decide) rfl (hg _ kw_71) (fun _ h9 => h9) rfl rfl rfl d_H_settleRinged_72 (fun H locs hM => ?_)
  obtain ⟨hZ2, f2⟩ := Mz_own hZ1 6 (nI (nn 1 - nn 2))
  dsimp only at hZ2 f2
  refine s_vret hx hb hr hM ⟨hZ2, fun v hv => ?_, fun j v hv => ?_, fun j v h6 h7 => ?_, ?_, ?_⟩ d_H_settleRinged_75 hlocks
  · rw [f2, f2]; exact i1 v hv
  · rw [f2]; exact i2 j v hv
  · rw [f2]; exact i3 j v h6 h7
  · show up2 it h0 6 _ h0 6 = _
    rw [up2_self]
  · show up2 it h0 6 _ h0 5 = _
    rw [up2_ne _ _ (by decide)]; exact i4 5
