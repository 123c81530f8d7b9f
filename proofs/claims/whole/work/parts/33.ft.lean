/-- findTouched's loop, k of the touched ones found -/
def FtI (S0 S : sS) (h0 tb pa q : Nat) (na : Nat → Nat) (nd : Nat → Option Nat) (rd sr : Nat → List (Nat × Nat)) (nr0 nc0 nn : Nat → Nat) (nf0 : Nat → Nat → Nat) (nr nc : Nat → Nat) (nf : Nat → Nat → Nat) (k : Nat) : Prop :=
  Mz S h0 tb pa q na nd rd sr nr nc (va_up nn 1 k) nf ∧ (∀ i, i < k → nf 1 i = nf0 0 i) ∧ (∀ i, i ≠ 1 → nf i = nf0 i ∧ nc i = nc0 i ∧ nr i = nr0 i) ∧ pw (nc 1) ∧ (∀ v, fl S nd 5 v ≠ 0 → ∃ i, k ≤ i ∧ i < nn 0 ∧ nf0 0 i = v) ∧ (∀ v, (hp_set (nf0 0) k v → fl S nd 7 v = 1) ∧ (¬ hp_set (nf0 0) k v → fl S nd 7 v = 0)) ∧ (∀ j v, j ≠ 5 → j ≠ 7 → fl S nd j v = fl S0 nd j v) ∧ ∀ j, S.2.2.1 h0 j = S0.2.2.1 h0 j
set_option maxHeartbeats 4000000 in
set_option maxRecDepth 100000 in
theorem ft_loop {p : Program} {l : Launch} {e : Env} {s : State} {m : MethodId} {args : Array Value} {below : List Frame} {meth : Method} {c : Code} {D : va_G} {dA : Nat → ClassId} {A : Nat → Prop} {Q : State → Prop} (hx : p.tables.exec = Jvm.exec) (hb : c.code = c_H_findTouched) (hml : c.maxLocals = 3) (hown : s.vm.findClass R_H = some m.cls) (hg : ∀ w ∈ gd, w.before args s = true) (hK : va_K D cls (tys dA) s) (hX : sKx s) {h0 tb pa q : Nat} {na : Nat → Nat} {nd : Nat → Option Nat} {rd sr : Nat → List (Nat × Nat)} {S0 : sS} {nr0 nc0 nn : Nat → Nat} {nf0 : Nat → Nat → Nat} (hinj : hp_inj (nf0 0) (nn 0)) (hnd : ∀ i, i < nn 0 → nd (nf0 0 i) ≠ none) (hB : nn 0 ≤ 1024)
    (kk : ∀ (S : sS) (nr nc : Nat → Nat) (nf : Nat → Nat → Nat) (H : Heap) (locs : List Loc) (ls : Array Slot) (o : Option Value), SW D dA A s.heap S H locs → lc ls 3 [some (va_rf (some h0)), some (.int (nI (nn 0))), o] → FtI S0 S h0 tb pa q na nd rd sr nr0 nc0 nn nf0 nr nc nf (nn 0) → W p l e (rmk 4 64 2048) s m args below meth c H locs 64 2048 Q (F0 m 45 ls [])) :
    ∀ (d k : Nat) (S : sS) (nr nc : Nat → Nat) (nf : Nat → Nat → Nat) (H : Heap) (locs : List Loc) (ls : Array Slot) (o : Option Value), k + d = nn 0 → SW D dA A s.heap S H locs → lc ls 3 [some (va_rf (some h0)), some (.int (nI k)), o] → FtI S0 S h0 tb pa q na nd rd sr nr0 nc0 nn nf0 nr nc nf k → W p l e (rmk 4 64 2048) s m args below meth c H locs (nc 1 / 16) (2 * nc 1) Q (F0 m 2 ls []) := by
  intro d
  induction d with
  | zero =>
    intro k S nr nc nf H locs ls o hk hM hl hI
    have hk0 : k = nn 0 := by omega
    subst hk0
    obtain ⟨kd, rf, it, lg⟩ := S
    have hZ := hI.1
    have hc9 := hI.2.2.2.1
    obtain ⟨⟨kh, e0, e1, e2, e3, e4⟩, ⟨kq, eq⟩, hG, hN, hna, hnr⟩ := id hZ
    dsimp only at kh e0 e1 e2 e3 e4 kq eq
    have hn0 := (hN 0 (by decide)).2.2.2.1
    have k0 := (hN 0 (by decide)).1
    dsimp only at hn0 k0
    rw [va_up_ne _ _ (by decide)] at hn0
    refine q_iload_n (i := 1) hx hb d_H_findTouched_2 rfl hl rfl ?_
    refine q_al_n (i := 0) hx hb d_H_findTouched_3 rfl hl rfl ?_
    refine s_getr (C := R_H) (T := F_H) (N := 7) (ci := 0) hx hb hg in_H hown hK hM kh rfl 1 (by decide) rfl (hg _ kw_66) (fun _ h9 => h9) d_H_findTouched_4 ?_
    rw [e1]
    refine s_geti (C := R_U) (T := F_U) (N := 2) (ci := 5) hx hb hg in_U hown hK hM k0 rfl 1 (by decide) rfl (hg _ kw_46) (fun _ h9 => h9) d_H_findTouched_7 ?_
    rw [hn0]
    refine n_ge (tgt := 45) hx hb d_H_findTouched_10 (by decide) (by omega) (by omega) (fun c1 => ?_) (fun c1 => ?_)
    · refine W.widen (k := 64) (n := 2048) (by omega) (by omega) ?_
      exact kk _ nr nc nf H locs ls o hM hl hI
    · omega
  | succ d ih =>
    intro k S nr nc nf H locs ls o hk hM hl hI
    obtain ⟨kd, rf, it, lg⟩ := S
    obtain ⟨hZ, i1, i2, hc9, i4, i5, i6, i7⟩ := hI
    obtain ⟨⟨kh, e0, e1, e2, e3, e4⟩, ⟨kq, eq⟩, hG, hN, hna, hnr⟩ := id hZ
    dsimp only at kh e0 e1 e2 e3 e4 kq eq
    have hkn : k < nn 0 := by omega
    have hN0 := hN 0 (by decide)
    have hn0 := hN0.2.2.2.1
    have k0 := hN0.1
    dsimp only at hn0 k0
    rw [va_up_ne _ _ (by decide)] at hn0
    have hN1 := hN 1 (by decide)
    have hle1 : va_up nn 1 k 1 ≤ nc 1 := hN1.2.2.2.2.1
    have h161 : 16 ≤ nc 1 := hN1.2.2.2.2.2.1
    rw [va_up_self] at hle1
    obtain ⟨a, ha⟩ : ∃ a, nd (nf0 0 k) = some a := Option.ne_none_iff_exists'.mp (hnd k hkn)
    have ef : nf 0 k = nf0 0 k := by rw [(i2 0 (by decide)).1]
    obtain ⟨hv9, ka, hva⟩ := hG.nk ha
    dsimp only at ka hva
    refine q_iload_n (i := 1) hx hb d_H_findTouched_2 rfl hl rfl ?_
    refine q_al_n (i := 0) hx hb d_H_findTouched_3 rfl hl rfl ?_
    refine s_getr (C := R_H) (T := F_H) (N := 7) (ci := 0) hx hb hg in_H hown hK hM kh rfl 1 (by decide) rfl (hg _ kw_66) (fun _ h9 => h9) d_H_findTouched_4 ?_
    rw [e1]
    refine s_geti (C := R_U) (T := F_U) (N := 2) (ci := 5) hx hb hg in_U hown hK hM k0 rfl 1 (by decide) rfl (hg _ kw_46) (fun _ h9 => h9) d_H_findTouched_7 ?_
    rw [hn0]
    refine n_ge (tgt := 45) hx hb d_H_findTouched_10 (by decide) (by omega) (by omega) (fun c1 => ?_) (fun c1 => ?_)
    · omega
    · refine q_al_n (i := 0) hx hb d_H_findTouched_13 rfl hl rfl ?_
      refine s_getr (C := R_H) (T := F_H) (N := 7) (ci := 0) hx hb hg in_H hown hK hM kh rfl 0 (by decide) rfl (hg _ kw_65) (fun _ h9 => h9) d_H_findTouched_14 ?_
      rw [e0]
      refine q_al_n (i := 0) hx hb d_H_findTouched_17 rfl hl rfl ?_
      refine s_getr (C := R_H) (T := F_H) (N := 7) (ci := 0) hx hb hg in_H hown hK hM kh rfl 1 (by decide) rfl (hg _ kw_66) (fun _ h9 => h9) d_H_findTouched_18 ?_
      rw [e1]
      refine q_iload_n (i := 1) hx hb d_H_findTouched_21 rfl hl rfl ?_
      refine s_calli (r_V 1 [.int (nI k)] rfl hx hb hml hown hg (m_U_at l D dA _ _ (na 0) (nr 0) (nc 0) (va_up nn 1 k 0) (nf 0) (nI k) hN0) (hM.pre hK hX) (hM.recv hK k0 (q := cls.getD 5 (R_H, F_H, 7)) rfl) kw_99 kw_100 kw_101 kw_3 kw_102 (by decide +kernel) ⟨Nat.le_of_ble_eq_true rfl, Nat.le_of_ble_eq_true rfl⟩ rfl rfl hl.sz (by first | exact Nat.le_of_ble_eq_true rfl | simp [rf_cat] | simp [rf_cat, Value.category]) d_H_findTouched_22 ⟨by show _ ≤ 64; omega, by show _ ≤ 2048; omega⟩ rfl) hM (fun r1 u H locs hp hM => ?_)
      obtain ⟨rfl, hp⟩ := hp
      have er : r1 = nI (nf0 0 k) := by
        rcases hp with ⟨-, e⟩ | ⟨z, -⟩
        · rw [e, nI_clamp (by omega), ef]
        · exact absurd (vp_in_nI (by rw [va_up_ne _ _ (by decide)]; exact hkn) (by rw [va_up_ne _ _ (by decide)]; omega)) z
      subst er
      refine s_callq (r_V 1 [.int (nI (nf0 0 k))] rfl hx hb hml hown hg (m_T_of l D dA _ _ tb pa nd (nf0 0 k) a hG.1 hv9 ha) (hM.pre hK hX) (hM.recv hK hG.1.1 (q := cls.getD 1 (R_H, F_H, 7)) rfl) kw_107 kw_108 kw_109 kw_2 kw_110 (by decide +kernel) ⟨Nat.le_of_ble_eq_true rfl, Nat.le_of_ble_eq_true rfl⟩ rfl rfl hl.sz (by first | exact Nat.le_of_ble_eq_true rfl | simp [rf_cat] | simp [rf_cat, Value.category]) d_H_findTouched_25 ⟨by show _ ≤ 64; omega, by show _ ≤ 2048; omega⟩ rfl) hM (fun r1 u H locs hp hM => ?_)
      obtain ⟨rfl, rfl⟩ := hp
      refine q_astore_n (i := 2) hx hb (_) d_H_findTouched_28 rfl hl (by decide) (fun ls hl => ?_)
      simp only [List.set_cons_succ, List.set_cons_zero] at hl
      refine q_al_n (i := 2) hx hb d_H_findTouched_29 rfl hl rfl ?_
      refine lv_iconst (v := 0) hx hb d_H_findTouched_30 (by decide) ?_
      refine s_puti (C := R_N) (T := F_N) (N := 9) (ci := 3) hx hb hg in_N ft_N ft_N_ok fn_N hown hK hM ka rfl 5 (by decide) rfl (hg _ kw_142) (fun _ h9 => h9) rfl rfl rfl d_H_findTouched_31 (fun H locs hM => ?_)
      have hF1 := Mz_flag hZ ha (i := 5) (by decide) 0
      obtain ⟨hZ1, f1⟩ := hF1
      have h70 : up2 it a 5 0 a 7 = 0 := by
        have h1 := (i5 (nf0 0 k)).2 (fun ⟨i, hi, e⟩ => by have := hinj i k (by omega) hkn e; omega)
        rw [fl_at ha] at h1
        rw [up2_ne _ _ (by decide)]; exact h1
      refine q_al_n (i := 0) hx hb d_H_findTouched_34 rfl hl rfl ?_
      refine q_al_n (i := 2) hx hb d_H_findTouched_35 rfl hl rfl ?_
      have hNf := hZ1.2.2.2.1 1 (by decide)
      rw [va_up_self] at hNf
      refine s_callv (r_V 1 [.ref a] rfl hx hb hml hown hg (m_H_markFound l D dA _ _ h0 tb (na 0) (na 1) (na 2) q a (nr 1) (nc 1) k (nf0 0 k) (nf 1) hZ1.1 ka (by show up2 it a 5 0 a 0 = _; rw [up2_ne _ _ (by decide)]; exact hva) hNf (by omega)) (hM.pre hK hX) (hM.recv hK kh (q := cls.getD 0 (R_H, F_H, 7)) rfl) kw_165 kw_167 ks_2 kw_1 kw_168 (by decide +kernel) ⟨Nat.le_of_ble_eq_true rfl, Nat.le_of_ble_eq_true rfl⟩ rfl rfl hl.sz (by first | exact Nat.le_of_ble_eq_true rfl | simp [rf_cat] | simp [rf_cat, Value.category]) d_H_findTouched_36 ⟨by show _ ≤ 64; split <;> omega, by show _ ≤ 2048; split <;> omega⟩ rfl) hM (fun u H locs hp hM => ?_)
      rcases hp with ⟨z, -⟩ | ⟨-, hA⟩
      · exact absurd h70 z
      · have hF2 := Mz_flag hZ1 ha (i := 7) (by decide) 1
        obtain ⟨hZ2, f2⟩ := hF2
        have hA2 : AddP ((kd, rf, up2 it a 5 0, lg).1, (kd, rf, up2 it a 5 0, lg).2.1, up2 (kd, rf, up2 it a 5 0, lg).2.2.1 a 7 1, (kd, rf, up2 it a 5 0, lg).2.2.2) (na 1) (nr 1) (nc 1) (va_up nn 1 k 1) (nf 1) (nf0 0 k) u := by rw [va_up_self]; exact hA
        obtain ⟨r', hZ3, f3, g3⟩ := Mz_add hZ2 (i := 1) (by decide) hA2
        rw [va_up_self] at hZ3
        have enn : va_up (va_up nn 1 k) 1 (k + 1) = va_up nn 1 (k + 1) := by
          funext j
          by_cases e : j = 1
          · rw [e, va_up_self, va_up_self]
          · rw [va_up_ne _ _ e, va_up_ne _ _ e, va_up_ne _ _ e]
        rw [enn] at hZ3
        have efl : ∀ j v, fl u nd j v = if v = nf0 0 k ∧ j = 7 then 1 else if v = nf0 0 k ∧ j = 5 then 0 else fl (kd, rf, it, lg) nd j v := fun j v => by rw [f3, f2, f1]
        refine W.widen (k := va_up nc 1 (if k < nc 1 then nc 1 else 2 * k) 1 / 16) (n := 2 * va_up nc 1 (if k < nc 1 then nc 1 else 2 * k) 1) ?_ ?_ ?_
        · rw [va_up_self]
          by_cases z : k < nc 1
          · rw [if_pos z, if_neg (fun y => y.2 z)]; omega
          · rw [if_neg z]; split <;> omega
        · rw [va_up_self]
          by_cases z : k < nc 1
          · rw [if_pos z, if_neg (fun y => y.2 z)]; omega
          · rw [if_neg z]; split <;> omega
        refine q_iinc hx hb (nI (k + 1)) d_H_findTouched_39 hl rfl (nI_1 k) (by decide) (fun ls hl => ?_)
        simp only [List.set_cons_succ, List.set_cons_zero] at hl
        refine lv_goto (tgt := 2) hx hb d_H_findTouched_42 (by decide) ?_
        refine ih (k + 1) _ _ _ _ H locs ls _ (by omega) hM hl ⟨hZ3, fun i hi => ?_, fun i hi => ?_, ?_, fun v hv => ?_, fun v => ⟨fun hs => ?_, fun hs => ?_⟩, fun j v j5 j7 => ?_, fun j => ?_⟩
        · rw [va_up_self]
          by_cases e : i = k
          · rw [e, if_pos rfl]
          · rw [if_neg e]; exact i1 i (by omega)
        · rw [va_up_ne _ _ hi, va_up_ne _ _ hi, va_up_ne _ _ hi]; exact i2 i hi
        · rw [va_up_self]; split <;> omega
        · rw [efl] at hv
          by_cases e : v = nf0 0 k
          · rw [if_neg (fun y => by cases y.2), if_pos ⟨e, rfl⟩] at hv; exact absurd rfl hv
          · rw [if_neg (fun y => e y.1), if_neg (fun y => e y.1)] at hv
            obtain ⟨i, q1, q2, q3⟩ := i4 v hv
            have hik : i ≠ k := fun z => e (by rw [← q3, z])
            exact ⟨i, by omega, q2, q3⟩
        · rw [efl]
          by_cases e : v = nf0 0 k
          · rw [if_pos ⟨e, rfl⟩]
          · rw [if_neg (fun y => e y.1), if_neg (fun y => e y.1)]
            refine (i5 v).1 ?_
            obtain ⟨i, q1, q2⟩ := hs
            have hik : i ≠ k := fun z => e (by rw [← q2, z])
            exact ⟨i, by omega, q2⟩
        · have e : v ≠ nf0 0 k := fun y => hs ⟨k, by omega, y.symm⟩
          rw [efl, if_neg (fun y => e y.1), if_neg (fun y => e y.1)]
          exact (i5 v).2 (fun ⟨i, q1, q2⟩ => hs ⟨i, by omega, q2⟩)
        · rw [efl, if_neg (fun y => j7 y.2), if_neg (fun y => j5 y.2)]; exact i6 j v j5 j7
        · have hha : h0 ≠ a := sk_d kh ka (by decide)
          rw [g3]
          show up2 (up2 it a 5 0) a 7 1 h0 j = _
          rw [up2_off _ _ hha, up2_off _ _ hha]; exact i7 j
/-- what findTouched does -/
def FtP (S : sS) (h0 tb pa q : Nat) (na : Nat → Nat) (nd : Nat → Option Nat) (rd sr : Nat → List (Nat × Nat)) (nr0 nc0 nn : Nat → Nat) (nf0 : Nat → Nat → Nat) (u : sS) : Prop :=
  ∃ nr nc nf, Mz u h0 tb pa q na nd rd sr nr nc (va_up (va_up nn 1 (nn 0)) 0 0) nf ∧ (∀ i, i < nn 0 → nf 1 i = nf0 0 i) ∧ (∀ i, i ≠ 1 → nf i = nf0 i ∧ nc i = nc0 i ∧ nr i = nr0 i) ∧ pw (nc 1) ∧ (∀ v, fl u nd 5 v = 0) ∧ (∀ v, (hp_set (nf0 0) (nn 0) v → fl u nd 7 v = 1) ∧ (¬ hp_set (nf0 0) (nn 0) v → fl u nd 7 v = 0)) ∧ (∀ j v, j ≠ 5 → j ≠ 7 → fl u nd j v = fl S nd j v) ∧ ∀ j, u.2.2.1 h0 j = S.2.2.1 h0 j
set_option maxHeartbeats 4000000 in
set_option maxRecDepth 100000 in
theorem m_H_findTouched (l : Launch) (D : va_G) (dA : Nat → ClassId) (S : sS) (sz : Nat) (h0 tb pa q : Nat) (na : Nat → Nat) (nd : Nat → Option Nat) (rd sr : Nat → List (Nat × Nat)) (nr nc nn : Nat → Nat) (nf : Nat → Nat → Nat) (hZ : Mz S h0 tb pa q na nd rd sr nr nc nn nf) (h1 : nn 1 = 0) (hinj : hp_inj (nf 0) (nn 0)) (hnd : ∀ i, i < nn 0 → nd (nf 0 i) ≠ none) (hB : nn 0 ≤ 1024) (hc : pw (nc 1)) (h5 : ∀ v, fl S nd 5 v ≠ 0 → hp_set (nf 0) (nn 0) v) (h7 : ∀ v, fl S nd 7 v = 0) :
    cV l y_H_findTouched c_H_findTouched 3 (rmk 4 64 2048) D dA S sz [.ref h0] (FtP S h0 tb pa q na nd rd sr nr nc nn nf) (64) (2048) := by
  refine s_met (cc := c_H_findTouched) (maxL := 3) (by decide) rfl (by simp [Value.category]) (by simp [lg_sl, Value.category]) ?_
  intro p e s m args below meth c ls hx hb hr hts hown hlocks hin hml hK hX hsz hM hl
  have hg := gd_hts hts
  have hl : lc ls 3 [some (va_rf (some h0)), none, none] := hl
  refine lv_iconst (v := nI 0) hx hb d_H_findTouched_0 (by decide) ?_
  refine q_istore_n (i := 1) hx hb d_H_findTouched_1 rfl hl (by decide) (fun ls hl => ?_)
  simp only [List.set_cons_succ, List.set_cons_zero] at hl
  refine W.widen (k := nc 1 / 16) (n := 2 * nc 1) (Nat.zero_le _) (Nat.zero_le _) ?_
  refine ft_loop hx hb hml hown hg hK hX (S0 := S) (nr0 := nr) (nc0 := nc) (nn := nn) (nf0 := nf) hinj hnd hB ?_ (nn 0) 0 S nr nc nf s.heap [] ls _ (by omega) hM hl ⟨by rw [va_up_same h1]; exact hZ, fun i hi => absurd hi (Nat.not_lt_zero i), fun i hi => ⟨rfl, rfl, rfl⟩, hc, fun v hv => ?_, fun v => ⟨fun ⟨i, hi, _⟩ => absurd hi (Nat.not_lt_zero i), fun _ => h7 v⟩, fun j v _ _ => rfl, fun j => rfl⟩
  · intro S1 nr1 nc1 nf1 H locs ls o hM hl hI
    obtain ⟨kd, rf, it, lg⟩ := S1
    obtain ⟨hZ1, i1, i2, hc9, i4, i5, i6, i7⟩ := hI
    obtain ⟨⟨kh, e0, e1, e2, e3, e4⟩, ⟨kq, eq⟩, hG, hN, hna, hnr⟩ := id hZ1
    dsimp only at kh e0 e1 e2 e3 e4 kq eq
    have k0 := (hN 0 (by decide)).1
    refine q_al_n (i := 0) hx hb d_H_findTouched_45 rfl hl rfl ?_
    refine s_getr (C := R_H) (T := F_H) (N := 7) (ci := 0) hx hb hg in_H hown hK hM kh rfl 1 (by decide) rfl (hg _ kw_66) (fun _ h9 => h9) d_H_findTouched_46 ?_
    rw [e1]
    refine s_callv (r_V 0 [] rfl hx hb hml hown hg (m_U_empty l D dA _ _ (na 0) k0) (hM.pre hK hX) (hM.recv hK k0 (q := cls.getD 5 (R_H, F_H, 7)) rfl) kw_91 kw_92 kw_93 kw_3 kw_94 (by decide +kernel) ⟨Nat.le_of_ble_eq_true rfl, Nat.le_of_ble_eq_true rfl⟩ rfl rfl hl.sz (by first | exact Nat.le_of_ble_eq_true rfl | simp [rf_cat] | simp [rf_cat, Value.category]) d_H_findTouched_49 ⟨by show 64 + 0 ≤ 64; omega, by show 2048 + 0 ≤ 2048; omega⟩ rfl) hM (fun u H locs hp hM => ?_)
    subst hp
    obtain ⟨hZ2, f2, g2⟩ := Mz_empty hZ1 (i := 0) (by decide)
    refine s_vret hx hb hr hM ⟨nr1, nc1, nf1, hZ2, i1, i2, hc9, fun v => ?_, fun v => ?_, fun j v j5 j7 => ?_, fun j => ?_⟩ d_H_findTouched_52 hlocks
    · rw [f2]
      refine Decidable.byContradiction fun z => ?_
      obtain ⟨i, q1, q2, -⟩ := i4 v z
      omega
    · rw [f2]; exact i5 v
    · rw [f2]; exact i6 j v j5 j7
    · exact (g2 j).trans (i7 j)
  · obtain ⟨i, q1, q2⟩ := h5 v hv
    exact ⟨i, Nat.zero_le _, q1, q2⟩
