theorem Wz_flag {S : sS} {h0 tb pa q : Nat} {na : Nat → Nat} {nd : Nat → Option Nat} {rd sr : Nat → List (Nat × Nat)} {nr nc nn : Nat → Nat} {nf : Nat → Nat → Nat} {r4 c4 n4 : Nat} {v4 : Nat → Nat} (h : Wz S h0 tb pa q na nd rd sr nr nc nn nf r4 c4 n4 v4) {v a i : Nat} (hv : nd v = some a) (hi : 5 ≤ i) (x : Int32) :
    Wz (S.1, S.2.1, up2 S.2.2.1 a i x, S.2.2.2) h0 tb pa q na nd rd sr nr nc nn nf r4 c4 n4 v4 ∧ (∀ j w, fl (S.1, S.2.1, up2 S.2.2.1 a i x, S.2.2.2) nd j w = if w = v ∧ j = i then x else fl S nd j w) ∧ ∀ j, up2 S.2.2.1 a i x h0 j = S.2.2.1 h0 j := by
  obtain ⟨h1, h2⟩ := h
  obtain ⟨g1, g2⟩ := Mz_flag h1 hv hi x
  refine ⟨⟨g1, h2⟩, g2, fun j => ?_⟩
  rw [up2_off _ _ (sk_d h1.1.1 (h1.2.2.1.nk hv).2.1 (by decide))]
theorem wp_same {S S0 : sS} {nd : Nat → Option Nat} (h : ∀ j v, j ≠ 8 → fl S nd j v = fl S0 nd j v) : wp S nd = wp S0 nd := by
  funext u
  unfold wp
  rw [h 7 u (by decide), h 6 u (by decide)]
/-- countWaiting's loop: the first k are counted -/
def CwI (S0 S : sS) (h0 tb pa q : Nat) (na : Nat → Nat) (nd : Nat → Option Nat) (rd sr : Nat → List (Nat × Nat)) (nr nc nn : Nat → Nat) (nf : Nat → Nat → Nat) (r4 c4 n4 : Nat) (v4 : Nat → Nat) (k : Nat) : Prop :=
  Wz S h0 tb pa q na nd rd sr nr nc nn nf r4 c4 n4 v4 ∧ (∀ y, hp_set v4 n4 y ↔ hp_set (nf 1) k y ∧ cnt (wp S0 nd) (rd y) = 0) ∧ (∀ i, i < k → fl S nd 8 (nf 1 i) = nI (cnt (wp S0 nd) (rd (nf 1 i)))) ∧ (∀ j v, j ≠ 8 → fl S nd j v = fl S0 nd j v) ∧ ∀ j, S.2.2.1 h0 j = S0.2.2.1 h0 j
set_option maxHeartbeats 4000000 in
set_option maxRecDepth 100000 in
theorem cw_loop {p : Program} {l : Launch} {e : Env} {s : State} {m : MethodId} {args : Array Value} {below : List Frame} {meth : Method} {c : Code} {D : va_G} {dA : Nat → ClassId} {A : Nat → Prop} {Q : State → Prop} (hx : p.tables.exec = Jvm.exec) (hb : c.code = c_H_countWaiting) (hml : c.maxLocals = 3) (hown : s.vm.findClass R_H = some m.cls) (hg : ∀ w ∈ gd, w.before args s = true) (hK : va_K D cls (tys dA) s) (hX : sKx s) {h0 tb pa q : Nat} {na : Nat → Nat} {nd : Nat → Option Nat} {rd sr : Nat → List (Nat × Nat)} {S0 : sS} {nr nc nn : Nat → Nat} {nf : Nat → Nat → Nat} (hL : fewN nd 1024) (hinj : hp_inj (nf 1) (nn 1)) (hnd : ∀ i, i < nn 1 → nd (nf 1 i) ≠ none) (hlen : ∀ v, (rd v).length < 2 ^ 31)
    (kk : ∀ (S : sS) (r4 c4 n4 : Nat) (v4 : Nat → Nat) (H : Heap) (locs : List Loc) (ls : Array Slot), SW D dA A s.heap S H locs → CwI S0 S h0 tb pa q na nd rd sr nr nc nn nf r4 c4 n4 v4 (nn 1) → W p l e (rmk 4 64 2048) s m args below meth c H locs (c4 / 16) (2 * c4) Q (F0 m 61 ls [])) :
    ∀ (d k : Nat) (S : sS) (r4 c4 n4 : Nat) (v4 : Nat → Nat) (H : Heap) (locs : List Loc) (ls : Array Slot) (o : Option Value), k + d = nn 1 → SW D dA A s.heap S H locs → lc ls 3 [some (va_rf (some h0)), some (.int (nI k)), o] → CwI S0 S h0 tb pa q na nd rd sr nr nc nn nf r4 c4 n4 v4 k → W p l e (rmk 4 64 2048) s m args below meth c H locs (c4 / 16) (2 * c4) Q (F0 m 2 ls []) := by
  have hB : nn 1 ≤ 1024 := few_le hL hinj hnd
  intro d
  induction d with
  | zero =>
    intro k S r4 c4 n4 v4 H locs ls o hk hM hl hI
    have hk0 : k = nn 1 := by omega
    subst hk0
    obtain ⟨kd, rf, it, lg⟩ := S
    have hZ := hI.1.1
    obtain ⟨⟨kh, e0, e1, e2, e3, e4⟩, ⟨kq, eq⟩, hG, hN, hna, hnr⟩ := id hZ
    dsimp only at kh e0 e1 e2 e3 e4 kq eq
    have hN1 := hN 1 (by decide)
    simp only [va_up_ne _ _ (show (1 : Nat) ≠ 3 by decide)] at hN1
    have hn1 := hN1.2.2.2.1
    have k1 := hN1.1
    dsimp only at hn1 k1
    refine q_iload_n (i := 1) hx hb d_H_countWaiting_2 rfl hl rfl ?_
    refine q_al_n (i := 0) hx hb d_H_countWaiting_3 rfl hl rfl ?_
    refine s_getr (C := R_H) (T := F_H) (N := 7) (ci := 0) hx hb hg in_H hown hK hM kh rfl 2 (by decide) rfl (hg _ kw_67) (fun _ h9 => h9) d_H_countWaiting_4 ?_
    rw [e2]
    refine s_geti (C := R_U) (T := F_U) (N := 2) (ci := 5) hx hb hg in_U hown hK hM k1 rfl 1 (by decide) rfl (hg _ kw_46) (fun _ h9 => h9) d_H_countWaiting_7 ?_
    rw [hn1]
    refine n_ge (tgt := 61) hx hb d_H_countWaiting_10 (by decide) (by omega) (by omega) (fun c1 => ?_) (fun c1 => ?_)
    · exact kk _ r4 c4 n4 v4 H locs ls hM hI
    · omega
  | succ d ih =>
    intro k S r4 c4 n4 v4 H locs ls o hk hM hl hI
    obtain ⟨kd, rf, it, lg⟩ := S
    obtain ⟨hW, i1, i2, i3, i4⟩ := hI
    have hZ := hW.1
    have hc9 := hW.2.2.2.2
    obtain ⟨⟨kh, e0, e1, e2, e3, e4⟩, ⟨kq, eq⟩, hG, hN, hna, hnr⟩ := id hZ
    dsimp only at kh e0 e1 e2 e3 e4 kq eq
    have hkn : k < nn 1 := by omega
    have hN1 := hN 1 (by decide)
    simp only [va_up_ne _ _ (show (1 : Nat) ≠ 3 by decide)] at hN1
    have hn1 := hN1.2.2.2.1
    have k1 := hN1.1
    dsimp only at hn1 k1
    obtain ⟨a, ha⟩ : ∃ a, nd (nf 1 k) = some a := Option.ne_none_iff_exists'.mp (hnd k hkn)
    obtain ⟨hv9, ka, hva⟩ := hG.nk ha
    dsimp only at ka hva
    have hn4 : n4 ≤ 1024 := few_le hL hW.2.2.1 hW.2.2.2.1
    have hle4 : n4 ≤ c4 := (Wz_lf hW).2.2.2.2.2.2.1
    have ew : wp (kd, rf, it, lg) nd = wp S0 nd := wp_same i3
    have hout : ¬ hp_set (nf 1) k (nf 1 k) := fun ⟨i, hi, e⟩ => by have := hinj i k (by omega) hkn e; omega
    refine q_iload_n (i := 1) hx hb d_H_countWaiting_2 rfl hl rfl ?_
    refine q_al_n (i := 0) hx hb d_H_countWaiting_3 rfl hl rfl ?_
    refine s_getr (C := R_H) (T := F_H) (N := 7) (ci := 0) hx hb hg in_H hown hK hM kh rfl 2 (by decide) rfl (hg _ kw_67) (fun _ h9 => h9) d_H_countWaiting_4 ?_
    rw [e2]
    refine s_geti (C := R_U) (T := F_U) (N := 2) (ci := 5) hx hb hg in_U hown hK hM k1 rfl 1 (by decide) rfl (hg _ kw_46) (fun _ h9 => h9) d_H_countWaiting_7 ?_
    rw [hn1]
    refine n_ge (tgt := 61) hx hb d_H_countWaiting_10 (by decide) (by omega) (by omega) (fun c1 => ?_) (fun c1 => ?_)
    · omega
    · refine q_al_n (i := 0) hx hb d_H_countWaiting_13 rfl hl rfl ?_
      refine s_getr (C := R_H) (T := F_H) (N := 7) (ci := 0) hx hb hg in_H hown hK hM kh rfl 0 (by decide) rfl (hg _ kw_65) (fun _ h9 => h9) d_H_countWaiting_14 ?_
      rw [e0]
      refine q_al_n (i := 0) hx hb d_H_countWaiting_17 rfl hl rfl ?_
      refine s_getr (C := R_H) (T := F_H) (N := 7) (ci := 0) hx hb hg in_H hown hK hM kh rfl 2 (by decide) rfl (hg _ kw_67) (fun _ h9 => h9) d_H_countWaiting_18 ?_
      rw [e2]
      refine q_iload_n (i := 1) hx hb d_H_countWaiting_21 rfl hl rfl ?_
      refine s_calli (r_V 1 [.int (nI k)] rfl hx hb hml hown hg (m_U_at l D dA _ _ (na 1) (nr 1) (nc 1) (nn 1) (nf 1) (nI k) hN1) (hM.pre hK hX) (hM.recv hK k1 (q := cls.getD 5 (R_H, F_H, 7)) rfl) kw_99 kw_100 kw_101 kw_3 kw_102 (by decide +kernel) ⟨Nat.le_of_ble_eq_true rfl, Nat.le_of_ble_eq_true rfl⟩ rfl rfl hl.sz (by first | exact Nat.le_of_ble_eq_true rfl | simp [rf_cat] | simp [rf_cat, Value.category]) d_H_countWaiting_22 ⟨by show _ ≤ 64; omega, by show _ ≤ 2048; omega⟩ rfl) hM (fun r1 u H locs hp hM => ?_)
      obtain ⟨rfl, hp⟩ := hp
      have er : r1 = nI (nf 1 k) := by
        rcases hp with ⟨-, e⟩ | ⟨z, -⟩
        · rw [e, nI_clamp (by omega)]
        · exact absurd (vp_in_nI hkn (by omega)) z
      subst er
      refine s_callq (r_V 1 [.int (nI (nf 1 k))] rfl hx hb hml hown hg (m_T_of l D dA _ _ tb pa nd (nf 1 k) a hG.1 hv9 ha) (hM.pre hK hX) (hM.recv hK hG.1.1 (q := cls.getD 1 (R_H, F_H, 7)) rfl) kw_107 kw_108 kw_109 kw_2 kw_110 (by decide +kernel) ⟨Nat.le_of_ble_eq_true rfl, Nat.le_of_ble_eq_true rfl⟩ rfl rfl hl.sz (by first | exact Nat.le_of_ble_eq_true rfl | simp [rf_cat] | simp [rf_cat, Value.category]) d_H_countWaiting_25 ⟨by show _ ≤ 64; omega, by show _ ≤ 2048; omega⟩ rfl) hM (fun r1 u H locs hp hM => ?_)
      obtain ⟨rfl, rfl⟩ := hp
      refine q_astore_n (i := 2) hx hb (_) d_H_countWaiting_28 rfl hl (by decide) (fun ls hl => ?_)
      simp only [List.set_cons_succ, List.set_cons_zero] at hl
      refine q_al_n (i := 2) hx hb d_H_countWaiting_29 rfl hl rfl ?_
      refine q_al_n (i := 2) hx hb d_H_countWaiting_30 rfl hl rfl ?_
      refine s_calli (r_S 1 [.ref a] rfl hx hb hml hown hg (m_H_readsToWaitFor l D dA _ _ tb pa nd rd sr (nf 1 k) a hG ha (hlen _)) (hM.pre hK hX) kw_197 kw_198 kw_1 kw_199 (by decide +kernel) ⟨Nat.le_of_ble_eq_true rfl, Nat.le_of_ble_eq_true rfl⟩ rfl rfl hl.sz (by first | exact Nat.le_of_ble_eq_true rfl | simp [rf_cat] | simp [rf_cat, Value.category]) d_H_countWaiting_31 ⟨by show _ ≤ 64; omega, by show _ ≤ 2048; omega⟩ rfl) hM (fun r1 u H locs hp hM => ?_)
      obtain ⟨rfl, rfl⟩ := hp
      rw [ew]
      refine s_puti (C := R_N) (T := F_N) (N := 9) (ci := 3) hx hb hg in_N ft_N ft_N_ok fn_N hown hK hM ka rfl 8 (by decide) rfl (hg _ kw_145) (fun _ h9 => h9) rfl rfl rfl d_H_countWaiting_34 (fun H locs hM => ?_)
      obtain ⟨hW1, f1, g1⟩ := Wz_flag hW ha (i := 8) (by decide) (nI (cnt (wp S0 nd) (rd (nf 1 k))))
      dsimp only at hW1 f1 g1
      have hclt : cnt (wp S0 nd) (rd (nf 1 k)) < 2 ^ 31 := Nat.lt_of_le_of_lt (cnt_le _ _) (hlen _)
      have tail : ∀ (S2 : sS) (r4' c4' n4' : Nat) (v4' : Nat → Nat) (H : Heap) (locs : List Loc), SW D dA A s.heap S2 H locs → Wz S2 h0 tb pa q na nd rd sr nr nc nn nf r4' c4' n4' v4' → (∀ y, hp_set v4' n4' y ↔ hp_set v4 n4 y ∨ (y = nf 1 k ∧ cnt (wp S0 nd) (rd (nf 1 k)) = 0)) → (∀ j w, fl S2 nd j w = if w = nf 1 k ∧ j = 8 then nI (cnt (wp S0 nd) (rd (nf 1 k))) else fl (kd, rf, it, lg) nd j w) → (∀ j, S2.2.2.1 h0 j = it h0 j) → W p l e (rmk 4 64 2048) s m args below meth c H locs (c4' / 16) (2 * c4') Q (F0 m 55 ls []) := by
        intro S2 r4' c4' n4' v4' H locs hM hW2 hs2 hf2 hg2
        refine q_iinc hx hb (nI (k + 1)) d_H_countWaiting_55 hl rfl (nI_1 k) (by decide) (fun ls hl => ?_)
        simp only [List.set_cons_succ, List.set_cons_zero] at hl
        refine lv_goto (tgt := 2) hx hb d_H_countWaiting_58 (by decide) ?_
        refine ih (k + 1) S2 r4' c4' n4' v4' H locs ls _ (by omega) hM hl ⟨hW2, fun y => ?_, fun i hi => ?_, fun j v hj => ?_, fun j => (hg2 j).trans (i4 j)⟩
        · rw [hs2, i1]
          constructor
          · rintro (⟨⟨i, hi, e⟩, z⟩ | ⟨e, z⟩)
            · exact ⟨⟨i, by omega, e⟩, z⟩
            · exact ⟨⟨k, by omega, e.symm⟩, by rw [e]; exact z⟩
          · rintro ⟨⟨i, hi, e⟩, z⟩
            by_cases hik : i = k
            · rw [hik] at e; exact Or.inr ⟨e.symm, by rw [e]; exact z⟩
            · exact Or.inl ⟨⟨i, by omega, e⟩, z⟩
        · rw [hf2]
          by_cases hik : i = k
          · rw [hik, if_pos ⟨rfl, rfl⟩]
          · rw [if_neg (fun y => hik (hinj i k (by omega) hkn y.1))]
            exact i2 i (by omega)
        · rw [hf2, if_neg (fun y => hj y.2)]; exact i3 j v hj
      refine q_al_n (i := 2) hx hb d_H_countWaiting_37 rfl hl rfl ?_
      refine s_geti (C := R_N) (T := F_N) (N := 9) (ci := 3) hx hb hg in_N hown hK hM ka rfl 8 (by decide) rfl (hg _ kw_145) (fun _ h9 => h9) d_H_countWaiting_38 ?_
      rw [up2_self]
      refine lv_if_ne (tgt := 55) hx hb d_H_countWaiting_41 (by decide) (fun c3 => ?_) (fun c3 => ?_)
      · refine tail _ r4 c4 n4 v4 H locs hM hW1 (fun y => ⟨Or.inl, fun z => z.elim id (fun z => absurd (by rw [z.2]; rfl) c3)⟩) f1 g1
      · have c0 : cnt (wp S0 nd) (rd (nf 1 k)) = 0 := (nI_eq hclt (by omega)).mp c3
        have hns : ¬ hp_set v4 n4 (nf 1 k) := fun z => hout ((i1 _).mp z).1
        have hro : n4 + 1 ≤ 1024 := inj_room hL hW.2.2.1 hW.2.2.2.1 (hnd k hkn) hns
        refine q_al_n (i := 0) hx hb d_H_countWaiting_44 rfl hl rfl ?_
        refine s_getr (C := R_H) (T := F_H) (N := 7) (ci := 0) hx hb hg in_H hown hK hM kh rfl 4 (by decide) rfl (hg _ kw_69) (fun _ h9 => h9) d_H_countWaiting_45 ?_
        rw [e4]
        refine q_al_n (i := 2) hx hb d_H_countWaiting_48 rfl hl rfl ?_
        refine s_geti (C := R_N) (T := F_N) (N := 9) (ci := 3) hx hb hg in_N hown hK hM ka rfl 0 (by decide) rfl (hg _ kw_133) (fun _ h9 => h9) d_H_countWaiting_49 ?_
        rw [up2_ne _ _ (by decide), hva]
        refine s_callv (r_V 1 [.int (nI (nf 1 k))] rfl hx hb hml hown hg (m_F_put l D dA _ _ q (na 3) r4 c4 n4 v4 (nf 1 k) (Wz_lf hW1) hW.2.1 hW.2.2.1 hns hv9 (Wz_lt hW) (by omega)) (hM.pre hK hX) (hM.recv hK kq (q := cls.getD 6 (R_H, F_H, 7)) rfl) kw_200 kw_201 kw_202 kw_4 kw_203 (by decide +kernel) ⟨Nat.le_of_ble_eq_true rfl, Nat.le_of_ble_eq_true rfl⟩ rfl rfl hl.sz (by first | exact Nat.le_of_ble_eq_true rfl | simp [rf_cat] | simp [rf_cat, Value.category]) d_H_countWaiting_52 ⟨by show _ ≤ 64; split <;> omega, by show _ ≤ 2048; split <;> omega⟩ rfl) hM (fun u H locs hp hM => ?_)
        obtain ⟨r4', c4', v4', hW2, hs2, hf2, hg2, hb1, hb2⟩ := Wz_put hW1 hL (hnd k hkn) hp
        refine W.widen (k := c4' / 16) (n := 2 * c4') hb1 hb2 ?_
        refine tail _ r4' c4' (n4 + 1) v4' H locs hM hW2 (fun y => ?_) (fun j w => ?_) (fun j => (hg2 j).trans (g1 j))
        · rw [hs2]
          exact ⟨fun z => z.elim Or.inl (fun z => Or.inr ⟨z, c0⟩), fun z => z.elim Or.inl (fun z => Or.inr z.1)⟩
        · rw [hf2]; exact f1 j w
/-- what countWaiting does -/
def CwP (S : sS) (h0 tb pa q : Nat) (na : Nat → Nat) (nd : Nat → Option Nat) (rd sr : Nat → List (Nat × Nat)) (nr nc nn : Nat → Nat) (nf : Nat → Nat → Nat) (u : sS) : Prop :=
  ∃ r4 c4 n4 v4, Wz u h0 tb pa q na nd rd sr nr nc nn nf r4 c4 n4 v4 ∧ (∀ y, hp_set v4 n4 y ↔ hp_set (nf 1) (nn 1) y ∧ cnt (wp S nd) (rd y) = 0) ∧ (∀ y, hp_set (nf 1) (nn 1) y → fl u nd 8 y = nI (cnt (wp S nd) (rd y))) ∧ (∀ j v, j ≠ 8 → fl u nd j v = fl S nd j v) ∧ ∀ j, u.2.2.1 h0 j = S.2.2.1 h0 j
set_option maxHeartbeats 4000000 in
set_option maxRecDepth 100000 in
theorem m_H_countWaiting (l : Launch) (D : va_G) (dA : Nat → ClassId) (S : sS) (sz : Nat) (h0 tb pa q : Nat) (na : Nat → Nat) (nd : Nat → Option Nat) (rd sr : Nat → List (Nat × Nat)) (nr nc nn : Nat → Nat) (nf : Nat → Nat → Nat) (hZ : Mz S h0 tb pa q na nd rd sr nr nc nn nf) (hL : fewN nd 1024) (hinj : hp_inj (nf 1) (nn 1)) (hnd : ∀ i, i < nn 1 → nd (nf 1 i) ≠ none) (hlen : ∀ v, (rd v).length < 2 ^ 31) (h3 : nn 3 = 0) (hc : pw (nc 3)) :
    cV l y_H_countWaiting c_H_countWaiting 3 (rmk 4 64 2048) D dA S sz [.ref h0] (CwP S h0 tb pa q na nd rd sr nr nc nn nf) (64) (2048) := by
  refine s_met (cc := c_H_countWaiting) (maxL := 3) (by decide) rfl (by simp [Value.category]) (by simp [lg_sl, Value.category]) ?_
  intro p e s m args below meth c ls hx hb hr hts hown hlocks hin hml hK hX hsz hM hl
  have hg := gd_hts hts
  have hl : lc ls 3 [some (va_rf (some h0)), none, none] := hl
  refine lv_iconst (v := nI 0) hx hb d_H_countWaiting_0 (by decide) ?_
  refine q_istore_n (i := 1) hx hb d_H_countWaiting_1 rfl hl (by decide) (fun ls hl => ?_)
  simp only [List.set_cons_succ, List.set_cons_zero] at hl
  refine W.widen (k := nc 3 / 16) (n := 2 * nc 3) (Nat.zero_le _) (Nat.zero_le _) ?_
  have hW0 : Wz S h0 tb pa q na nd rd sr nr nc nn nf (nr 3) (nc 3) 0 (nf 3) := by
    refine ⟨?_, fun i h1 h2 => absurd h2 (Nat.not_lt_zero i), fun i j h1 => absurd h1 (Nat.not_lt_zero i), fun i h1 => absurd h1 (Nat.not_lt_zero i), hc⟩
    rw [va_up_same (f := nr) (k := 3) rfl, va_up_same (f := nc) (k := 3) rfl, va_up_same (f := nf) (k := 3) rfl, va_up_same h3]
    exact hZ
  refine cw_loop hx hb hml hown hg hK hX (S0 := S) (nr := nr) (nc := nc) (nn := nn) (nf := nf) hL hinj hnd hlen ?_ (nn 1) 0 S (nr 3) (nc 3) 0 (nf 3) s.heap [] ls _ (by omega) hM hl ⟨hW0, fun y => ⟨fun ⟨i, hi, _⟩ => absurd hi (Nat.not_lt_zero i), fun z => by obtain ⟨⟨i, hi, _⟩, _⟩ := z; exact absurd hi (Nat.not_lt_zero i)⟩, fun i hi => absurd hi (Nat.not_lt_zero i), fun j v _ => rfl, fun j => rfl⟩
  intro S1 r4 c4 n4 v4 H locs ls hM hI
  obtain ⟨hW, i1, i2, i3, i4⟩ := hI
  have hc9 := hW.2.2.2.2
  refine W.widen (k := 64) (n := 2048) (by omega) (by omega) ?_
  exact s_vret hx hb hr hM ⟨r4, c4, n4, v4, hW, i1, fun y ⟨i, hi, e⟩ => by rw [← e]; exact i2 i hi, i3, i4⟩ d_H_countWaiting_61 hlocks
