theorem hp_sw_lt {v : Nat → Nat} {n p q B : Nat} (hp : p < n) (hq : q < n) (h : ∀ i, i < n → v i < B) : ∀ i, i < n → hp_sw v p q i < B := by
  intro i hi
  by_cases z : i = p
  · rw [z, hp_sw_p]; exact h q hq
  · by_cases z2 : i = q
    · rw [z2, hp_sw_q]; exact h p hp
    · rw [hp_sw_o v z z2]; exact h i hi
set_option maxHeartbeats 4000000 in
set_option maxRecDepth 100000 in
theorem sink_loop {p : Program} {l : Launch} {e : Env} {s : State} {m : MethodId} {args : Array Value} {below : List Frame} {meth : Method} {c : Code} {D : va_G} {dA : Nat → ClassId} {A : Nat → Prop} {Q : State → Prop} (hx : p.tables.exec = Jvm.exec) (hb : c.code = c_F_sinkFromTop) (hml : c.maxLocals = 4) (hown : s.vm.findClass R_F = some m.cls) (hg : ∀ w ∈ gd, w.before args s = true) (hK : va_K D cls (tys dA) s) (hX : sKx s) {mc ms cells slots : Nat} (hcs : cells ≤ mc ∧ slots ≤ ms) {kd : Nat → Option sK} {rf : Nat → Nat → Option Nat} {lg : Nat → Nat → Int64} {q b r cap N x : Nat} (kq : kd q = some (.inl 6)) (hq : rf q 0 = some b) (hx9 : x < 16384) (it0 : Nat → Nat → Int32) (P : (Nat → Nat) → Prop) (hP : ∀ v i j, i < N → j < N → P v → P (hp_sw v i j))
    (kk : ∀ (it : Nat → Nat → Int32) (v : Nat → Nat) (H : Heap) (locs : List Loc) (ls : Array Slot), SW D dA A s.heap (kd, rf, it, lg) H locs → Nm (kd, rf, it, lg) b r cap N v → hp_ok v N → P v → (∀ z, z ≠ r → it z = it0 z) → W p l e (rmk 3 mc ms) s m args below meth c H locs cells slots Q (F0 m 68 ls [])) :
    ∀ (k pl : Nat) (it : Nat → Nat → Int32) (v h : Nat → Nat) (H : Heap) (locs : List Loc) (ls : Array Slot) (o : Option Value), N ≤ pl + k → SW D dA A s.heap (kd, rf, it, lg) H locs → lc ls 4 [some (va_rf (some q)), some (.int (nI x)), some (.int (nI pl)), o] → Nm (kd, rf, it, lg) b r cap N h → (pl < N ∨ (N = 0 ∧ pl = 0)) → hp_dn v N pl → v pl = x → (∀ i, i < N → i ≠ pl → h i = v i) → (∀ i, i < N → v i < 16384) → (∀ i, i < N → h i < 16384) → P v → (∀ z, z ≠ r → it z = it0 z) → W p l e (rmk 3 mc ms) s m args below meth c H locs cells slots Q (F0 m 2 ls []) := by
  intro k
  induction k with
  | zero =>
    intro pl it v h H locs ls o hk hM hl hNm hpl hdn hvp hhv hv9 hh9 hPv hit
    have hNm' := hNm
    obtain ⟨kb, hrow, kr, hn, hle, h16, hcap, hf⟩ := hNm'
    dsimp only at kb hrow kr hn hf
    have hN : N = 0 := by omega
    have hp0 : pl = 0 := by omega
    subst hN; subst hp0
    refine lv_iconst (v := nI 2) hx hb d_F_sinkFromTop_2 (by decide) ?_
    refine q_iload_n (i := 2) hx hb d_F_sinkFromTop_3 rfl hl rfl ?_
    refine lv_imul hx hb d_F_sinkFromTop_4 ?_
    rw [pk_mul]
    refine lv_iconst (v := 1) hx hb d_F_sinkFromTop_5 (by decide) ?_
    refine lv_iadd hx hb d_F_sinkFromTop_6 ?_
    rw [nI_1]
    refine q_al_n (i := 0) hx hb d_F_sinkFromTop_7 rfl hl rfl ?_
    refine s_getr (C := R_F) (T := F_F) (N := 1) (ci := 6) hx hb hg in_F hown hK hM (by assumption) rfl 0 (by decide) rfl (hg _ kw_61) (fun _ h9 => h9) d_F_sinkFromTop_8 ?_
    rw [hq]
    refine s_geti (C := R_U) (T := F_U) (N := 2) (ci := 5) hx hb hg in_U hown hK hM (by assumption) rfl 1 (by decide) rfl (hg _ kw_45) (fun _ h9 => h9) d_F_sinkFromTop_11 ?_
    rw [hn]
    refine n_ge (tgt := 59) hx hb d_F_sinkFromTop_14 (by decide) (by omega) (by omega) (fun c1 => ?_) (fun c1 => ?_)
    · refine q_al_n (i := 0) hx hb d_F_sinkFromTop_59 rfl hl rfl ?_
      refine s_getr (C := R_F) (T := F_F) (N := 1) (ci := 6) hx hb hg in_F hown hK hM (by assumption) rfl 0 (by decide) rfl (hg _ kw_61) (fun _ h9 => h9) d_F_sinkFromTop_60 ?_
      rw [hq]
      refine q_iload_n (i := 2) hx hb d_F_sinkFromTop_63 rfl hl rfl ?_
      refine q_iload_n (i := 1) hx hb d_F_sinkFromTop_64 rfl hl rfl ?_
      refine s_callv (r_V 2 [.int (nI 0), .int (nI x)] rfl hx hb hml hown hg (m_U_set l D dA _ _ b r cap 0 h (nI 0) (nI x) hNm) (hM.pre hK hX) (hM.recv hK kb (q := cls.getD 5 (R_H, F_H, 7)) rfl) kw_206 kw_207 kw_208 kw_3 kw_209 (by decide +kernel) ⟨Nat.le_of_ble_eq_true rfl, Nat.le_of_ble_eq_true rfl⟩ rfl rfl hl.sz (by first | exact Nat.le_of_ble_eq_true rfl | simp [rf_cat] | simp [rf_cat, Value.category]) d_F_sinkFromTop_65 ⟨hcs.1, hcs.2⟩ rfl) hM (fun u H locs hp hM => ?_)
      rcases hp with ⟨hz, -⟩ | ⟨-, rfl⟩
      · exact absurd (Nat.zero_le _) (fun z => hz (Or.inr z))
      · exact kk _ v H locs ls hM (Nm_fun hNm (fun i hi => absurd hi (Nat.not_lt_zero i))) (fun i hi hin => absurd hin (Nat.not_lt_zero i)) hPv hit
    · omega
  | succ k ih =>
    intro pl it v h H locs ls o hk hM hl hNm hpl hdn hvp hhv hv9 hh9 hPv hit
    have hNm' := hNm
    obtain ⟨kb, hrow, kr, hn, hle, h16, hcap, hf⟩ := hNm'
    dsimp only at kb hrow kr hn hf
    have fin : ∀ (H : Heap) (locs : List Loc) (ls : Array Slot) (o : Option Value), SW D dA A s.heap (kd, rf, it, lg) H locs → lc ls 4 [some (va_rf (some q)), some (.int (nI x)), some (.int (nI pl)), o] → hp_ok v N → W p l e (rmk 3 mc ms) s m args below meth c H locs cells slots Q (F0 m 59 ls []) := by
      intro H locs ls o hM hl hend
      refine q_al_n (i := 0) hx hb d_F_sinkFromTop_59 rfl hl rfl ?_
      refine s_getr (C := R_F) (T := F_F) (N := 1) (ci := 6) hx hb hg in_F hown hK hM (by assumption) rfl 0 (by decide) rfl (hg _ kw_61) (fun _ h9 => h9) d_F_sinkFromTop_60 ?_
      rw [hq]
      refine q_iload_n (i := 2) hx hb d_F_sinkFromTop_63 rfl hl rfl ?_
      refine q_iload_n (i := 1) hx hb d_F_sinkFromTop_64 rfl hl rfl ?_
      refine s_callv (r_V 2 [.int (nI pl), .int (nI x)] rfl hx hb hml hown hg (m_U_set l D dA _ _ b r cap N h (nI pl) (nI x) hNm) (hM.pre hK hX) (hM.recv hK kb (q := cls.getD 5 (R_H, F_H, 7)) rfl) kw_206 kw_207 kw_208 kw_3 kw_209 (by decide +kernel) ⟨Nat.le_of_ble_eq_true rfl, Nat.le_of_ble_eq_true rfl⟩ rfl rfl hl.sz (by first | exact Nat.le_of_ble_eq_true rfl | simp [rf_cat] | simp [rf_cat, Value.category]) d_F_sinkFromTop_65 ⟨hcs.1, hcs.2⟩ rfl) hM (fun u H locs hp hM => ?_)
      rcases hp with ⟨hz, rfl⟩ | ⟨hz, rfl⟩
      · dsimp only at hM
        rw [nI_clamp (by omega)] at hM
        refine kk _ v H locs ls hM ⟨kb, hrow, kr, ?_, hle, h16, hcap, fun i hi => ?_⟩ hend hPv (fun z hz => by rw [up2_off _ _ hz]; exact hit z hz)
        · show up2 it r pl (nI x) b 1 = nI N
          rw [up2_off _ _ (Nm_ne hNm)]; exact hn
        · show up2 it r pl (nI x) r i = nI (v i)
          by_cases e : i = pl
          · rw [e, up2_self, hvp]
          · rw [up2_ne _ _ e, ← hhv i hi e]; exact hf i hi
      · have hN0 : N = 0 := by
          rcases hpl with z | z
          · exact absurd (vp_in_nI z (by omega)) hz
          · exact z.1
        exact kk _ v H locs ls hM (Nm_fun hNm (fun i hi => by omega)) hend hPv hit
    refine lv_iconst (v := nI 2) hx hb d_F_sinkFromTop_2 (by decide) ?_
    refine q_iload_n (i := 2) hx hb d_F_sinkFromTop_3 rfl hl rfl ?_
    refine lv_imul hx hb d_F_sinkFromTop_4 ?_
    rw [pk_mul]
    refine lv_iconst (v := 1) hx hb d_F_sinkFromTop_5 (by decide) ?_
    refine lv_iadd hx hb d_F_sinkFromTop_6 ?_
    rw [nI_1]
    refine q_al_n (i := 0) hx hb d_F_sinkFromTop_7 rfl hl rfl ?_
    refine s_getr (C := R_F) (T := F_F) (N := 1) (ci := 6) hx hb hg in_F hown hK hM (by assumption) rfl 0 (by decide) rfl (hg _ kw_61) (fun _ h9 => h9) d_F_sinkFromTop_8 ?_
    rw [hq]
    refine s_geti (C := R_U) (T := F_U) (N := 2) (ci := 5) hx hb hg in_U hown hK hM (by assumption) rfl 1 (by decide) rfl (hg _ kw_45) (fun _ h9 => h9) d_F_sinkFromTop_11 ?_
    rw [hn]
    refine n_ge (tgt := 59) hx hb d_F_sinkFromTop_14 (by decide) (by omega) (by omega) (fun c1 => ?_) (fun c1 => ?_)
    · exact fin _ _ _ _ hM hl (hp_dn_end hdn (fun i hi hin hpar => by omega))
    · have hplN : pl < N := by omega
      refine q_al_n (i := 0) hx hb d_F_sinkFromTop_17 rfl hl rfl ?_
      refine q_iload_n (i := 2) hx hb d_F_sinkFromTop_18 rfl hl rfl ?_
      refine s_calli (r_V 1 [.int (nI pl)] rfl hx hb hml hown hg (m_F_lesserBelow l D dA _ _ q b r cap N h pl ⟨kq, hq, hNm⟩ (fun i hi => by have := hh9 i hi; omega) c1) (hM.pre hK hX) (hM.recv hK kq (q := cls.getD 6 (R_H, F_H, 7)) rfl) kw_231 kw_233 ks_7 kw_4 kw_234 (by decide +kernel) ⟨Nat.le_of_ble_eq_true rfl, Nat.le_of_ble_eq_true rfl⟩ rfl rfl hl.sz (by first | exact Nat.le_of_ble_eq_true rfl | simp [rf_cat] | simp [rf_cat, Value.category]) d_F_sinkFromTop_19 ⟨hcs.1, hcs.2⟩ rfl) hM (fun r1 u H locs hp hM => ?_)
      obtain ⟨rfl, i, rfl, hi2, hiN, hm1, hm2⟩ := hp
      have hip : i ≠ pl := by omega
      have ev : h i = v i := hhv i hiN hip
      refine q_istore_n (i := 3) hx hb d_F_sinkFromTop_22 rfl hl (by decide) (fun ls hl => ?_)
      simp only [List.set_cons_succ, List.set_cons_zero] at hl
      refine q_al_n (i := 0) hx hb d_F_sinkFromTop_23 rfl hl rfl ?_
      refine s_getr (C := R_F) (T := F_F) (N := 1) (ci := 6) hx hb hg in_F hown hK hM (by assumption) rfl 0 (by decide) rfl (hg _ kw_61) (fun _ h9 => h9) d_F_sinkFromTop_24 ?_
      rw [hq]
      refine q_iload_n (i := 3) hx hb d_F_sinkFromTop_27 rfl hl rfl ?_
      refine s_calli (r_V 1 [.int (nI i)] rfl hx hb hml hown hg (m_U_at l D dA _ _ b r cap N h (nI (i)) hNm) (hM.pre hK hX) (hM.recv hK kb (q := cls.getD 5 (R_H, F_H, 7)) rfl) kw_205 kw_100 kw_101 kw_3 kw_102 (by decide +kernel) ⟨Nat.le_of_ble_eq_true rfl, Nat.le_of_ble_eq_true rfl⟩ rfl rfl hl.sz (by first | exact Nat.le_of_ble_eq_true rfl | simp [rf_cat] | simp [rf_cat, Value.category]) d_F_sinkFromTop_28 ⟨hcs.1, hcs.2⟩ rfl) hM (fun r1 u H locs hp hM => ?_)
      obtain ⟨rfl, hp⟩ := hp
      have e1 : r1 = nI (v i) := by
        rcases hp with ⟨-, e⟩ | ⟨z, -⟩
        · rw [e, nI_clamp (by omega), ev]
        · exact absurd (vp_in_nI hiN (by omega)) z
      subst e1
      have hmin : ∀ j, 0 < j → j < N → (j - 1) / 2 = pl → v i ≤ v j := by
        intro j hj hjN hjp
        rw [← ev, ← hhv j hjN (by omega)]
        by_cases z : j = 2 * pl + 1
        · rw [z]; exact hm1
        · have z2 : j = 2 * pl + 2 := by omega
          rw [z2]; exact hm2 (by omega)
      refine q_iload_n (i := 1) hx hb d_F_sinkFromTop_31 rfl hl rfl ?_
      refine n_lt (tgt := 38) hx hb d_F_sinkFromTop_32 (by decide) (by have := hv9 i hiN; omega) (by omega) (fun c2 => ?_) (fun c2 => ?_)
      · refine q_al_n (i := 0) hx hb d_F_sinkFromTop_38 rfl hl rfl ?_
        refine s_getr (C := R_F) (T := F_F) (N := 1) (ci := 6) hx hb hg in_F hown hK hM (by assumption) rfl 0 (by decide) rfl (hg _ kw_61) (fun _ h9 => h9) d_F_sinkFromTop_39 ?_
        rw [hq]
        refine q_iload_n (i := 2) hx hb d_F_sinkFromTop_42 rfl hl rfl ?_
        refine q_al_n (i := 0) hx hb d_F_sinkFromTop_43 rfl hl rfl ?_
        refine s_getr (C := R_F) (T := F_F) (N := 1) (ci := 6) hx hb hg in_F hown hK hM (by assumption) rfl 0 (by decide) rfl (hg _ kw_61) (fun _ h9 => h9) d_F_sinkFromTop_44 ?_
        rw [hq]
        refine q_iload_n (i := 3) hx hb d_F_sinkFromTop_47 rfl hl rfl ?_
        refine s_calli (r_V 1 [.int (nI i)] rfl hx hb hml hown hg (m_U_at l D dA _ _ b r cap N h (nI (i)) hNm) (hM.pre hK hX) (hM.recv hK kb (q := cls.getD 5 (R_H, F_H, 7)) rfl) kw_205 kw_100 kw_101 kw_3 kw_102 (by decide +kernel) ⟨Nat.le_of_ble_eq_true rfl, Nat.le_of_ble_eq_true rfl⟩ rfl rfl hl.sz (by first | exact Nat.le_of_ble_eq_true rfl | simp [rf_cat] | simp [rf_cat, Value.category]) d_F_sinkFromTop_48 ⟨hcs.1, hcs.2⟩ rfl) hM (fun r1 u H locs hp hM => ?_)
        obtain ⟨rfl, hp⟩ := hp
        have e1 : r1 = nI (v i) := by
          rcases hp with ⟨-, e⟩ | ⟨z, -⟩
          · rw [e, nI_clamp (by omega), ev]
          · exact absurd (vp_in_nI hiN (by omega)) z
        subst e1
        refine s_callv (r_V 2 [.int (nI pl), .int (nI (v i))] rfl hx hb hml hown hg (m_U_set l D dA _ _ b r cap N h (nI pl) (nI (v i)) hNm) (hM.pre hK hX) (hM.recv hK kb (q := cls.getD 5 (R_H, F_H, 7)) rfl) kw_206 kw_207 kw_208 kw_3 kw_209 (by decide +kernel) ⟨Nat.le_of_ble_eq_true rfl, Nat.le_of_ble_eq_true rfl⟩ rfl rfl hl.sz (by first | exact Nat.le_of_ble_eq_true rfl | simp [rf_cat] | simp [rf_cat, Value.category]) d_F_sinkFromTop_51 ⟨hcs.1, hcs.2⟩ rfl) hM (fun u H locs hp hM => ?_)
        rcases hp with ⟨-, rfl⟩ | ⟨hz, -⟩
        · dsimp only at hM
          rw [nI_clamp (by omega)] at hM
          refine q_iload_n (i := 3) hx hb d_F_sinkFromTop_54 rfl hl rfl ?_
          refine q_istore_n (i := 2) hx hb d_F_sinkFromTop_55 rfl hl (by decide) (fun ls hl => ?_)
          simp only [List.set_cons_succ, List.set_cons_zero] at hl
          refine lv_goto (tgt := 2) hx hb d_F_sinkFromTop_56 (by decide) ?_
          refine ih i _ (hp_sw v pl i) (fun j => if j = pl then v i else h j) H locs ls _ (by omega) hM hl ⟨kb, hrow, kr, ?_, hle, h16, hcap, fun j hj => ?_⟩ (Or.inl hiN) (hp_dn_step hdn hiN hi2 hmin (by rw [hvp]; exact c2)) (by rw [hp_sw_q]; exact hvp) (fun j hj hne => ?_) (fun j hj => ?_) (fun j hj => ?_) (hP v pl i hplN hiN hPv) (fun z hz => by rw [up2_off _ _ hz]; exact hit z hz)
          · show up2 it r pl (nI (v i)) b 1 = nI N
            rw [up2_off _ _ (Nm_ne hNm)]; exact hn
          · show up2 it r pl (nI (v i)) r j = nI (if j = pl then v i else h j)
            by_cases e : j = pl
            · rw [e, up2_self, if_pos rfl]
            · rw [up2_ne _ _ e, if_neg e]; exact hf j hj
          · show (if j = pl then v i else h j) = _
            by_cases e : j = pl
            · rw [e, if_pos rfl, hp_sw_p]
            · rw [if_neg e, hp_sw_o v e hne]; exact hhv j hj e
          · by_cases e : j = pl
            · rw [e, hp_sw_p]; exact hv9 _ hiN
            · by_cases e2 : j = i
              · rw [e2, hp_sw_q]; exact hv9 _ hplN
              · rw [hp_sw_o v e e2]; exact hv9 _ hj
          · show (if j = pl then v i else h j) < 16384
            by_cases e : j = pl
            · rw [if_pos e]; exact hv9 _ hiN
            · rw [if_neg e]; exact hh9 j hj
        · exact absurd (vp_in_nI hplN (by omega)) hz
      · refine lv_goto (tgt := 59) hx hb d_F_sinkFromTop_35 (by decide) ?_
        exact fin _ _ _ _ hM hl (hp_dn_end hdn (fun j hj hjN hjp => by have := hmin j hj hjN hjp; omega))
set_option maxHeartbeats 4000000 in
set_option maxRecDepth 100000 in
theorem m_F_sink (l : Launch) (D : va_G) (dA : Nat → ClassId) (S : sS) (sz : Nat) (q b r cap N : Nat) (h : Nat → Nat) (x : Nat) (v : Nat → Nat) (P : (Nat → Nat) → Prop) (hL : Lf S q b r cap N h) (hdn : hp_dn v N 0) (hv0 : v 0 = x) (hhv : ∀ i, i < N → i ≠ 0 → h i = v i) (hv9 : ∀ i, i < N → v i < 16384) (hh9 : ∀ i, i < N → h i < 16384) (hx9 : x < 16384) (hP : ∀ v i j, i < N → j < N → P v → P (hp_sw v i j)) (hPv : P v) :
    cV l y_F_sinkFromTop c_F_sinkFromTop 4 (rmk 3 0 0) D dA S sz [.ref q, .int (nI x)] (fun u => ∃ it v2, u = (S.1, S.2.1, it, S.2.2.2) ∧ Nm u b r cap N v2 ∧ hp_ok v2 N ∧ P v2 ∧ ∀ z, z ≠ r → it z = S.2.2.1 z) (0) (0) := by
  obtain ⟨kd, rf, it, lg⟩ := S
  obtain ⟨kq, hq, hNm⟩ := hL
  dsimp only at kq hq
  refine s_met (cc := c_F_sinkFromTop) (maxL := 4) (by decide) rfl (by simp [Value.category]) (by simp [lg_sl, Value.category]) ?_
  intro p e s m args below meth c ls hx hb hr hts hown hlocks hin hml hK hX hsz hM hl
  have hg := gd_hts hts
  have hl : lc ls 4 [some (va_rf (some q)), some (.int (nI x)), none, none] := hl
  refine lv_iconst (v := nI 0) hx hb d_F_sinkFromTop_0 (by decide) ?_
  refine q_istore_n (i := 2) hx hb d_F_sinkFromTop_1 rfl hl (by decide) (fun ls hl => ?_)
  simp only [List.set_cons_succ, List.set_cons_zero] at hl
  refine sink_loop hx hb hml hown hg hK hX (mc := 0) (ms := 0) ⟨Nat.le_refl _, Nat.le_refl _⟩ kq hq hx9 it P hP ?_ N 0 it v h s.heap [] ls _ (by omega) hM hl hNm (by omega) hdn hv0 hhv hv9 hh9 hPv (fun z hz => rfl)
  intro it2 v2 H locs ls hM hNm2 hok2 hP2 hit2
  exact s_vret hx hb hr hM ⟨it2, v2, rfl, hNm2, hok2, hP2, hit2⟩ d_F_sinkFromTop_68 hlocks
/-- what take does -/
def TakeP (S : sS) (q b r cap n : Nat) (v : Nat → Nat) (x : Int32) (u : sS) : Prop :=
  x = nI (v 0) ∧ u.1 = S.1 ∧ ∃ v', Lf u q b r cap (n - 1) v' ∧ hp_ok v' (n - 1) ∧ ((∀ y, hp_set v' (n - 1) y ↔ hp_set v n y ∧ y ≠ v 0) ∧ hp_inj v' (n - 1) ∧ ∀ i, i < n - 1 → v' i < 16384) ∧ sFr S u (fun z => z = b ∨ z = r)
set_option maxHeartbeats 4000000 in
set_option maxRecDepth 100000 in
theorem m_F_take (l : Launch) (D : va_G) (dA : Nat → ClassId) (S : sS) (sz : Nat) (q b r cap n : Nat) (v : Nat → Nat) (h : Lf S q b r cap n v) (h0 : 0 < n) (hok : hp_ok v n) (hinj : hp_inj v n) (hv9 : ∀ i, i < n → v i < 16384) :
    cI l y_F_take c_F_take 3 (some .int) (rmk 4 0 0) D dA S sz [.ref q] (TakeP S q b r cap n v) (0) (0) := by
  obtain ⟨kd, rf, it, lg⟩ := S
  obtain ⟨kq, hq, hNm⟩ := h
  have hNm' := hNm
  obtain ⟨kb, hrow, kr, hn, hle, h16, hcap, hf⟩ := hNm'
  dsimp only at kq hq kb hrow kr hn hf
  have hbr : b ≠ r := Nm_ne hNm
  refine s_met (cc := c_F_take) (maxL := 3) (by decide) rfl (by simp [Value.category]) (by simp [lg_sl, Value.category]) ?_
  intro p e s m args below meth c ls hx hb hr hts hown hlocks hin hml hK hX hsz hM hl
  have hg := gd_hts hts
  have hl : lc ls 3 [some (va_rf (some q)), none, none] := hl
  refine q_al_n (i := 0) hx hb d_F_take_0 rfl hl rfl ?_
  refine s_getr (C := R_F) (T := F_F) (N := 1) (ci := 6) hx hb hg in_F hown hK hM (by assumption) rfl 0 (by decide) rfl (hg _ kw_61) (fun _ h9 => h9) d_F_take_1 ?_
  rw [hq]
  refine lv_iconst (v := nI 0) hx hb d_F_take_4 (by decide) ?_
  refine s_calli (r_V 1 [.int (nI 0)] rfl hx hb hml hown hg (m_U_at l D dA _ _ b r cap n v (nI 0) hNm) (hM.pre hK hX) (hM.recv hK kb (q := cls.getD 5 (R_H, F_H, 7)) rfl) kw_205 kw_100 kw_101 kw_3 kw_102 (by decide +kernel) ⟨Nat.le_of_ble_eq_true rfl, Nat.le_of_ble_eq_true rfl⟩ rfl rfl hl.sz (by first | exact Nat.le_of_ble_eq_true rfl | simp [rf_cat] | simp [rf_cat, Value.category]) d_F_take_5 ⟨Nat.le_refl _, Nat.le_refl _⟩ rfl) hM (fun r1 u H locs hp hM => ?_)
  obtain ⟨rfl, hp⟩ := hp
  have e1 : r1 = nI (v 0) := by
    rcases hp with ⟨-, e⟩ | ⟨z, -⟩
    · rw [e, nI_clamp (by omega)]
    · exact absurd (vp_in_nI h0 (by omega)) z
  subst e1
  refine q_istore_n (i := 1) hx hb d_F_take_8 rfl hl (by decide) (fun ls hl => ?_)
  simp only [List.set_cons_succ, List.set_cons_zero] at hl
  refine q_al_n (i := 0) hx hb d_F_take_9 rfl hl rfl ?_
  refine s_getr (C := R_F) (T := F_F) (N := 1) (ci := 6) hx hb hg in_F hown hK hM (by assumption) rfl 0 (by decide) rfl (hg _ kw_61) (fun _ h9 => h9) d_F_take_10 ?_
  rw [hq]
  refine s_calli (r_V 0 [] rfl hx hb hml hown hg (m_U_takeLast l D dA _ _ b r cap n v hNm h0) (hM.pre hK hX) (hM.recv hK kb (q := cls.getD 5 (R_H, F_H, 7)) rfl) kw_222 kw_223 kw_224 kw_3 kw_225 (by decide +kernel) ⟨Nat.le_of_ble_eq_true rfl, Nat.le_of_ble_eq_true rfl⟩ rfl rfl hl.sz (by first | exact Nat.le_of_ble_eq_true rfl | simp [rf_cat] | simp [rf_cat, Value.category]) d_F_take_13 ⟨Nat.le_refl _, Nat.le_refl _⟩ rfl) hM (fun r1 u H locs hp hM => ?_)
  obtain ⟨rfl, rfl⟩ := hp
  dsimp only at hM
  refine q_istore_n (i := 2) hx hb d_F_take_16 rfl hl (by decide) (fun ls hl => ?_)
  simp only [List.set_cons_succ, List.set_cons_zero] at hl
  refine q_al_n (i := 0) hx hb d_F_take_17 rfl hl rfl ?_
  refine q_iload_n (i := 2) hx hb d_F_take_18 rfl hl rfl ?_
  have hNm3 : Nm (kd, rf, up2 it b 1 (nI (n - 1)), lg) b r cap (n - 1) v := ⟨kb, hrow, kr, up2_self _ _ _ _, by omega, h16, hcap, fun i hi => by
    show up2 it b 1 (nI (n - 1)) r i = nI (v i)
    rw [up2_off _ _ (fun z => hbr z.symm)]; exact hf i (by omega)⟩
  have hP0 : (∀ y, hp_set (fun i => if i = 0 then v (n - 1) else v i) (n - 1) y ↔ hp_set v n y ∧ y ≠ v 0) ∧ hp_inj (fun i => if i = 0 then v (n - 1) else v i) (n - 1) ∧ ∀ i, i < n - 1 → (fun i => if i = 0 then v (n - 1) else v i) i < 16384 := by
    refine ⟨fun y => ⟨?_, ?_⟩, fun i j hi hj hij => ?_, fun i hi => ?_⟩
    · rintro ⟨i, hi, e⟩
      dsimp only at e
      by_cases z : i = 0
      · rw [if_pos z] at e
        exact ⟨⟨n - 1, by omega, e⟩, fun y0 => by have := hinj (n - 1) 0 (by omega) h0 (e.trans y0); omega⟩
      · rw [if_neg z] at e
        exact ⟨⟨i, by omega, e⟩, fun y0 => z (hinj i 0 (by omega) h0 (e.trans y0))⟩
    · rintro ⟨⟨i, hi, e⟩, hne⟩
      have hi0 : i ≠ 0 := fun z => hne (by rw [← e, z])
      by_cases z : i = n - 1
      · exact ⟨0, by omega, by dsimp only; rw [if_pos rfl, ← z]; exact e⟩
      · exact ⟨i, by omega, by dsimp only; rw [if_neg hi0]; exact e⟩
    · dsimp only at hij
      by_cases z1 : i = 0
      · by_cases z2 : j = 0
        · omega
        · rw [if_pos z1, if_neg z2] at hij; have := hinj (n - 1) j (by omega) (by omega) hij; omega
      · by_cases z2 : j = 0
        · rw [if_neg z1, if_pos z2] at hij; have := hinj i (n - 1) (by omega) (by omega) hij; omega
        · rw [if_neg z1, if_neg z2] at hij; exact hinj i j (by omega) (by omega) hij
    · dsimp only
      by_cases z : i = 0
      · rw [if_pos z]; exact hv9 _ (by omega)
      · rw [if_neg z]; exact hv9 i (by omega)
  have hok' : hp_ok v (n - 1 + 1) := by rw [show n - 1 + 1 = n by omega]; exact hok
  refine s_callv (r_V 1 [.int (nI (v (n - 1)))] rfl hx hb hml hown hg (m_F_sink l D dA _ _ q b r cap (n - 1) v (v (n - 1)) (fun i => if i = 0 then v (n - 1) else v i) (fun w => (∀ y, hp_set w (n - 1) y ↔ hp_set v n y ∧ y ≠ v 0) ∧ hp_inj w (n - 1) ∧ ∀ i, i < n - 1 → w i < 16384) ⟨kq, hq, hNm3⟩ (hp_dn_start hok' (fun i hi hin => if_neg (by omega))) (if_pos rfl) (fun i hi hne => (if_neg hne).symm) hP0.2.2 (fun i hi => hv9 i (by omega)) (hv9 _ (by omega)) (fun w i j hi hj a => ⟨fun y => (hp_sw_set hi hj y).trans (a.1 y), hp_sw_inj hi hj a.2.1, hp_sw_lt hi hj a.2.2⟩) hP0) (hM.pre hK hX) (hM.recv hK kq (q := cls.getD 6 (R_H, F_H, 7)) rfl) kw_227 kw_229 ks_6 kw_4 kw_230 (by decide +kernel) ⟨Nat.le_of_ble_eq_true rfl, Nat.le_of_ble_eq_true rfl⟩ rfl rfl hl.sz (by first | exact Nat.le_of_ble_eq_true rfl | simp [rf_cat] | simp [rf_cat, Value.category]) d_F_take_19 ⟨Nat.le_refl _, Nat.le_refl _⟩ rfl) hM (fun u H locs hp hM => ?_)
  obtain ⟨it2, v2, rfl, hNm2, hok2, hP2, hit2⟩ := hp
  dsimp only at hM hit2
  refine q_iload_n (i := 1) hx hb d_F_take_22 rfl hl rfl ?_
  refine s_iret hx hb hr hM ⟨rfl, rfl, v2, ⟨kq, hq, hNm2⟩, hok2, hP2, ?_⟩ d_F_take_23 hlocks
  intro z hz
  refine ⟨rfl, fun hn9 => ⟨rfl, ?_, rfl⟩⟩
  show it2 z = it z
  rw [hit2 z (fun y => hn9 (Or.inr y)), up2_off _ _ (fun y => hn9 (Or.inl y))]
