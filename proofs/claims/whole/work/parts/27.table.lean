theorem nI_pg {j : Nat} (h : j < 16384) : (nI j >>> ((7 : Int32) &&& 31)) &&& 127 = nI (j / 128) := by
  rw [pk_shrN (by omega) _ 7 (by decide), pk_andN (by omega) 7 (by decide)]
  rw [Nat.mod_eq_of_lt (by omega)]
theorem nI_pj {j : Nat} (h : j < 16384) : nI j &&& 127 = nI (j % 128) := pk_andN (by omega) 7 (by decide)
set_option maxHeartbeats 4000000 in
set_option maxRecDepth 100000 in
theorem m_H_isNode (l : Launch) (D : va_G) (dA : Nat → ClassId) (S : sS) (sz : Nat) (k : Int32)  :
    cI l y_H_isNode c_H_isNode 1 (some .boolean) (rmk 0 0 0) D dA S sz [.int k] (fun x u => u = S ∧ ((x = 1 ∧ vp_in k 16384) ∨ (x = 0 ∧ ¬ vp_in k 16384))) (0) (0) := by
  refine s_met (cc := c_H_isNode) (maxL := 1) (by decide) rfl (by simp [Value.category]) (by simp [lg_sl, Value.category]) ?_
  intro p e s m args below meth c ls hx hb hr hts hown hlocks hin hml hK hX hsz hM hl
  have hg := gd_hts hts
  have hl : lc ls 1 [some (.int k)] := hl
  refine q_iload_n (i := 0) hx hb d_H_isNode_0 rfl hl rfl ?_
  refine lv_if_lt (tgt := 15) hx hb d_H_isNode_1 (by decide) (fun c1 => ?_) (fun c1 => ?_)
  · refine lv_iconst (v := 0) hx hb d_H_isNode_15 (by decide) ?_
    exact s_zret hx hb hr rfl hM ⟨rfl, Or.inr ⟨rfl, fun q => q (Or.inl c1)⟩⟩ d_H_isNode_16 hlocks
  · refine q_iload_n (i := 0) hx hb d_H_isNode_4 rfl hl rfl ?_
    refine lv_sipush (v := nI 16384) hx hb d_H_isNode_5 (by decide) ?_
    refine lv_icmp_ge (tgt := 15) hx hb d_H_isNode_8 (by decide) (fun c2 => ?_) (fun c2 => ?_)
    · refine lv_iconst (v := 0) hx hb d_H_isNode_15 (by decide) ?_
      exact s_zret hx hb hr rfl hM ⟨rfl, Or.inr ⟨rfl, vi_ge c2 (by omega)⟩⟩ d_H_isNode_16 hlocks
    · refine lv_iconst (v := 1) hx hb d_H_isNode_11 (by decide) ?_
      refine lv_goto (tgt := 16) hx hb d_H_isNode_12 (by decide) ?_
      exact s_zret hx hb hr rfl hM ⟨rfl, Or.inl ⟨rfl, vi_of c1 c2 (by omega)⟩⟩ d_H_isNode_16 hlocks
set_option maxHeartbeats 4000000 in
set_option maxRecDepth 100000 in
theorem m_T_pageIndex (l : Launch) (D : va_G) (dA : Nat → ClassId) (S : sS) (sz : Nat) (j : Nat) (hj : j < 16384) :
    cI l y_T_pageIndex c_T_pageIndex 1 (some .int) (rmk 0 0 0) D dA S sz [.int (nI j)] (fun x u => u = S ∧ x = nI (j / 128)) (0) (0) := by
  refine s_met (cc := c_T_pageIndex) (maxL := 1) (by decide) rfl (by simp [Value.category]) (by simp [lg_sl, Value.category]) ?_
  intro p e s m args below meth c ls hx hb hr hts hown hlocks hin hml hK hX hsz hM hl
  have hg := gd_hts hts
  have hl : lc ls 1 [some (.int (nI j))] := hl
  refine q_iload_n (i := 0) hx hb d_T_pageIndex_0 rfl hl rfl ?_
  refine lv_bipush (v := 7) hx hb d_T_pageIndex_1 (by decide) ?_
  refine lv_ishr hx hb d_T_pageIndex_3 ?_
  refine lv_bipush (v := 127) hx hb d_T_pageIndex_4 (by decide) ?_
  refine lv_iand hx hb d_T_pageIndex_6 ?_
  rw [nI_pg hj]
  exact s_iret hx hb hr hM ⟨rfl, rfl⟩ d_T_pageIndex_7 hlocks
/-- NodeTable at tb, its pages at pa: node n is at nd n -/
def Tb (S : sS) (tb pa : Nat) (nd : Nat → Option Nat) : Prop :=
  S.1 tb = some (.inl 1) ∧ S.2.1 tb 0 = some pa ∧ S.1 pa = some (.inr (1, 128)) ∧
  (∀ i, i < 128 → (S.2.1 pa i = none ∧ ∀ j, j < 128 → nd (128 * i + j) = none) ∨ ∃ pg row, S.2.1 pa i = some pg ∧ S.1 pg = some (.inl 2) ∧ S.2.1 pg 0 = some row ∧ S.1 row = some (.inr (2, 128)) ∧ ∀ j, j < 128 → S.2.1 row j = nd (128 * i + j)) ∧
  (∀ i i' pg pg' row, i < 128 → i' < 128 → S.2.1 pa i = some pg → S.2.1 pa i' = some pg' → S.2.1 pg 0 = some row → S.2.1 pg' 0 = some row → i = i') ∧
  ∀ n a, nd n = some a → n < 16384 ∧ S.1 a = some (.inl 3) ∧ S.2.2.1 a 0 = nI n
theorem tb_j {j : Nat} : 128 * (j / 128) + j % 128 = j := by omega
set_option maxHeartbeats 4000000 in
set_option maxRecDepth 100000 in
theorem m_T_at (l : Launch) (D : va_G) (dA : Nat → ClassId) (S : sS) (sz : Nat) (tb pa : Nat) (nd : Nat → Option Nat) (k : Int32) (h : Tb S tb pa nd) :
    cQ l y_T_at c_T_at 3 (some (.object "HangOrder$Node")) (rmk 1 0 0) D dA S sz [.ref tb, .int k] (fun x u => u = S ∧ ((vp_in k 16384 ∧ x = nd k.toNatClampNeg) ∨ (¬ vp_in k 16384 ∧ x = none))) (0) (0) := by
  obtain ⟨kd, rf, it, lg⟩ := S
  obtain ⟨kt, ht, kp, hpg, hdi, hnd⟩ := h
  dsimp only at kt ht kp hpg hdi hnd
  refine s_met (cc := c_T_at) (maxL := 3) (by decide) rfl (by simp [Value.category]) (by simp [lg_sl, Value.category]) ?_
  intro p e s m args below meth c ls hx hb hr hts hown hlocks hin hml hK hX hsz hM hl
  have hg := gd_hts hts
  have hl : lc ls 3 [some (va_rf (some tb)), some (.int k), none] := hl
  refine q_iload_n (i := 1) hx hb d_T_at_0 rfl hl rfl ?_
  refine s_calli (r_SN (host := "HangOrder") 1 [.int k] rfl hx hb hml hown hg (m_H_isNode l D dA _ _ k) (hM.pre hK hX) (hX.1 _ (List.mem_of_getElem? (i := 5) rfl)) kw_260 kw_1 kw_261 (by decide +kernel) ⟨Nat.le_of_ble_eq_true rfl, Nat.le_of_ble_eq_true rfl⟩ rfl rfl hl.sz (by first | exact Nat.le_of_ble_eq_true rfl | simp [rf_cat] | simp [rf_cat, Value.category]) d_T_at_1 ⟨Nat.le_refl _, Nat.le_refl _⟩ rfl) hM (fun r1 u H locs hp hM => ?_)
  obtain ⟨rfl, hp⟩ := hp
  refine lv_if_ne (tgt := 9) hx hb d_T_at_4 (by decide) (fun c1 => ?_) (fun c1 => ?_)
  · rcases hp with ⟨-, hv⟩ | ⟨e1, -⟩
    · obtain ⟨j, hj, ej⟩ := vp_in_of hv (by omega)
      have ek : k.toNatClampNeg = j := by rw [ej]; exact nI_clamp (by omega)
      rw [ej] at hl
      refine q_al_n (i := 0) hx hb d_T_at_9 rfl hl rfl ?_
      refine s_getr (C := R_T) (T := F_T) (N := 1) (ci := 1) hx hb hg in_T hown hK hM (by assumption) rfl 0 (by decide) rfl (hg _ kw_33) (fun _ h9 => h9) d_T_at_10 ?_
      rw [ht]
      refine q_iload_n (i := 1) hx hb d_T_at_13 rfl hl rfl ?_
      refine s_calli (r_S 1 [.int (nI j)] rfl hx hb hml hown hg (m_T_pageIndex l D dA _ _ j hj) (hM.pre hK hX) kw_111 kw_112 kw_2 kw_113 (by decide +kernel) ⟨Nat.le_of_ble_eq_true rfl, Nat.le_of_ble_eq_true rfl⟩ rfl rfl hl.sz (by first | exact Nat.le_of_ble_eq_true rfl | simp [rf_cat] | simp [rf_cat, Value.category]) d_T_at_14 ⟨Nat.le_refl _, Nat.le_refl _⟩ rfl) hM (fun r1 u H locs hp hM => ?_)
      obtain ⟨rfl, rfl⟩ := hp
      refine s_ald (t := 1) (C := "HangOrder$Page") hx hb hK hM kp rfl rfl (vp_in_nI (by omega) (by omega)) d_T_at_17 ?_
      rw [nI_clamp (by omega)]
      refine q_astore_n (i := 2) hx hb (_) d_T_at_18 rfl hl (by decide) (fun ls hl => ?_)
      simp only [List.set_cons_succ, List.set_cons_zero] at hl
      refine q_al_n (i := 2) hx hb d_T_at_19 rfl hl rfl ?_
      refine q_ifnonnull (tgt := 27) hx hb d_T_at_20 (by decide) (fun pg c2 => ?_) (fun c2 => ?_)
      · rcases hpg (j / 128) (by omega) with ⟨z, -⟩ | ⟨pg2, row, z1, kg, hro, kro, hrow⟩
        · rw [z] at c2; cases c2
        · have e2 : pg2 = pg := Option.some.inj (z1.symm.trans c2)
          subst e2
          rw [z1] at hl
          refine q_al_n (i := 2) hx hb d_T_at_27 rfl hl rfl ?_
          refine s_getr (C := R_P) (T := F_P) (N := 1) (ci := 2) hx hb hg in_P hown hK hM (by assumption) rfl 0 (by decide) rfl (hg _ kw_122) (fun _ h9 => h9) d_T_at_28 ?_
          rw [hro]
          refine q_iload_n (i := 1) hx hb d_T_at_31 rfl hl rfl ?_
          refine lv_bipush (v := 127) hx hb d_T_at_32 (by decide) ?_
          refine lv_iand hx hb d_T_at_34 ?_
          rw [nI_pj hj]
          refine s_ald (t := 2) (C := "HangOrder$Node") hx hb hK hM kro rfl rfl (vp_in_nI (by omega) (by omega)) d_T_at_35 ?_
          rw [nI_clamp (by omega), hrow _ (by omega), tb_j]
          exact s_qret (nd j) hx hb hr (Or.inl ⟨_, rfl⟩) hM ⟨rfl, Or.inl ⟨hv, by rw [ek]⟩⟩ d_T_at_36 hlocks
      · refine lv_null hx hb d_T_at_23 ?_
        refine lv_goto (tgt := 36) hx hb d_T_at_24 (by decide) ?_
        rcases hpg (j / 128) (by omega) with ⟨-, z⟩ | ⟨pg2, row, z1, -⟩
        · refine s_qret none hx hb hr (Or.inl ⟨_, rfl⟩) hM ⟨rfl, Or.inl ⟨hv, ?_⟩⟩ d_T_at_36 hlocks
          have := z (j % 128) (by omega)
          rw [tb_j] at this
          rw [ek, this]
        · rw [z1] at c2; cases c2
    · exact absurd e1 c1
  · rcases hp with ⟨e1, -⟩ | ⟨-, hv⟩
    · rw [e1] at c1; exact absurd c1 (by decide)
    · refine lv_null hx hb d_T_at_7 ?_
      exact s_qret none hx hb hr (Or.inl ⟨_, rfl⟩) hM ⟨rfl, Or.inr ⟨hv, rfl⟩⟩ d_T_at_8 hlocks
set_option maxHeartbeats 4000000 in
set_option maxRecDepth 100000 in
theorem m_T_of (l : Launch) (D : va_G) (dA : Nat → ClassId) (S : sS) (sz : Nat) (tb pa : Nat) (nd : Nat → Option Nat) (j a : Nat) (h : Tb S tb pa nd) (hj : j < 16384) (ha : nd j = some a) :
    cQ l y_T_of c_T_of 5 (some (.object "HangOrder$Node")) (rmk 2 0 0) D dA S sz [.ref tb, .int (nI j)] (fun x u => u = S ∧ x = some a) (0) (0) := by
  obtain ⟨kd, rf, it, lg⟩ := S
  obtain ⟨kt, ht, kp, hpg, hdi, hnd⟩ := h
  dsimp only at kt ht kp hpg hdi hnd
  refine s_met (cc := c_T_of) (maxL := 5) (by decide) rfl (by simp [Value.category]) (by simp [lg_sl, Value.category]) ?_
  intro p e s m args below meth c ls hx hb hr hts hown hlocks hin hml hK hX hsz hM hl
  have hg := gd_hts hts
  have hl : lc ls 5 [some (va_rf (some tb)), some (.int (nI j)), none, none, none] := hl
  refine q_iload_n (i := 1) hx hb d_T_of_0 rfl hl rfl ?_
  refine s_calli (r_S 1 [.int (nI j)] rfl hx hb hml hown hg (m_T_pageIndex l D dA _ _ j hj) (hM.pre hK hX) kw_111 kw_112 kw_2 kw_113 (by decide +kernel) ⟨Nat.le_of_ble_eq_true rfl, Nat.le_of_ble_eq_true rfl⟩ rfl rfl hl.sz (by first | exact Nat.le_of_ble_eq_true rfl | simp [rf_cat] | simp [rf_cat, Value.category]) d_T_of_1 ⟨Nat.le_refl _, Nat.le_refl _⟩ rfl) hM (fun r1 u H locs hp hM => ?_)
  obtain ⟨rfl, rfl⟩ := hp
  refine q_istore_n (i := 2) hx hb d_T_of_4 rfl hl (by decide) (fun ls hl => ?_)
  simp only [List.set_cons_succ, List.set_cons_zero] at hl
  refine q_al_n (i := 0) hx hb d_T_of_5 rfl hl rfl ?_
  refine s_getr (C := R_T) (T := F_T) (N := 1) (ci := 1) hx hb hg in_T hown hK hM (by assumption) rfl 0 (by decide) rfl (hg _ kw_33) (fun _ h9 => h9) d_T_of_6 ?_
  rw [ht]
  refine q_iload_n (i := 2) hx hb d_T_of_9 rfl hl rfl ?_
  refine s_ald (t := 1) (C := "HangOrder$Page") hx hb hK hM kp rfl rfl (vp_in_nI (by omega) (by omega)) d_T_of_10 ?_
  rw [nI_clamp (by omega)]
  rcases hpg (j / 128) (by omega) with ⟨-, z⟩ | ⟨pg, row, z1, kg, hro, kro, hrow⟩
  · have := z (j % 128) (by omega)
    rw [tb_j, ha] at this
    cases this
  · rw [z1]
    refine q_astore_n (i := 3) hx hb (some pg) d_T_of_11 rfl hl (by decide) (fun ls hl => ?_)
    simp only [List.set_cons_succ, List.set_cons_zero] at hl
    refine q_al_n (i := 3) hx hb d_T_of_12 rfl hl rfl ?_
    refine q_ifnonnull (tgt := 31) hx hb d_T_of_13 (by decide) (fun pg2 c2 => ?_) (fun c2 => ?_)
    · refine q_al_n (i := 3) hx hb d_T_of_31 rfl hl rfl ?_
      refine s_getr (C := R_P) (T := F_P) (N := 1) (ci := 2) hx hb hg in_P hown hK hM (by assumption) rfl 0 (by decide) rfl (hg _ kw_122) (fun _ h9 => h9) d_T_of_32 ?_
      rw [hro]
      refine q_iload_n (i := 1) hx hb d_T_of_35 rfl hl rfl ?_
      refine lv_bipush (v := 127) hx hb d_T_of_36 (by decide) ?_
      refine lv_iand hx hb d_T_of_38 ?_
      rw [nI_pj hj]
      refine s_ald (t := 2) (C := "HangOrder$Node") hx hb hK hM kro rfl rfl (vp_in_nI (by omega) (by omega)) d_T_of_39 ?_
      rw [nI_clamp (by omega), hrow _ (by omega), tb_j, ha]
      refine q_astore hx hb (_) d_T_of_40 hl (by decide) (fun ls hl => ?_)
      simp only [List.set_cons_succ, List.set_cons_zero] at hl
      refine q_al hx hb d_T_of_42 hl rfl ?_
      refine q_ifnonnull (tgt := 68) hx hb d_T_of_44 (by decide) (fun y3 c3 => ?_) (fun c3 => ?_)
      · refine q_al hx hb d_T_of_68 hl rfl ?_
        exact s_qret (some a) hx hb hr (Or.inl ⟨_, rfl⟩) hM ⟨rfl, rfl⟩ d_T_of_70 hlocks
      · cases c3
    · cases c2
