theorem kJ_c {D : va_G} {dA : Nat → ClassId} {A : Nat → Prop} {H0 H : Heap} {S1 S2 : sS} {ob : Nat} {x : Int64} {locs : List Loc} {a : Nat} {k : sK} (_ : LW D dA A H0 S1 S2 ob x H locs) (h : S1.1 a = some k) : (sJ S1 (sJ (oS ob x) S2)).1 a = some k := by rw [sJ_1 (by rw [h]; exact fun z => by cases z)]; exact h
theorem kJ_m {D : va_G} {dA : Nat → ClassId} {A : Nat → Prop} {H0 H : Heap} {S1 S2 : sS} {ob : Nat} {x : Int64} {locs : List Loc} {a : Nat} {k : sK} (_ : LW D dA A H0 S1 S2 ob x H locs) (h : S2.1 a = some k) : (sJ S2 (sJ S1 (oS ob x))).1 a = some k := by rw [sJ_1 (by rw [h]; exact fun z => by cases z)]; exact h
theorem Ho.k {S : sS} {h0 mm : Nat} {E : Nat → Nat → Prop} {T Rg : Nat → Prop} {wl : List Nat} {rc : Nat} (h : Ho S h0 mm E T Rg wl rc) : S.1 h0 = some (.inl 0) := by
  obtain ⟨tb, pa, q, na, nd, rd, sr, nr, nc, nn, nf, hZ, -⟩ := h
  exact hZ.1.1
theorem Mo.k {S : sS} {m0 mm : Nat} {E : Nat → Nat → Prop} {T Rg : Nat → Prop} {wl : List Nat} {rc : Nat} (h : Mo S m0 mm E T Rg wl rc) : S.1 m0 = some (.inl 7) := by
  obtain ⟨ar, cn, nA, fb, hw, -⟩ := h
  exact hw.1
theorem hold9 {D : va_G} {dA : Nat → ClassId} {s : State} {H : Heap} {S1 S2 : sS} {ob : Nat} {x : Int64} {locs : List Loc} (h : LW D dA (sA SE s.heap.size) s.heap S1 S2 ob x H locs) : ∀ (q : Nat) (cell : Cell), s.heap[q]? = some cell → H[q]? = some cell := fun q cell hq => by
  have hlt := (Array.getElem?_eq_some_iff.mp hq).1
  rw [h.S.2.1 q hlt (fun z => z.elim (fun y => absurd rfl y) (fun y => absurd y (Nat.not_le.mpr hlt)))]
  exact hq
theorem lg_cmp_self (x : Int64) : lg_cmp x x = 0 := by simp [lg_cmp]
/-- two answers that LinksP allows are one -/
theorem LinksP_eq {E : Nat → Nat → Prop} {k w x y : Int32} (hx : LinksP E k w x) (hy : LinksP E k w y) : x = y := by
  rcases hx with ⟨a1, a2⟩ | ⟨a1, a2, n, a3, a4⟩ | ⟨a1, a2, n, a3, a4⟩ <;> rcases hy with ⟨b1, b2⟩ | ⟨b1, b2, n', b3, b4⟩ | ⟨b1, b2, n', b3, b4⟩
  · rw [a2, b2]
  · exact absurd ⟨b1, Or.inl b2⟩ a1
  · exact absurd ⟨b1, Or.inr b2⟩ a1
  · exact absurd ⟨a1, Or.inl a2⟩ b1
  · rw [a4, b4, crd_eq a3 b3]
  · rw [a2] at b2; exact absurd b2 (by decide)
  · exact absurd ⟨a1, Or.inr a2⟩ b1
  · rw [a2] at b2; exact absurd b2 (by decide)
  · rw [a4, b4, crd_eq a3 b3]
theorem fl_eq {P : Prop} {x y : Int32} (hx : (x = 1 ∧ P) ∨ (x = 0 ∧ ¬ P)) (hy : (y = 1 ∧ P) ∨ (y = 0 ∧ ¬ P)) : x = y := by
  rcases hx with ⟨a1, a2⟩ | ⟨a1, a2⟩ <;> rcases hy with ⟨b1, b2⟩ | ⟨b1, b2⟩
  · rw [a1, b1]
  · exact absurd a2 b2
  · exact absurd b2 a2
  · rw [a1, b1]
theorem wk_eq {wl : List Nat} {k x y : Int32} (hx : (vp_in k wl.length ∧ ∃ z, wl[k.toNatClampNeg]? = some z ∧ x = nI z) ∨ (¬ vp_in k wl.length ∧ x = -1)) (hy : (vp_in k wl.length ∧ ∃ z, wl[k.toNatClampNeg]? = some z ∧ y = nI z) ∨ (¬ vp_in k wl.length ∧ y = -1)) : x = y := by
  rcases hx with ⟨a1, z, a2, a3⟩ | ⟨a1, a2⟩ <;> rcases hy with ⟨b1, z', b2, b3⟩ | ⟨b1, b2⟩
  · rw [a2] at b2
    rw [a3, b3, Option.some.inj b2]
  · exact absurd a1 b1
  · exact absurd b1 a1
  · rw [a2, b2]
set_option maxHeartbeats 4000000 in
set_option maxRecDepth 100000 in
theorem lc_0 {p : Program} {l : Launch} {e : Env} {s : State} {m : MethodId} {below : List Frame} {meth : Method} {c : Code} {D : va_G} {dA : Nat → ClassId} {b L : Nat} {xs : Nat → Int32} (hst : ∀ e : Env, l.admits e → e.platform.stackTraces = false) (hx : p.tables.exec = Jvm.exec) (hb : c.code = c_L_law) (hr : meth.sig.returnType = ret) (hlocks : meth.locks = false) (hml : c.maxLocals = 7) (hown : s.vm.findClass R_L = some m.cls) (hg : ∀ w ∈ gd, w.before #[Value.ref b] s = true) (hK : va_K D cls (tys dA) s) (hX : sKx s) (hT : sTh s) (hXs : va_X b L xs s s.heap) (hbl : b < s.heap.size) (hbA : ¬ sA SE s.heap.size b) (hL : L ≤ 1536) {h0 m0 ob : Nat} {j : Nat} (hj : 3 * j + 3 ≤ L) (nxt : ∀ (S1 S2 : sS) (x0 : Int64) (E : Nat → Nat → Prop) (T Rg : Nat → Prop) (wl : List Nat) (rc : Nat) (H : Heap) (locs : List Loc) (ls : Array Slot) (o5 o6 : Option Value), LW D dA (sA SE s.heap.size) s.heap S1 S2 ob x0 H locs → Ho S1 h0 (j + 1) E T Rg wl rc → Mo S2 m0 (j + 1) E T Rg wl rc → lc ls 7 [some (va_rf (some b)), some (va_rf (some h0)), some (va_rf (some m0)), some (va_rf (some ob)), some (.int (nI (3 * j))), o5, o6] → W p l e room_1 s m #[Value.ref b] below meth c H locs (22 + 320 * (j + 1)) (57567 + 10240 * (j + 1)) (lw_Z below #[Value.ref b] s) (F0 m 472 ls [])) (S1 S2 : sS) (x0 : Int64) (E : Nat → Nat → Prop) (T Rg : Nat → Prop) (wl : List Nat) (rc : Nat) (H : Heap) (locs : List Loc) (ls : Array Slot) (o5 o6 : Option Value) (hM : LW D dA (sA SE s.heap.size) s.heap S1 S2 ob x0 H locs) (hH : Ho S1 h0 j E T Rg wl rc) (hO : Mo S2 m0 j E T Rg wl rc) (hl : lc ls 7 [some (va_rf (some b)), some (va_rf (some h0)), some (va_rf (some m0)), some (va_rf (some ob)), some (.int (nI (3 * j))), o5, o6]) : W p l e room_1 s m #[Value.ref b] below meth c H locs (22 + 320 * j) (57567 + 10240 * j) (lw_Z below #[Value.ref b] s) (F0 m 92 ls []) := by
  have kh := hH.k
  have km := hO.k
  refine q_al_n (i := 1) hx hb d_L_law_92 rfl hl rfl ?_
  refine q_al_n (i := 0) hx hb d_L_law_93 rfl hl rfl ?_
  refine q_iload hx hb d_L_law_94 hl rfl ?_
  refine lv_iconst (v := nI 1) hx hb d_L_law_96 (by decide) ?_
  refine lv_iadd hx hb d_L_law_97 ?_
  rw [nI_add]
  refine va_sld hx hb hXs hbl hbA hM.S (vp_in_nI (show 3 * j + 1 < L by omega) (by omega)) d_L_law_98 ?_
  rw [nI_clamp (by omega)]
  refine q_al_n (i := 0) hx hb d_L_law_99 rfl hl rfl ?_
  refine q_iload hx hb d_L_law_100 hl rfl ?_
  refine lv_iconst (v := nI 2) hx hb d_L_law_102 (by decide) ?_
  refine lv_iadd hx hb d_L_law_103 ?_
  rw [nI_add]
  refine va_sld hx hb hXs hbl hbA hM.S (vp_in_nI (show 3 * j + 2 < L by omega) (by omega)) d_L_law_104 ?_
  rw [nI_clamp (by omega)]
  refine q_al_n (i := 3) hx hb d_L_law_105 rfl hl rfl ?_
  have hkk : ∃ k, k = xs (3 * j + 1) := ⟨_, rfl⟩
  obtain ⟨k, ek⟩ := hkk
  have htt : ∃ t, t = xs (3 * j + 2) := ⟨_, rfl⟩
  obtain ⟨t, et⟩ := htt
  rw [← ek, ← et]
  refine l_hi (r_SW 4 [.ref h0, .int k, .int t, .ref ob] rfl hx hb hml hown hg (m_L_link l hst D dA _ _ ob x0 h0 j E T Rg wl rc k t hH (by omega) hM.2.1) (SPT_pre hM.1 hK hX hT (hold9 hM)) kw_271 kw_272 kw_0 hw_L_link (by decide +kernel) ⟨Nat.le_of_ble_eq_true rfl, Nat.le_of_ble_eq_true rfl⟩ rfl rfl hl.sz (by first | exact Nat.le_of_ble_eq_true rfl | simp [rf_cat, Value.category]) d_L_law_106 ⟨by show _ ≤ 601024; omega, by show _ ≤ 7293033; omega⟩ rfl) hM (fun r u H locs hp hU => ?_)
  refine q_istore hx hb d_L_law_109 hl (by decide) (fun ls hl => ?_)
  simp only [List.set_cons_succ, List.set_cons_zero] at hl
  rcases hp with ⟨hbad, rfl, eu⟩ | ⟨hv, hv2, rfl, u1, bb, hP, eu, hd⟩
  · have hM := hU S1 x0 eu (hM.2.1)
    refine q_al_n (i := 2) hx hb d_L_law_111 rfl hl rfl ?_
    refine q_al_n (i := 0) hx hb d_L_law_112 rfl hl rfl ?_
    refine q_iload hx hb d_L_law_113 hl rfl ?_
    refine lv_iconst (v := nI 1) hx hb d_L_law_115 (by decide) ?_
    refine lv_iadd hx hb d_L_law_116 ?_
    rw [nI_add]
    refine va_sld hx hb hXs hbl hbA hM.S (vp_in_nI (show 3 * j + 1 < L by omega) (by omega)) d_L_law_117 ?_
    rw [nI_clamp (by omega)]
    refine q_al_n (i := 0) hx hb d_L_law_118 rfl hl rfl ?_
    refine q_iload hx hb d_L_law_119 hl rfl ?_
    refine lv_iconst (v := nI 2) hx hb d_L_law_121 (by decide) ?_
    refine lv_iadd hx hb d_L_law_122 ?_
    rw [nI_add]
    refine va_sld hx hb hXs hbl hbA hM.S (vp_in_nI (show 3 * j + 2 < L by omega) (by omega)) d_L_law_123 ?_
    rw [nI_clamp (by omega)]
    rw [← ek, ← et]
    refine l_mi (r_V 2 [.int k, .int t] rfl hx hb hml hown hg (m_M_link l D dA _ _ m0 j E T Rg wl rc k t hO (by omega)) (sJ_pre hM.m hK hX) (hM.m.recv hK (kJ_m hM km) (q := cls.getD 7 (R_H, F_H, 7)) rfl) kw_500 kw_501 kw_502 kw_5 kw_503 (by decide +kernel) ⟨Nat.le_of_ble_eq_true rfl, Nat.le_of_ble_eq_true rfl⟩ rfl rfl hl.sz (by first | exact Nat.le_of_ble_eq_true rfl | simp [rf_cat, Value.category]) d_L_law_124 ⟨by show _ ≤ 601024; omega, by show _ ≤ 7293033; omega⟩ rfl) hM (fun r2 u2 H locs hp2 hM => ?_)
    refine q_istore hx hb d_L_law_127 hl (by decide) (fun ls hl => ?_)
    simp only [List.set_cons_succ, List.set_cons_zero] at hl
    refine q_al_n (i := 2) hx hb d_L_law_129 rfl hl rfl ?_

    rcases hp2 with ⟨-, hz2, hO2⟩ | ⟨z1, z2, -⟩
    · have km2 := hO2.k
      refine l_mi (r_V 0 [] rfl hx hb hml hown hg (m_M_thrown l D dA _ _ m0 km2) (sJ_pre hM.m hK hX) (hM.m.recv hK (kJ_m hM km2) (q := cls.getD 7 (R_H, F_H, 7)) rfl) kw_496 kw_497 kw_498 kw_5 kw_499 (by decide +kernel) ⟨Nat.le_of_ble_eq_true rfl, Nat.le_of_ble_eq_true rfl⟩ rfl rfl hl.sz (by first | exact Nat.le_of_ble_eq_true rfl | simp [rf_cat, Value.category]) d_L_law_130 ⟨by show _ ≤ 601024; omega, by show _ ≤ 7293033; omega⟩ rfl) hM (fun q9 u9 H locs hp9 hM => ?_)
      obtain ⟨e8, e9⟩ := hp9
      rw [e8] at hM
      rw [e9]
      rw [hz2]
      refine q_iload hx hb d_L_law_133 hl rfl ?_
      refine lv_icmp_eq (tgt := 140) hx hb d_L_law_135 (by decide) (fun c1 => ?_) (fun c1 => ?_)
      · refine q_iload hx hb d_L_law_140 hl rfl ?_
        refine lv_if_ne (tgt := 164) hx hb d_L_law_142 (by decide) (fun c2 => ?_) (fun c2 => ?_)
        · refine lv_goto (tgt := 472) hx hb d_L_law_164 (by decide) ?_
          refine W.widen (k := 22 + 320 * (j + 1)) (n := 57567 + 10240 * (j + 1)) (by omega) (by omega) ?_
          exact nxt S1 _ x0 E T Rg wl rc H locs ls _ _ hM (Ho_mono hH (Nat.le_succ j)) hO2 hl
        · exact absurd c2 (by decide)
      · exact absurd rfl c1
    · exact absurd ⟨z1, z2⟩ hbad
  · have hM := hU u1 _ eu hd
    refine q_al_n (i := 2) hx hb d_L_law_111 rfl hl rfl ?_
    refine q_al_n (i := 0) hx hb d_L_law_112 rfl hl rfl ?_
    refine q_iload hx hb d_L_law_113 hl rfl ?_
    refine lv_iconst (v := nI 1) hx hb d_L_law_115 (by decide) ?_
    refine lv_iadd hx hb d_L_law_116 ?_
    rw [nI_add]
    refine va_sld hx hb hXs hbl hbA hM.S (vp_in_nI (show 3 * j + 1 < L by omega) (by omega)) d_L_law_117 ?_
    rw [nI_clamp (by omega)]
    refine q_al_n (i := 0) hx hb d_L_law_118 rfl hl rfl ?_
    refine q_iload hx hb d_L_law_119 hl rfl ?_
    refine lv_iconst (v := nI 2) hx hb d_L_law_121 (by decide) ?_
    refine lv_iadd hx hb d_L_law_122 ?_
    rw [nI_add]
    refine va_sld hx hb hXs hbl hbA hM.S (vp_in_nI (show 3 * j + 2 < L by omega) (by omega)) d_L_law_123 ?_
    rw [nI_clamp (by omega)]
    rw [← ek, ← et]
    refine l_mi (r_V 2 [.int k, .int t] rfl hx hb hml hown hg (m_M_link l D dA _ _ m0 j E T Rg wl rc k t hO (by omega)) (sJ_pre hM.m hK hX) (hM.m.recv hK (kJ_m hM km) (q := cls.getD 7 (R_H, F_H, 7)) rfl) kw_500 kw_501 kw_502 kw_5 kw_503 (by decide +kernel) ⟨Nat.le_of_ble_eq_true rfl, Nat.le_of_ble_eq_true rfl⟩ rfl rfl hl.sz (by first | exact Nat.le_of_ble_eq_true rfl | simp [rf_cat, Value.category]) d_L_law_124 ⟨by show _ ≤ 601024; omega, by show _ ≤ 7293033; omega⟩ rfl) hM (fun r2 u2 H locs hp2 hM => ?_)
    refine q_istore hx hb d_L_law_127 hl (by decide) (fun ls hl => ?_)
    simp only [List.set_cons_succ, List.set_cons_zero] at hl
    refine q_al_n (i := 2) hx hb d_L_law_129 rfl hl rfl ?_

    rcases hp2 with ⟨z, -⟩ | ⟨-, -, hz2, hO2⟩
    · exact absurd ⟨hv, hv2⟩ z
    · obtain ⟨E', T', hH3, hO3, hbr⟩ : ∃ E' T', Ho u1 h0 (j + 1) E' T' Rg wl rc ∧ Mo u2 m0 (j + 1) E' T' Rg wl rc ∧ (bb = 0 ↔ r2 = 0) := by
        rcases hP with ⟨a1, a2, a3⟩ | ⟨a1, a2, a3⟩ <;> rcases hO2 with ⟨b1, b2, b3⟩ | ⟨b1, b2, b3⟩
        · exact ⟨_, _, a3, b3, by rw [a2, b2]⟩
        · first | exact absurd a1 b1 | exact absurd b1 a1
        · first | exact absurd a1 b1 | exact absurd b1 a1
        · exact ⟨_, _, a3, b3, by rw [a2, b2]⟩
      have km2 := hO3.k
      refine l_mi (r_V 0 [] rfl hx hb hml hown hg (m_M_thrown l D dA _ _ m0 km2) (sJ_pre hM.m hK hX) (hM.m.recv hK (kJ_m hM km2) (q := cls.getD 7 (R_H, F_H, 7)) rfl) kw_496 kw_497 kw_498 kw_5 kw_499 (by decide +kernel) ⟨Nat.le_of_ble_eq_true rfl, Nat.le_of_ble_eq_true rfl⟩ rfl rfl hl.sz (by first | exact Nat.le_of_ble_eq_true rfl | simp [rf_cat, Value.category]) d_L_law_130 ⟨by show _ ≤ 601024; omega, by show _ ≤ 7293033; omega⟩ rfl) hM (fun q9 u9 H locs hp9 hM => ?_)
      obtain ⟨e8, e9⟩ := hp9
      rw [e8] at hM
      rw [e9]
      rw [hz2]
      refine q_iload hx hb d_L_law_133 hl rfl ?_
      refine lv_icmp_eq (tgt := 140) hx hb d_L_law_135 (by decide) (fun c1 => ?_) (fun c1 => ?_)
      · refine q_iload hx hb d_L_law_140 hl rfl ?_
        refine lv_if_ne (tgt := 164) hx hb d_L_law_142 (by decide) (fun c2 => ?_) (fun c2 => ?_)
        · exact absurd rfl c2
        · have kob : (sJ u1 (sJ (oS ob (if bb = 0 then 0 else 1)) u2)).1 ob = some (.inr (3, 1)) := by
            show (match u1.1 ob with | some k => some k | none => (sJ (oS ob _) u2).1 ob) = _
            rw [oS_dj.mp hM.2.1]
            show (match (oS ob _).1 ob with | some k => some k | none => u2.1 ob) = _
            rw [oS_k]
          have elg : (sJ u1 (sJ (oS ob (if bb = 0 then 0 else 1)) u2)).2.2.2 ob 0 = if bb = 0 then 0 else 1 := by
            have e1 : (sJ u1 (sJ (oS ob (if bb = 0 then 0 else 1)) u2)).2.2.2 ob = (sJ (oS ob (if bb = 0 then 0 else 1)) u2).2.2.2 ob := by
              show (match u1.1 ob with | some _ => u1.2.2.2 ob | none => (sJ (oS ob _) u2).2.2.2 ob) = _
              rw [oS_dj.mp hM.2.1]
            have e2 : (sJ (oS ob (if bb = 0 then 0 else 1)) u2).2.2.2 ob = (oS ob (if bb = 0 then 0 else 1)).2.2.2 ob := by
              show (match (oS ob _).1 ob with | some _ => (oS ob _).2.2.2 ob | none => u2.2.2.2 ob) = _
              rw [oS_k]
            rw [e1, e2]
            exact if_pos ⟨rfl, rfl⟩
          refine q_al_n (i := 3) hx hb d_L_law_145 rfl hl rfl ?_
          refine lv_iconst (v := nI 0) hx hb d_L_law_146 (by decide) ?_
          refine s_lld (t := 3) (kd := (sJ u1 (sJ (oS ob (if bb = 0 then 0 else 1)) u2)).1) (rf := (sJ u1 (sJ (oS ob (if bb = 0 then 0 else 1)) u2)).2.1) (it := (sJ u1 (sJ (oS ob (if bb = 0 then 0 else 1)) u2)).2.2.1) (lg := (sJ u1 (sJ (oS ob (if bb = 0 then 0 else 1)) u2)).2.2.2) hx hb hK hM.c kob rfl rfl (vp_in_nI (by decide) (by decide)) d_L_law_147 ?_
          rw [nI_clamp (by decide), elg]
          have fin : ∀ y : Int64, y = (if bb = 0 then 0 else 1) → W p l e room_1 s m #[Value.ref b] below meth c H locs (22 + 320 * j + 8 + 0 + 0) (57567 + 10240 * j + 2048 + 0 + 0) (lw_Z below #[Value.ref b] s) (F0 m 158 ls [.long y, .long (if bb = 0 then 0 else 1)]) := by
            intro y hy
            rw [← hy]
            refine W.lcmp hx hb d_L_law_158 ?_
            rw [lg_cmp_self]
            refine lv_if_eq (tgt := 164) hx hb d_L_law_159 (by decide) (fun c7 => ?_) (fun c7 => ?_)
            · refine lv_goto (tgt := 472) hx hb d_L_law_164 (by decide) ?_
              refine W.widen (k := 22 + 320 * (j + 1)) (n := 57567 + 10240 * (j + 1)) (by omega) (by omega) ?_
              exact nxt u1 _ _ E' T' Rg wl rc H locs ls _ _ hM hH3 hO3 hl
            · exact absurd rfl c7
          refine q_iload hx hb d_L_law_148 hl rfl ?_
          refine lv_if_eq (tgt := 157) hx hb d_L_law_150 (by decide) (fun c5 => ?_) (fun c5 => ?_)
          · refine lv_lconst (v := 0) hx hb d_L_law_157 (by decide) ?_
            exact fin 0 (by rw [if_pos (hbr.mpr c5)])
          · refine lv_lconst (v := 1) hx hb d_L_law_153 (by decide) ?_
            refine lv_goto (tgt := 158) hx hb d_L_law_154 (by decide) ?_
            exact fin 1 (by rw [if_neg (fun z => c5 (hbr.mp z))])
      · exact absurd rfl c1
set_option maxHeartbeats 4000000 in
set_option maxRecDepth 100000 in
theorem lc_1 {p : Program} {l : Launch} {e : Env} {s : State} {m : MethodId} {below : List Frame} {meth : Method} {c : Code} {D : va_G} {dA : Nat → ClassId} {b L : Nat} {xs : Nat → Int32} (hst : ∀ e : Env, l.admits e → e.platform.stackTraces = false) (hx : p.tables.exec = Jvm.exec) (hb : c.code = c_L_law) (hr : meth.sig.returnType = ret) (hlocks : meth.locks = false) (hml : c.maxLocals = 7) (hown : s.vm.findClass R_L = some m.cls) (hg : ∀ w ∈ gd, w.before #[Value.ref b] s = true) (hK : va_K D cls (tys dA) s) (hX : sKx s) (hT : sTh s) (hXs : va_X b L xs s s.heap) (hbl : b < s.heap.size) (hbA : ¬ sA SE s.heap.size b) (hL : L ≤ 1536) {h0 m0 ob : Nat} {j : Nat} (hj : 3 * j + 3 ≤ L) (nxt : ∀ (S1 S2 : sS) (x0 : Int64) (E : Nat → Nat → Prop) (T Rg : Nat → Prop) (wl : List Nat) (rc : Nat) (H : Heap) (locs : List Loc) (ls : Array Slot) (o5 o6 : Option Value), LW D dA (sA SE s.heap.size) s.heap S1 S2 ob x0 H locs → Ho S1 h0 (j + 1) E T Rg wl rc → Mo S2 m0 (j + 1) E T Rg wl rc → lc ls 7 [some (va_rf (some b)), some (va_rf (some h0)), some (va_rf (some m0)), some (va_rf (some ob)), some (.int (nI (3 * j))), o5, o6] → W p l e room_1 s m #[Value.ref b] below meth c H locs (22 + 320 * (j + 1)) (57567 + 10240 * (j + 1)) (lw_Z below #[Value.ref b] s) (F0 m 472 ls [])) (S1 S2 : sS) (x0 : Int64) (E : Nat → Nat → Prop) (T Rg : Nat → Prop) (wl : List Nat) (rc : Nat) (H : Heap) (locs : List Loc) (ls : Array Slot) (o5 o6 : Option Value) (hM : LW D dA (sA SE s.heap.size) s.heap S1 S2 ob x0 H locs) (hH : Ho S1 h0 j E T Rg wl rc) (hO : Mo S2 m0 j E T Rg wl rc) (hl : lc ls 7 [some (va_rf (some b)), some (va_rf (some h0)), some (va_rf (some m0)), some (va_rf (some ob)), some (.int (nI (3 * j))), o5, o6]) : W p l e room_1 s m #[Value.ref b] below meth c H locs (22 + 320 * j) (57567 + 10240 * j) (lw_Z below #[Value.ref b] s) (F0 m 167 ls []) := by
  have kh := hH.k
  have km := hO.k
  refine q_al_n (i := 1) hx hb d_L_law_167 rfl hl rfl ?_
  refine q_al_n (i := 0) hx hb d_L_law_168 rfl hl rfl ?_
  refine q_iload hx hb d_L_law_169 hl rfl ?_
  refine lv_iconst (v := nI 1) hx hb d_L_law_171 (by decide) ?_
  refine lv_iadd hx hb d_L_law_172 ?_
  rw [nI_add]
  refine va_sld hx hb hXs hbl hbA hM.S (vp_in_nI (show 3 * j + 1 < L by omega) (by omega)) d_L_law_173 ?_
  rw [nI_clamp (by omega)]
  refine q_al_n (i := 0) hx hb d_L_law_174 rfl hl rfl ?_
  refine q_iload hx hb d_L_law_175 hl rfl ?_
  refine lv_iconst (v := nI 2) hx hb d_L_law_177 (by decide) ?_
  refine lv_iadd hx hb d_L_law_178 ?_
  rw [nI_add]
  refine va_sld hx hb hXs hbl hbA hM.S (vp_in_nI (show 3 * j + 2 < L by omega) (by omega)) d_L_law_179 ?_
  rw [nI_clamp (by omega)]
  refine q_al_n (i := 3) hx hb d_L_law_180 rfl hl rfl ?_
  have hkk : ∃ k, k = xs (3 * j + 1) := ⟨_, rfl⟩
  obtain ⟨k, ek⟩ := hkk
  have htt : ∃ t, t = xs (3 * j + 2) := ⟨_, rfl⟩
  obtain ⟨t, et⟩ := htt
  rw [← ek, ← et]
  refine l_hi (r_SW 4 [.ref h0, .int k, .int t, .ref ob] rfl hx hb hml hown hg (m_L_unlink l hst D dA _ _ ob x0 h0 j E T Rg wl rc k t hH (by omega) hM.2.1) (SPT_pre hM.1 hK hX hT (hold9 hM)) kw_416 kw_417 kw_0 hw_L_unlink (by decide +kernel) ⟨Nat.le_of_ble_eq_true rfl, Nat.le_of_ble_eq_true rfl⟩ rfl rfl hl.sz (by first | exact Nat.le_of_ble_eq_true rfl | simp [rf_cat, Value.category]) d_L_law_181 ⟨by show _ ≤ 601024; omega, by show _ ≤ 7293033; omega⟩ rfl) hM (fun r u H locs hp hU => ?_)
  refine q_istore hx hb d_L_law_184 hl (by decide) (fun ls hl => ?_)
  simp only [List.set_cons_succ, List.set_cons_zero] at hl
  rcases hp with ⟨hbad, rfl, eu⟩ | ⟨hv, hv2, rfl, u1, bb, hP, eu, hd⟩
  · have hM := hU S1 x0 eu (hM.2.1)
    refine q_al_n (i := 2) hx hb d_L_law_186 rfl hl rfl ?_
    refine q_al_n (i := 0) hx hb d_L_law_187 rfl hl rfl ?_
    refine q_iload hx hb d_L_law_188 hl rfl ?_
    refine lv_iconst (v := nI 1) hx hb d_L_law_190 (by decide) ?_
    refine lv_iadd hx hb d_L_law_191 ?_
    rw [nI_add]
    refine va_sld hx hb hXs hbl hbA hM.S (vp_in_nI (show 3 * j + 1 < L by omega) (by omega)) d_L_law_192 ?_
    rw [nI_clamp (by omega)]
    refine q_al_n (i := 0) hx hb d_L_law_193 rfl hl rfl ?_
    refine q_iload hx hb d_L_law_194 hl rfl ?_
    refine lv_iconst (v := nI 2) hx hb d_L_law_196 (by decide) ?_
    refine lv_iadd hx hb d_L_law_197 ?_
    rw [nI_add]
    refine va_sld hx hb hXs hbl hbA hM.S (vp_in_nI (show 3 * j + 2 < L by omega) (by omega)) d_L_law_198 ?_
    rw [nI_clamp (by omega)]
    rw [← ek, ← et]
    refine l_mi (r_V 2 [.int k, .int t] rfl hx hb hml hown hg (m_M_unlink l D dA _ _ m0 j E T Rg wl rc k t hO (by omega)) (sJ_pre hM.m hK hX) (hM.m.recv hK (kJ_m hM km) (q := cls.getD 7 (R_H, F_H, 7)) rfl) kw_519 kw_520 kw_521 kw_5 kw_522 (by decide +kernel) ⟨Nat.le_of_ble_eq_true rfl, Nat.le_of_ble_eq_true rfl⟩ rfl rfl hl.sz (by first | exact Nat.le_of_ble_eq_true rfl | simp [rf_cat, Value.category]) d_L_law_199 ⟨by show _ ≤ 601024; omega, by show _ ≤ 7293033; omega⟩ rfl) hM (fun r2 u2 H locs hp2 hM => ?_)
    refine q_istore hx hb d_L_law_202 hl (by decide) (fun ls hl => ?_)
    simp only [List.set_cons_succ, List.set_cons_zero] at hl
    refine q_al_n (i := 2) hx hb d_L_law_204 rfl hl rfl ?_

    rcases hp2 with ⟨-, hz2, hO2⟩ | ⟨z1, z2, -⟩
    · have km2 := hO2.k
      refine l_mi (r_V 0 [] rfl hx hb hml hown hg (m_M_thrown l D dA _ _ m0 km2) (sJ_pre hM.m hK hX) (hM.m.recv hK (kJ_m hM km2) (q := cls.getD 7 (R_H, F_H, 7)) rfl) kw_496 kw_497 kw_498 kw_5 kw_499 (by decide +kernel) ⟨Nat.le_of_ble_eq_true rfl, Nat.le_of_ble_eq_true rfl⟩ rfl rfl hl.sz (by first | exact Nat.le_of_ble_eq_true rfl | simp [rf_cat, Value.category]) d_L_law_205 ⟨by show _ ≤ 601024; omega, by show _ ≤ 7293033; omega⟩ rfl) hM (fun q9 u9 H locs hp9 hM => ?_)
      obtain ⟨e8, e9⟩ := hp9
      rw [e8] at hM
      rw [e9]
      rw [hz2]
      refine q_iload hx hb d_L_law_208 hl rfl ?_
      refine lv_icmp_eq (tgt := 215) hx hb d_L_law_210 (by decide) (fun c1 => ?_) (fun c1 => ?_)
      · refine q_iload hx hb d_L_law_215 hl rfl ?_
        refine lv_if_ne (tgt := 239) hx hb d_L_law_217 (by decide) (fun c2 => ?_) (fun c2 => ?_)
        · refine lv_goto (tgt := 472) hx hb d_L_law_239 (by decide) ?_
          refine W.widen (k := 22 + 320 * (j + 1)) (n := 57567 + 10240 * (j + 1)) (by omega) (by omega) ?_
          exact nxt S1 _ x0 E T Rg wl rc H locs ls _ _ hM (Ho_mono hH (Nat.le_succ j)) hO2 hl
        · exact absurd c2 (by decide)
      · exact absurd rfl c1
    · exact absurd ⟨z1, z2⟩ hbad
  · have hM := hU u1 _ eu hd
    refine q_al_n (i := 2) hx hb d_L_law_186 rfl hl rfl ?_
    refine q_al_n (i := 0) hx hb d_L_law_187 rfl hl rfl ?_
    refine q_iload hx hb d_L_law_188 hl rfl ?_
    refine lv_iconst (v := nI 1) hx hb d_L_law_190 (by decide) ?_
    refine lv_iadd hx hb d_L_law_191 ?_
    rw [nI_add]
    refine va_sld hx hb hXs hbl hbA hM.S (vp_in_nI (show 3 * j + 1 < L by omega) (by omega)) d_L_law_192 ?_
    rw [nI_clamp (by omega)]
    refine q_al_n (i := 0) hx hb d_L_law_193 rfl hl rfl ?_
    refine q_iload hx hb d_L_law_194 hl rfl ?_
    refine lv_iconst (v := nI 2) hx hb d_L_law_196 (by decide) ?_
    refine lv_iadd hx hb d_L_law_197 ?_
    rw [nI_add]
    refine va_sld hx hb hXs hbl hbA hM.S (vp_in_nI (show 3 * j + 2 < L by omega) (by omega)) d_L_law_198 ?_
    rw [nI_clamp (by omega)]
    rw [← ek, ← et]
    refine l_mi (r_V 2 [.int k, .int t] rfl hx hb hml hown hg (m_M_unlink l D dA _ _ m0 j E T Rg wl rc k t hO (by omega)) (sJ_pre hM.m hK hX) (hM.m.recv hK (kJ_m hM km) (q := cls.getD 7 (R_H, F_H, 7)) rfl) kw_519 kw_520 kw_521 kw_5 kw_522 (by decide +kernel) ⟨Nat.le_of_ble_eq_true rfl, Nat.le_of_ble_eq_true rfl⟩ rfl rfl hl.sz (by first | exact Nat.le_of_ble_eq_true rfl | simp [rf_cat, Value.category]) d_L_law_199 ⟨by show _ ≤ 601024; omega, by show _ ≤ 7293033; omega⟩ rfl) hM (fun r2 u2 H locs hp2 hM => ?_)
    refine q_istore hx hb d_L_law_202 hl (by decide) (fun ls hl => ?_)
    simp only [List.set_cons_succ, List.set_cons_zero] at hl
    refine q_al_n (i := 2) hx hb d_L_law_204 rfl hl rfl ?_

    rcases hp2 with ⟨z, -⟩ | ⟨-, -, hz2, hO2⟩
    · exact absurd ⟨hv, hv2⟩ z
    · obtain ⟨E', T', hH3, hO3, hbr⟩ : ∃ E' T', Ho u1 h0 (j + 1) E' T' Rg wl rc ∧ Mo u2 m0 (j + 1) E' T' Rg wl rc ∧ (bb = 0 ↔ r2 = 0) := by
        rcases hP with ⟨a1, a2, a3⟩ | ⟨a1, a2, a3⟩ <;> rcases hO2 with ⟨b1, b2, b3⟩ | ⟨b1, b2, b3⟩
        · exact ⟨_, _, a3, b3, by rw [a2, b2]⟩
        · first | exact absurd a1 b1 | exact absurd b1 a1
        · first | exact absurd a1 b1 | exact absurd b1 a1
        · exact ⟨_, _, a3, b3, by rw [a2, b2]⟩
      have km2 := hO3.k
      refine l_mi (r_V 0 [] rfl hx hb hml hown hg (m_M_thrown l D dA _ _ m0 km2) (sJ_pre hM.m hK hX) (hM.m.recv hK (kJ_m hM km2) (q := cls.getD 7 (R_H, F_H, 7)) rfl) kw_496 kw_497 kw_498 kw_5 kw_499 (by decide +kernel) ⟨Nat.le_of_ble_eq_true rfl, Nat.le_of_ble_eq_true rfl⟩ rfl rfl hl.sz (by first | exact Nat.le_of_ble_eq_true rfl | simp [rf_cat, Value.category]) d_L_law_205 ⟨by show _ ≤ 601024; omega, by show _ ≤ 7293033; omega⟩ rfl) hM (fun q9 u9 H locs hp9 hM => ?_)
      obtain ⟨e8, e9⟩ := hp9
      rw [e8] at hM
      rw [e9]
      rw [hz2]
      refine q_iload hx hb d_L_law_208 hl rfl ?_
      refine lv_icmp_eq (tgt := 215) hx hb d_L_law_210 (by decide) (fun c1 => ?_) (fun c1 => ?_)
      · refine q_iload hx hb d_L_law_215 hl rfl ?_
        refine lv_if_ne (tgt := 239) hx hb d_L_law_217 (by decide) (fun c2 => ?_) (fun c2 => ?_)
        · exact absurd rfl c2
        · have kob : (sJ u1 (sJ (oS ob (if bb = 0 then 0 else 1)) u2)).1 ob = some (.inr (3, 1)) := by
            show (match u1.1 ob with | some k => some k | none => (sJ (oS ob _) u2).1 ob) = _
            rw [oS_dj.mp hM.2.1]
            show (match (oS ob _).1 ob with | some k => some k | none => u2.1 ob) = _
            rw [oS_k]
          have elg : (sJ u1 (sJ (oS ob (if bb = 0 then 0 else 1)) u2)).2.2.2 ob 0 = if bb = 0 then 0 else 1 := by
            have e1 : (sJ u1 (sJ (oS ob (if bb = 0 then 0 else 1)) u2)).2.2.2 ob = (sJ (oS ob (if bb = 0 then 0 else 1)) u2).2.2.2 ob := by
              show (match u1.1 ob with | some _ => u1.2.2.2 ob | none => (sJ (oS ob _) u2).2.2.2 ob) = _
              rw [oS_dj.mp hM.2.1]
            have e2 : (sJ (oS ob (if bb = 0 then 0 else 1)) u2).2.2.2 ob = (oS ob (if bb = 0 then 0 else 1)).2.2.2 ob := by
              show (match (oS ob _).1 ob with | some _ => (oS ob _).2.2.2 ob | none => u2.2.2.2 ob) = _
              rw [oS_k]
            rw [e1, e2]
            exact if_pos ⟨rfl, rfl⟩
          refine q_al_n (i := 3) hx hb d_L_law_220 rfl hl rfl ?_
          refine lv_iconst (v := nI 0) hx hb d_L_law_221 (by decide) ?_
          refine s_lld (t := 3) (kd := (sJ u1 (sJ (oS ob (if bb = 0 then 0 else 1)) u2)).1) (rf := (sJ u1 (sJ (oS ob (if bb = 0 then 0 else 1)) u2)).2.1) (it := (sJ u1 (sJ (oS ob (if bb = 0 then 0 else 1)) u2)).2.2.1) (lg := (sJ u1 (sJ (oS ob (if bb = 0 then 0 else 1)) u2)).2.2.2) hx hb hK hM.c kob rfl rfl (vp_in_nI (by decide) (by decide)) d_L_law_222 ?_
          rw [nI_clamp (by decide), elg]
          have fin : ∀ y : Int64, y = (if bb = 0 then 0 else 1) → W p l e room_1 s m #[Value.ref b] below meth c H locs (22 + 320 * j + 8 + 0 + 0) (57567 + 10240 * j + 2048 + 0 + 0) (lw_Z below #[Value.ref b] s) (F0 m 233 ls [.long y, .long (if bb = 0 then 0 else 1)]) := by
            intro y hy
            rw [← hy]
            refine W.lcmp hx hb d_L_law_233 ?_
            rw [lg_cmp_self]
            refine lv_if_eq (tgt := 239) hx hb d_L_law_234 (by decide) (fun c7 => ?_) (fun c7 => ?_)
            · refine lv_goto (tgt := 472) hx hb d_L_law_239 (by decide) ?_
              refine W.widen (k := 22 + 320 * (j + 1)) (n := 57567 + 10240 * (j + 1)) (by omega) (by omega) ?_
              exact nxt u1 _ _ E' T' Rg wl rc H locs ls _ _ hM hH3 hO3 hl
            · exact absurd rfl c7
          refine q_iload hx hb d_L_law_223 hl rfl ?_
          refine lv_if_eq (tgt := 232) hx hb d_L_law_225 (by decide) (fun c5 => ?_) (fun c5 => ?_)
          · refine lv_lconst (v := 0) hx hb d_L_law_232 (by decide) ?_
            exact fin 0 (by rw [if_pos (hbr.mpr c5)])
          · refine lv_lconst (v := 1) hx hb d_L_law_228 (by decide) ?_
            refine lv_goto (tgt := 233) hx hb d_L_law_229 (by decide) ?_
            exact fin 1 (by rw [if_neg (fun z => c5 (hbr.mp z))])
      · exact absurd rfl c1
set_option maxHeartbeats 4000000 in
set_option maxRecDepth 100000 in
theorem lc_2 {p : Program} {l : Launch} {e : Env} {s : State} {m : MethodId} {below : List Frame} {meth : Method} {c : Code} {D : va_G} {dA : Nat → ClassId} {b L : Nat} {xs : Nat → Int32} (hst : ∀ e : Env, l.admits e → e.platform.stackTraces = false) (hx : p.tables.exec = Jvm.exec) (hb : c.code = c_L_law) (hr : meth.sig.returnType = ret) (hlocks : meth.locks = false) (hml : c.maxLocals = 7) (hown : s.vm.findClass R_L = some m.cls) (hg : ∀ w ∈ gd, w.before #[Value.ref b] s = true) (hK : va_K D cls (tys dA) s) (hX : sKx s) (hT : sTh s) (hXs : va_X b L xs s s.heap) (hbl : b < s.heap.size) (hbA : ¬ sA SE s.heap.size b) (hL : L ≤ 1536) {h0 m0 ob : Nat} {j : Nat} (hj : 3 * j + 3 ≤ L) (nxt : ∀ (S1 S2 : sS) (x0 : Int64) (E : Nat → Nat → Prop) (T Rg : Nat → Prop) (wl : List Nat) (rc : Nat) (H : Heap) (locs : List Loc) (ls : Array Slot) (o5 o6 : Option Value), LW D dA (sA SE s.heap.size) s.heap S1 S2 ob x0 H locs → Ho S1 h0 (j + 1) E T Rg wl rc → Mo S2 m0 (j + 1) E T Rg wl rc → lc ls 7 [some (va_rf (some b)), some (va_rf (some h0)), some (va_rf (some m0)), some (va_rf (some ob)), some (.int (nI (3 * j))), o5, o6] → W p l e room_1 s m #[Value.ref b] below meth c H locs (22 + 320 * (j + 1)) (57567 + 10240 * (j + 1)) (lw_Z below #[Value.ref b] s) (F0 m 472 ls [])) (S1 S2 : sS) (x0 : Int64) (E : Nat → Nat → Prop) (T Rg : Nat → Prop) (wl : List Nat) (rc : Nat) (H : Heap) (locs : List Loc) (ls : Array Slot) (o5 o6 : Option Value) (hM : LW D dA (sA SE s.heap.size) s.heap S1 S2 ob x0 H locs) (hH : Ho S1 h0 j E T Rg wl rc) (hO : Mo S2 m0 j E T Rg wl rc) (hl : lc ls 7 [some (va_rf (some b)), some (va_rf (some h0)), some (va_rf (some m0)), some (va_rf (some ob)), some (.int (nI (3 * j))), o5, o6]) : W p l e room_1 s m #[Value.ref b] below meth c H locs (22 + 320 * j) (57567 + 10240 * j) (lw_Z below #[Value.ref b] s) (F0 m 242 ls []) := by
  have kh := hH.k
  have km := hO.k
  refine q_al_n (i := 1) hx hb d_L_law_242 rfl hl rfl ?_
  refine q_al_n (i := 0) hx hb d_L_law_243 rfl hl rfl ?_
  refine q_iload hx hb d_L_law_244 hl rfl ?_
  refine lv_iconst (v := nI 1) hx hb d_L_law_246 (by decide) ?_
  refine lv_iadd hx hb d_L_law_247 ?_
  rw [nI_add]
  refine va_sld hx hb hXs hbl hbA hM.S (vp_in_nI (show 3 * j + 1 < L by omega) (by omega)) d_L_law_248 ?_
  rw [nI_clamp (by omega)]
  refine q_al_n (i := 3) hx hb d_L_law_249 rfl hl rfl ?_
  have hkk : ∃ k, k = xs (3 * j + 1) := ⟨_, rfl⟩
  obtain ⟨k, ek⟩ := hkk
  rw [← ek]
  refine l_hi (r_SW 3 [.ref h0, .int k, .ref ob] rfl hx hb hml hown hg (m_L_clear l hst D dA _ _ ob x0 h0 j E T Rg wl rc k hH (by omega) hM.2.1) (SPT_pre hM.1 hK hX hT (hold9 hM)) kw_435 kw_436 kw_0 hw_L_clear (by decide +kernel) ⟨Nat.le_of_ble_eq_true rfl, Nat.le_of_ble_eq_true rfl⟩ rfl rfl hl.sz (by first | exact Nat.le_of_ble_eq_true rfl | simp [rf_cat, Value.category]) d_L_law_250 ⟨by show _ ≤ 601024; omega, by show _ ≤ 7293033; omega⟩ rfl) hM (fun r u H locs hp hU => ?_)
  refine q_istore hx hb d_L_law_253 hl (by decide) (fun ls hl => ?_)
  simp only [List.set_cons_succ, List.set_cons_zero] at hl
  rcases hp with ⟨hbad, rfl, eu⟩ | ⟨hv, rfl, u1, bb, hP, eu, hd⟩
  · have hM := hU S1 x0 eu (hM.2.1)
    refine q_al_n (i := 2) hx hb d_L_law_255 rfl hl rfl ?_
    refine q_al_n (i := 0) hx hb d_L_law_256 rfl hl rfl ?_
    refine q_iload hx hb d_L_law_257 hl rfl ?_
    refine lv_iconst (v := nI 1) hx hb d_L_law_259 (by decide) ?_
    refine lv_iadd hx hb d_L_law_260 ?_
    rw [nI_add]
    refine va_sld hx hb hXs hbl hbA hM.S (vp_in_nI (show 3 * j + 1 < L by omega) (by omega)) d_L_law_261 ?_
    rw [nI_clamp (by omega)]
    rw [← ek]
    refine l_mi (r_V 1 [.int k] rfl hx hb hml hown hg (m_M_clear l D dA _ _ m0 j E T Rg wl rc k hO (by omega)) (sJ_pre hM.m hK hX) (hM.m.recv hK (kJ_m hM km) (q := cls.getD 7 (R_H, F_H, 7)) rfl) kw_527 kw_528 kw_529 kw_5 kw_530 (by decide +kernel) ⟨Nat.le_of_ble_eq_true rfl, Nat.le_of_ble_eq_true rfl⟩ rfl rfl hl.sz (by first | exact Nat.le_of_ble_eq_true rfl | simp [rf_cat, Value.category]) d_L_law_262 ⟨by show _ ≤ 601024; omega, by show _ ≤ 7293033; omega⟩ rfl) hM (fun r2 u2 H locs hp2 hM => ?_)
    refine q_istore hx hb d_L_law_265 hl (by decide) (fun ls hl => ?_)
    simp only [List.set_cons_succ, List.set_cons_zero] at hl
    refine q_al_n (i := 2) hx hb d_L_law_267 rfl hl rfl ?_

    rcases hp2 with ⟨-, hz2, hO2⟩ | ⟨z1, -⟩
    · have km2 := hO2.k
      refine l_mi (r_V 0 [] rfl hx hb hml hown hg (m_M_thrown l D dA _ _ m0 km2) (sJ_pre hM.m hK hX) (hM.m.recv hK (kJ_m hM km2) (q := cls.getD 7 (R_H, F_H, 7)) rfl) kw_496 kw_497 kw_498 kw_5 kw_499 (by decide +kernel) ⟨Nat.le_of_ble_eq_true rfl, Nat.le_of_ble_eq_true rfl⟩ rfl rfl hl.sz (by first | exact Nat.le_of_ble_eq_true rfl | simp [rf_cat, Value.category]) d_L_law_268 ⟨by show _ ≤ 601024; omega, by show _ ≤ 7293033; omega⟩ rfl) hM (fun q9 u9 H locs hp9 hM => ?_)
      obtain ⟨e8, e9⟩ := hp9
      rw [e8] at hM
      rw [e9]
      rw [hz2]
      refine q_iload hx hb d_L_law_271 hl rfl ?_
      refine lv_icmp_eq (tgt := 278) hx hb d_L_law_273 (by decide) (fun c1 => ?_) (fun c1 => ?_)
      · refine q_iload hx hb d_L_law_278 hl rfl ?_
        refine lv_if_ne (tgt := 295) hx hb d_L_law_280 (by decide) (fun c2 => ?_) (fun c2 => ?_)
        · refine lv_goto (tgt := 472) hx hb d_L_law_295 (by decide) ?_
          refine W.widen (k := 22 + 320 * (j + 1)) (n := 57567 + 10240 * (j + 1)) (by omega) (by omega) ?_
          exact nxt S1 _ x0 E T Rg wl rc H locs ls _ _ hM (Ho_mono hH (Nat.le_succ j)) hO2 hl
        · exact absurd c2 (by decide)
      · exact absurd rfl c1
    · exact absurd z1 hbad
  · have hM := hU u1 _ eu hd
    refine q_al_n (i := 2) hx hb d_L_law_255 rfl hl rfl ?_
    refine q_al_n (i := 0) hx hb d_L_law_256 rfl hl rfl ?_
    refine q_iload hx hb d_L_law_257 hl rfl ?_
    refine lv_iconst (v := nI 1) hx hb d_L_law_259 (by decide) ?_
    refine lv_iadd hx hb d_L_law_260 ?_
    rw [nI_add]
    refine va_sld hx hb hXs hbl hbA hM.S (vp_in_nI (show 3 * j + 1 < L by omega) (by omega)) d_L_law_261 ?_
    rw [nI_clamp (by omega)]
    rw [← ek]
    refine l_mi (r_V 1 [.int k] rfl hx hb hml hown hg (m_M_clear l D dA _ _ m0 j E T Rg wl rc k hO (by omega)) (sJ_pre hM.m hK hX) (hM.m.recv hK (kJ_m hM km) (q := cls.getD 7 (R_H, F_H, 7)) rfl) kw_527 kw_528 kw_529 kw_5 kw_530 (by decide +kernel) ⟨Nat.le_of_ble_eq_true rfl, Nat.le_of_ble_eq_true rfl⟩ rfl rfl hl.sz (by first | exact Nat.le_of_ble_eq_true rfl | simp [rf_cat, Value.category]) d_L_law_262 ⟨by show _ ≤ 601024; omega, by show _ ≤ 7293033; omega⟩ rfl) hM (fun r2 u2 H locs hp2 hM => ?_)
    refine q_istore hx hb d_L_law_265 hl (by decide) (fun ls hl => ?_)
    simp only [List.set_cons_succ, List.set_cons_zero] at hl
    refine q_al_n (i := 2) hx hb d_L_law_267 rfl hl rfl ?_

    rcases hp2 with ⟨z, -⟩ | ⟨-, hz2, hO3, n2, hn2, hc2, e2⟩
    · exact absurd hv z
    · obtain ⟨hH3, n1, hn1, hc1, e1⟩ := hP
      have ebr : r2 = bb := by rw [e1, e2, crd_eq hc1 hc2]
      subst ebr
      have km2 := hO3.k
      refine l_mi (r_V 0 [] rfl hx hb hml hown hg (m_M_thrown l D dA _ _ m0 km2) (sJ_pre hM.m hK hX) (hM.m.recv hK (kJ_m hM km2) (q := cls.getD 7 (R_H, F_H, 7)) rfl) kw_496 kw_497 kw_498 kw_5 kw_499 (by decide +kernel) ⟨Nat.le_of_ble_eq_true rfl, Nat.le_of_ble_eq_true rfl⟩ rfl rfl hl.sz (by first | exact Nat.le_of_ble_eq_true rfl | simp [rf_cat, Value.category]) d_L_law_268 ⟨by show _ ≤ 601024; omega, by show _ ≤ 7293033; omega⟩ rfl) hM (fun q9 u9 H locs hp9 hM => ?_)
      obtain ⟨e8, e9⟩ := hp9
      rw [e8] at hM
      rw [e9]
      rw [hz2]
      refine q_iload hx hb d_L_law_271 hl rfl ?_
      refine lv_icmp_eq (tgt := 278) hx hb d_L_law_273 (by decide) (fun c1 => ?_) (fun c1 => ?_)
      · refine q_iload hx hb d_L_law_278 hl rfl ?_
        refine lv_if_ne (tgt := 295) hx hb d_L_law_280 (by decide) (fun c2 => ?_) (fun c2 => ?_)
        · exact absurd rfl c2
        · have kob : (sJ u1 (sJ (oS ob r2.toInt64) u2)).1 ob = some (.inr (3, 1)) := by
            show (match u1.1 ob with | some k => some k | none => (sJ (oS ob _) u2).1 ob) = _
            rw [oS_dj.mp hM.2.1]
            show (match (oS ob _).1 ob with | some k => some k | none => u2.1 ob) = _
            rw [oS_k]
          have elg : (sJ u1 (sJ (oS ob r2.toInt64) u2)).2.2.2 ob 0 = r2.toInt64 := by
            have e1 : (sJ u1 (sJ (oS ob r2.toInt64) u2)).2.2.2 ob = (sJ (oS ob r2.toInt64) u2).2.2.2 ob := by
              show (match u1.1 ob with | some _ => u1.2.2.2 ob | none => (sJ (oS ob _) u2).2.2.2 ob) = _
              rw [oS_dj.mp hM.2.1]
            have e2 : (sJ (oS ob r2.toInt64) u2).2.2.2 ob = (oS ob r2.toInt64).2.2.2 ob := by
              show (match (oS ob _).1 ob with | some _ => (oS ob _).2.2.2 ob | none => u2.2.2.2 ob) = _
              rw [oS_k]
            rw [e1, e2]
            exact if_pos ⟨rfl, rfl⟩
          refine q_al_n (i := 3) hx hb d_L_law_283 rfl hl rfl ?_
          refine lv_iconst (v := nI 0) hx hb d_L_law_284 (by decide) ?_
          refine s_lld (t := 3) (kd := (sJ u1 (sJ (oS ob r2.toInt64) u2)).1) (rf := (sJ u1 (sJ (oS ob r2.toInt64) u2)).2.1) (it := (sJ u1 (sJ (oS ob r2.toInt64) u2)).2.2.1) (lg := (sJ u1 (sJ (oS ob r2.toInt64) u2)).2.2.2) hx hb hK hM.c kob rfl rfl (vp_in_nI (by decide) (by decide)) d_L_law_285 ?_
          rw [nI_clamp (by decide), elg]
          refine q_iload hx hb d_L_law_286 hl rfl ?_
          refine lv_i2l (v := r2.toInt64) hx hb d_L_law_288 rfl ?_
          refine W.lcmp hx hb d_L_law_289 ?_
          rw [lg_cmp_self]
          refine lv_if_eq (tgt := 295) hx hb d_L_law_290 (by decide) (fun c7 => ?_) (fun c7 => ?_)
          · refine lv_goto (tgt := 472) hx hb d_L_law_295 (by decide) ?_
            refine W.widen (k := 22 + 320 * (j + 1)) (n := 57567 + 10240 * (j + 1)) (by omega) (by omega) ?_
            exact nxt u1 _ _ _ _ Rg wl rc H locs ls _ _ hM hH3 hO3 hl
          · exact absurd rfl c7
      · exact absurd rfl c1
set_option maxHeartbeats 4000000 in
set_option maxRecDepth 100000 in
theorem lc_3 {p : Program} {l : Launch} {e : Env} {s : State} {m : MethodId} {below : List Frame} {meth : Method} {c : Code} {D : va_G} {dA : Nat → ClassId} {b L : Nat} {xs : Nat → Int32} (hst : ∀ e : Env, l.admits e → e.platform.stackTraces = false) (hx : p.tables.exec = Jvm.exec) (hb : c.code = c_L_law) (hr : meth.sig.returnType = ret) (hlocks : meth.locks = false) (hml : c.maxLocals = 7) (hown : s.vm.findClass R_L = some m.cls) (hg : ∀ w ∈ gd, w.before #[Value.ref b] s = true) (hK : va_K D cls (tys dA) s) (hX : sKx s) (hT : sTh s) (hXs : va_X b L xs s s.heap) (hbl : b < s.heap.size) (hbA : ¬ sA SE s.heap.size b) (hL : L ≤ 1536) {h0 m0 ob : Nat} {j : Nat} (hj : 3 * j + 3 ≤ L) (nxt : ∀ (S1 S2 : sS) (x0 : Int64) (E : Nat → Nat → Prop) (T Rg : Nat → Prop) (wl : List Nat) (rc : Nat) (H : Heap) (locs : List Loc) (ls : Array Slot) (o5 o6 : Option Value), LW D dA (sA SE s.heap.size) s.heap S1 S2 ob x0 H locs → Ho S1 h0 (j + 1) E T Rg wl rc → Mo S2 m0 (j + 1) E T Rg wl rc → lc ls 7 [some (va_rf (some b)), some (va_rf (some h0)), some (va_rf (some m0)), some (va_rf (some ob)), some (.int (nI (3 * j))), o5, o6] → W p l e room_1 s m #[Value.ref b] below meth c H locs (22 + 320 * (j + 1)) (57567 + 10240 * (j + 1)) (lw_Z below #[Value.ref b] s) (F0 m 472 ls [])) (S1 S2 : sS) (x0 : Int64) (E : Nat → Nat → Prop) (T Rg : Nat → Prop) (wl : List Nat) (rc : Nat) (H : Heap) (locs : List Loc) (ls : Array Slot) (o5 o6 : Option Value) (hM : LW D dA (sA SE s.heap.size) s.heap S1 S2 ob x0 H locs) (hH : Ho S1 h0 j E T Rg wl rc) (hO : Mo S2 m0 j E T Rg wl rc) (hl : lc ls 7 [some (va_rf (some b)), some (va_rf (some h0)), some (va_rf (some m0)), some (va_rf (some ob)), some (.int (nI (3 * j))), o5, o6]) : W p l e room_1 s m #[Value.ref b] below meth c H locs (22 + 320 * j) (57567 + 10240 * j) (lw_Z below #[Value.ref b] s) (F0 m 298 ls []) := by
  have kh := hH.k
  have km := hO.k
  refine q_al_n (i := 1) hx hb d_L_law_298 rfl hl rfl ?_
  refine q_al_n (i := 0) hx hb d_L_law_299 rfl hl rfl ?_
  refine q_iload hx hb d_L_law_300 hl rfl ?_
  refine lv_iconst (v := nI 1) hx hb d_L_law_302 (by decide) ?_
  refine lv_iadd hx hb d_L_law_303 ?_
  rw [nI_add]
  refine va_sld hx hb hXs hbl hbA hM.S (vp_in_nI (show 3 * j + 1 < L by omega) (by omega)) d_L_law_304 ?_
  rw [nI_clamp (by omega)]
  have hkk : ∃ k, k = xs (3 * j + 1) := ⟨_, rfl⟩
  obtain ⟨k, ek⟩ := hkk
  rw [← ek]
  refine l_ci (r_SW 2 [.ref h0, .int k] rfl hx hb hml hown hg (m_L_touch l hst D dA _ _ h0 j E T Rg wl rc k hH (by omega)) (SPT_pre hM.c hK hX hT (hold9 hM)) kw_442 kw_443 kw_0 hw_L_touch (by decide +kernel) ⟨Nat.le_of_ble_eq_true rfl, Nat.le_of_ble_eq_true rfl⟩ rfl rfl hl.sz (by first | exact Nat.le_of_ble_eq_true rfl | simp [rf_cat, Value.category]) d_L_law_305 ⟨by show _ ≤ 601024; omega, by show _ ≤ 7293033; omega⟩ rfl) hM (fun r u H locs hp hM => ?_)
  refine q_istore hx hb d_L_law_308 hl (by decide) (fun ls hl => ?_)
  simp only [List.set_cons_succ, List.set_cons_zero] at hl
  have key : ∀ (T' : Nat → Prop), Ho u h0 (j + 1) E T' Rg wl rc → (∀ u2 : sS, MTouchP m0 j E T Rg wl rc k u2 → Mo u2 m0 (j + 1) E T' Rg wl rc ∧ u2.2.2.1 m0 0 = r) → W p l e room_1 s m #[Value.ref b] below meth c H locs (22 + 320 * j + 8) (57567 + 10240 * j + 2048) (lw_Z below #[Value.ref b] s) (F0 m 310 ls []) := by
    intro T' hH3 hkey
    refine q_al_n (i := 2) hx hb d_L_law_310 rfl hl rfl ?_
    refine q_al_n (i := 0) hx hb d_L_law_311 rfl hl rfl ?_
    refine q_iload hx hb d_L_law_312 hl rfl ?_
    refine lv_iconst (v := nI 1) hx hb d_L_law_314 (by decide) ?_
    refine lv_iadd hx hb d_L_law_315 ?_
    rw [nI_add]
    refine va_sld hx hb hXs hbl hbA hM.S (vp_in_nI (show 3 * j + 1 < L by omega) (by omega)) d_L_law_316 ?_
    rw [nI_clamp (by omega)]
    rw [← ek]
    refine l_mv (r_V 1 [.int k] rfl hx hb hml hown hg (m_M_touch l D dA _ _ m0 j E T Rg wl rc k hO (by omega)) (sJ_pre hM.m hK hX) (hM.m.recv hK (kJ_m hM km) (q := cls.getD 7 (R_H, F_H, 7)) rfl) kw_531 kw_532 kw_533 kw_5 kw_534 (by decide +kernel) ⟨Nat.le_of_ble_eq_true rfl, Nat.le_of_ble_eq_true rfl⟩ rfl rfl hl.sz (by first | exact Nat.le_of_ble_eq_true rfl | simp [rf_cat, Value.category]) d_L_law_317 ⟨by show _ ≤ 601024; omega, by show _ ≤ 7293033; omega⟩ rfl) hM (fun u2 H locs hp2 hM => ?_)
    refine q_al_n (i := 2) hx hb d_L_law_320 rfl hl rfl ?_

    obtain ⟨hO3, hz2⟩ := hkey u2 hp2
    have km2 := hO3.k
    refine l_mi (r_V 0 [] rfl hx hb hml hown hg (m_M_thrown l D dA _ _ m0 km2) (sJ_pre hM.m hK hX) (hM.m.recv hK (kJ_m hM km2) (q := cls.getD 7 (R_H, F_H, 7)) rfl) kw_496 kw_497 kw_498 kw_5 kw_499 (by decide +kernel) ⟨Nat.le_of_ble_eq_true rfl, Nat.le_of_ble_eq_true rfl⟩ rfl rfl hl.sz (by first | exact Nat.le_of_ble_eq_true rfl | simp [rf_cat, Value.category]) d_L_law_321 ⟨by show _ ≤ 601024; omega, by show _ ≤ 7293033; omega⟩ rfl) hM (fun q9 u9 H locs hp9 hM => ?_)
    obtain ⟨e8, e9⟩ := hp9
    rw [e8] at hM
    rw [e9]
    rw [hz2]
    refine q_iload hx hb d_L_law_324 hl rfl ?_
    refine lv_icmp_eq (tgt := 331) hx hb d_L_law_326 (by decide) (fun c1 => ?_) (fun c1 => ?_)
    · refine lv_goto (tgt := 472) hx hb d_L_law_331 (by decide) ?_
      refine W.widen (k := 22 + 320 * (j + 1)) (n := 57567 + 10240 * (j + 1)) (by omega) (by omega) ?_
      exact nxt u _ x0 E T' Rg wl rc H locs _ _ _ hM hH3 hO3 hl
    · exact absurd rfl c1
  rcases hp with ⟨hbad, rfl, rfl⟩ | ⟨hv, rfl, hH3⟩
  · refine key T (Ho_mono hH (Nat.le_succ j)) (fun u2 h2 => ?_)
    rcases h2 with ⟨-, h3, h4⟩ | ⟨z, -⟩
    · exact ⟨h4, h3⟩
    · exact absurd z hbad
  · refine key _ hH3 (fun u2 h2 => ?_)
    rcases h2 with ⟨z, -⟩ | ⟨-, h3, h4⟩
    · exact absurd hv z
    · exact ⟨h4, h3⟩
set_option maxHeartbeats 4000000 in
set_option maxRecDepth 100000 in
theorem lc_4 {p : Program} {l : Launch} {e : Env} {s : State} {m : MethodId} {below : List Frame} {meth : Method} {c : Code} {D : va_G} {dA : Nat → ClassId} {b L : Nat} {xs : Nat → Int32} (hst : ∀ e : Env, l.admits e → e.platform.stackTraces = false) (hx : p.tables.exec = Jvm.exec) (hb : c.code = c_L_law) (hr : meth.sig.returnType = ret) (hlocks : meth.locks = false) (hml : c.maxLocals = 7) (hown : s.vm.findClass R_L = some m.cls) (hg : ∀ w ∈ gd, w.before #[Value.ref b] s = true) (hK : va_K D cls (tys dA) s) (hX : sKx s) (hT : sTh s) (hXs : va_X b L xs s s.heap) (hbl : b < s.heap.size) (hbA : ¬ sA SE s.heap.size b) (hL : L ≤ 1536) {h0 m0 ob : Nat} {j : Nat} (hj : 3 * j + 3 ≤ L) (nxt : ∀ (S1 S2 : sS) (x0 : Int64) (E : Nat → Nat → Prop) (T Rg : Nat → Prop) (wl : List Nat) (rc : Nat) (H : Heap) (locs : List Loc) (ls : Array Slot) (o5 o6 : Option Value), LW D dA (sA SE s.heap.size) s.heap S1 S2 ob x0 H locs → Ho S1 h0 (j + 1) E T Rg wl rc → Mo S2 m0 (j + 1) E T Rg wl rc → lc ls 7 [some (va_rf (some b)), some (va_rf (some h0)), some (va_rf (some m0)), some (va_rf (some ob)), some (.int (nI (3 * j))), o5, o6] → W p l e room_1 s m #[Value.ref b] below meth c H locs (22 + 320 * (j + 1)) (57567 + 10240 * (j + 1)) (lw_Z below #[Value.ref b] s) (F0 m 472 ls [])) (S1 S2 : sS) (x0 : Int64) (E : Nat → Nat → Prop) (T Rg : Nat → Prop) (wl : List Nat) (rc : Nat) (H : Heap) (locs : List Loc) (ls : Array Slot) (o5 o6 : Option Value) (hM : LW D dA (sA SE s.heap.size) s.heap S1 S2 ob x0 H locs) (hH : Ho S1 h0 j E T Rg wl rc) (hO : Mo S2 m0 j E T Rg wl rc) (hl : lc ls 7 [some (va_rf (some b)), some (va_rf (some h0)), some (va_rf (some m0)), some (va_rf (some ob)), some (.int (nI (3 * j))), o5, o6]) : W p l e room_1 s m #[Value.ref b] below meth c H locs (22 + 320 * j) (57567 + 10240 * j) (lw_Z below #[Value.ref b] s) (F0 m 334 ls []) := by
  have kh := hH.k
  have km := hO.k
  refine q_al_n (i := 1) hx hb d_L_law_334 rfl hl rfl ?_
  refine l_ci (r_V 0 [] rfl hx hb hml hown hg (m_H_work l D dA _ _ h0 j E T Rg wl rc hH (by omega)) (sJ_pre hM.c hK hX) (hM.c.recv hK (kJ_c hM kh) (q := cls.getD 0 (R_H, F_H, 7)) rfl) kw_87 kw_88 kw_89 kw_1 kw_90 (by decide +kernel) ⟨Nat.le_of_ble_eq_true rfl, Nat.le_of_ble_eq_true rfl⟩ rfl rfl hl.sz (by first | exact Nat.le_of_ble_eq_true rfl | simp [rf_cat, Value.category]) d_L_law_335 ⟨by show _ ≤ 601024; omega, by show _ ≤ 7293033; omega⟩ rfl) hM (fun r u H locs hp hM => ?_)
  refine q_al_n (i := 2) hx hb d_L_law_338 rfl hl rfl ?_
  refine l_mi (r_V 0 [] rfl hx hb hml hown hg (m_M_work l D dA _ _ m0 j E T Rg wl rc hO (by omega)) (sJ_pre hM.m hK hX) (hM.m.recv hK (kJ_m hM km) (q := cls.getD 7 (R_H, F_H, 7)) rfl) kw_535 kw_536 kw_537 kw_5 kw_538 (by decide +kernel) ⟨Nat.le_of_ble_eq_true rfl, Nat.le_of_ble_eq_true rfl⟩ rfl rfl hl.sz (by first | exact Nat.le_of_ble_eq_true rfl | simp [rf_cat, Value.category]) d_L_law_339 ⟨by show _ ≤ 601024; omega, by show _ ≤ 7293033; omega⟩ rfl) hM (fun r2 u2 H locs hp2 hM => ?_)
  obtain ⟨w1, rc1, a1, a2, a3, L1, a4, a5, a6⟩ := hp
  obtain ⟨⟨w2, rc2, b1, b2, b3, b4⟩, -⟩ := hp2
  have ew := gR_eq a3 b3
  subst ew
  have erc : rc1 = rc2 := by
    have := crd_eq (⟨L1, a4, a5, rfl⟩ : crd (gF E T) L1.length) b4
    omega
  subst erc
  rw [a2, b2]
  refine lv_icmp_eq (tgt := 472) hx hb d_L_law_342 (by decide) (fun c1 => ?_) (fun c1 => ?_)
  · refine W.widen (k := 22 + 320 * (j + 1)) (n := 57567 + 10240 * (j + 1)) (by omega) (by omega) ?_
    exact nxt u u2 x0 E _ _ w1 rc1 H locs ls _ _ hM (Ho_mono a1 (Nat.le_succ j)) (Mo_mono b1 (Nat.le_succ j)) hl
  · exact absurd rfl c1
set_option maxHeartbeats 4000000 in
set_option maxRecDepth 100000 in
theorem lc_5 {p : Program} {l : Launch} {e : Env} {s : State} {m : MethodId} {below : List Frame} {meth : Method} {c : Code} {D : va_G} {dA : Nat → ClassId} {b L : Nat} {xs : Nat → Int32} (hst : ∀ e : Env, l.admits e → e.platform.stackTraces = false) (hx : p.tables.exec = Jvm.exec) (hb : c.code = c_L_law) (hr : meth.sig.returnType = ret) (hlocks : meth.locks = false) (hml : c.maxLocals = 7) (hown : s.vm.findClass R_L = some m.cls) (hg : ∀ w ∈ gd, w.before #[Value.ref b] s = true) (hK : va_K D cls (tys dA) s) (hX : sKx s) (hT : sTh s) (hXs : va_X b L xs s s.heap) (hbl : b < s.heap.size) (hbA : ¬ sA SE s.heap.size b) (hL : L ≤ 1536) {h0 m0 ob : Nat} {j : Nat} (hj : 3 * j + 3 ≤ L) (nxt : ∀ (S1 S2 : sS) (x0 : Int64) (E : Nat → Nat → Prop) (T Rg : Nat → Prop) (wl : List Nat) (rc : Nat) (H : Heap) (locs : List Loc) (ls : Array Slot) (o5 o6 : Option Value), LW D dA (sA SE s.heap.size) s.heap S1 S2 ob x0 H locs → Ho S1 h0 (j + 1) E T Rg wl rc → Mo S2 m0 (j + 1) E T Rg wl rc → lc ls 7 [some (va_rf (some b)), some (va_rf (some h0)), some (va_rf (some m0)), some (va_rf (some ob)), some (.int (nI (3 * j))), o5, o6] → W p l e room_1 s m #[Value.ref b] below meth c H locs (22 + 320 * (j + 1)) (57567 + 10240 * (j + 1)) (lw_Z below #[Value.ref b] s) (F0 m 472 ls [])) (S1 S2 : sS) (x0 : Int64) (E : Nat → Nat → Prop) (T Rg : Nat → Prop) (wl : List Nat) (rc : Nat) (H : Heap) (locs : List Loc) (ls : Array Slot) (o5 o6 : Option Value) (hM : LW D dA (sA SE s.heap.size) s.heap S1 S2 ob x0 H locs) (hH : Ho S1 h0 j E T Rg wl rc) (hO : Mo S2 m0 j E T Rg wl rc) (hl : lc ls 7 [some (va_rf (some b)), some (va_rf (some h0)), some (va_rf (some m0)), some (va_rf (some ob)), some (.int (nI (3 * j))), o5, o6]) : W p l e room_1 s m #[Value.ref b] below meth c H locs (22 + 320 * j) (57567 + 10240 * j) (lw_Z below #[Value.ref b] s) (F0 m 347 ls []) := by
  have kh := hH.k
  have km := hO.k
  refine q_al_n (i := 1) hx hb d_L_law_347 rfl hl rfl ?_
  refine q_al_n (i := 0) hx hb d_L_law_348 rfl hl rfl ?_
  refine q_iload hx hb d_L_law_349 hl rfl ?_
  refine lv_iconst (v := nI 1) hx hb d_L_law_351 (by decide) ?_
  refine lv_iadd hx hb d_L_law_352 ?_
  rw [nI_add]
  refine va_sld hx hb hXs hbl hbA hM.S (vp_in_nI (show 3 * j + 1 < L by omega) (by omega)) d_L_law_353 ?_
  rw [nI_clamp (by omega)]
  refine l_ci (r_V 1 [.int (xs (3 * j + 1))] rfl hx hb hml hown hg (m_H_worked l D dA _ _ h0 j E T Rg wl rc (xs (3 * j + 1)) hH) (sJ_pre hM.c hK hX) (hM.c.recv hK (kJ_c hM kh) (q := cls.getD 0 (R_H, F_H, 7)) rfl) kw_243 kw_244 kw_245 kw_1 kw_246 (by decide +kernel) ⟨Nat.le_of_ble_eq_true rfl, Nat.le_of_ble_eq_true rfl⟩ rfl rfl hl.sz (by first | exact Nat.le_of_ble_eq_true rfl | simp [rf_cat, Value.category]) d_L_law_354 ⟨by show _ ≤ 601024; omega, by show _ ≤ 7293033; omega⟩ rfl) hM (fun r u H locs hp hM => ?_)
  obtain ⟨e8, hp⟩ := hp
  rw [e8] at hM
  refine q_al_n (i := 2) hx hb d_L_law_357 rfl hl rfl ?_
  refine q_al_n (i := 0) hx hb d_L_law_358 rfl hl rfl ?_
  refine q_iload hx hb d_L_law_359 hl rfl ?_
  refine lv_iconst (v := nI 1) hx hb d_L_law_361 (by decide) ?_
  refine lv_iadd hx hb d_L_law_362 ?_
  rw [nI_add]
  refine va_sld hx hb hXs hbl hbA hM.S (vp_in_nI (show 3 * j + 1 < L by omega) (by omega)) d_L_law_363 ?_
  rw [nI_clamp (by omega)]
  refine l_mi (r_V 1 [.int (xs (3 * j + 1))] rfl hx hb hml hown hg (m_M_worked l D dA _ _ m0 j E T Rg wl rc (xs (3 * j + 1)) hO (by omega)) (sJ_pre hM.m hK hX) (hM.m.recv hK (kJ_m hM km) (q := cls.getD 7 (R_H, F_H, 7)) rfl) kw_551 kw_552 kw_553 kw_5 kw_554 (by decide +kernel) ⟨Nat.le_of_ble_eq_true rfl, Nat.le_of_ble_eq_true rfl⟩ rfl rfl hl.sz (by first | exact Nat.le_of_ble_eq_true rfl | simp [rf_cat, Value.category]) d_L_law_364 ⟨by show _ ≤ 601024; omega, by show _ ≤ 7293033; omega⟩ rfl) hM (fun r2 u2 H locs hp2 hM => ?_)
  obtain ⟨e9, hp2⟩ := hp2
  rw [e9] at hM
  have er : r = r2 := wk_eq hp hp2
  refine lv_icmp_eq (tgt := 472) hx hb d_L_law_367 (by decide) (fun c1 => ?_) (fun c1 => ?_)
  · refine W.widen (k := 22 + 320 * (j + 1)) (n := 57567 + 10240 * (j + 1)) (by omega) (by omega) ?_
    exact nxt _ _ x0 E T Rg wl rc H locs ls _ _ hM (Ho_mono hH (Nat.le_succ j)) (Mo_0 (Mo_mono hO (Nat.le_succ j)) 0) hl
  · exact absurd er c1
set_option maxHeartbeats 4000000 in
set_option maxRecDepth 100000 in
theorem lc_6 {p : Program} {l : Launch} {e : Env} {s : State} {m : MethodId} {below : List Frame} {meth : Method} {c : Code} {D : va_G} {dA : Nat → ClassId} {b L : Nat} {xs : Nat → Int32} (hst : ∀ e : Env, l.admits e → e.platform.stackTraces = false) (hx : p.tables.exec = Jvm.exec) (hb : c.code = c_L_law) (hr : meth.sig.returnType = ret) (hlocks : meth.locks = false) (hml : c.maxLocals = 7) (hown : s.vm.findClass R_L = some m.cls) (hg : ∀ w ∈ gd, w.before #[Value.ref b] s = true) (hK : va_K D cls (tys dA) s) (hX : sKx s) (hT : sTh s) (hXs : va_X b L xs s s.heap) (hbl : b < s.heap.size) (hbA : ¬ sA SE s.heap.size b) (hL : L ≤ 1536) {h0 m0 ob : Nat} {j : Nat} (hj : 3 * j + 3 ≤ L) (nxt : ∀ (S1 S2 : sS) (x0 : Int64) (E : Nat → Nat → Prop) (T Rg : Nat → Prop) (wl : List Nat) (rc : Nat) (H : Heap) (locs : List Loc) (ls : Array Slot) (o5 o6 : Option Value), LW D dA (sA SE s.heap.size) s.heap S1 S2 ob x0 H locs → Ho S1 h0 (j + 1) E T Rg wl rc → Mo S2 m0 (j + 1) E T Rg wl rc → lc ls 7 [some (va_rf (some b)), some (va_rf (some h0)), some (va_rf (some m0)), some (va_rf (some ob)), some (.int (nI (3 * j))), o5, o6] → W p l e room_1 s m #[Value.ref b] below meth c H locs (22 + 320 * (j + 1)) (57567 + 10240 * (j + 1)) (lw_Z below #[Value.ref b] s) (F0 m 472 ls [])) (S1 S2 : sS) (x0 : Int64) (E : Nat → Nat → Prop) (T Rg : Nat → Prop) (wl : List Nat) (rc : Nat) (H : Heap) (locs : List Loc) (ls : Array Slot) (o5 o6 : Option Value) (hM : LW D dA (sA SE s.heap.size) s.heap S1 S2 ob x0 H locs) (hH : Ho S1 h0 j E T Rg wl rc) (hO : Mo S2 m0 j E T Rg wl rc) (hl : lc ls 7 [some (va_rf (some b)), some (va_rf (some h0)), some (va_rf (some m0)), some (va_rf (some ob)), some (.int (nI (3 * j))), o5, o6]) : W p l e room_1 s m #[Value.ref b] below meth c H locs (22 + 320 * j) (57567 + 10240 * j) (lw_Z below #[Value.ref b] s) (F0 m 372 ls []) := by
  have kh := hH.k
  have km := hO.k
  refine q_al_n (i := 1) hx hb d_L_law_372 rfl hl rfl ?_
  refine l_ci (r_V 0 [] rfl hx hb hml hown hg (m_H_found l D dA _ _ h0 j E T Rg wl rc  hH) (sJ_pre hM.c hK hX) (hM.c.recv hK (kJ_c hM kh) (q := cls.getD 0 (R_H, F_H, 7)) rfl) kw_247 kw_248 kw_249 kw_1 kw_250 (by decide +kernel) ⟨Nat.le_of_ble_eq_true rfl, Nat.le_of_ble_eq_true rfl⟩ rfl rfl hl.sz (by first | exact Nat.le_of_ble_eq_true rfl | simp [rf_cat, Value.category]) d_L_law_373 ⟨by show _ ≤ 601024; omega, by show _ ≤ 7293033; omega⟩ rfl) hM (fun r u H locs hp hM => ?_)
  obtain ⟨e8, hp⟩ := hp
  rw [e8] at hM
  refine q_al_n (i := 2) hx hb d_L_law_376 rfl hl rfl ?_
  refine l_mi (r_V 0 [] rfl hx hb hml hown hg (m_M_found l D dA _ _ m0 j E T Rg wl rc  hO (by omega)) (sJ_pre hM.m hK hX) (hM.m.recv hK (kJ_m hM km) (q := cls.getD 7 (R_H, F_H, 7)) rfl) kw_555 kw_556 kw_557 kw_5 kw_558 (by decide +kernel) ⟨Nat.le_of_ble_eq_true rfl, Nat.le_of_ble_eq_true rfl⟩ rfl rfl hl.sz (by first | exact Nat.le_of_ble_eq_true rfl | simp [rf_cat, Value.category]) d_L_law_377 ⟨by show _ ≤ 601024; omega, by show _ ≤ 7293033; omega⟩ rfl) hM (fun r2 u2 H locs hp2 hM => ?_)
  obtain ⟨e9, hp2⟩ := hp2
  rw [e9] at hM
  have er : r = r2 := hp.trans hp2.symm
  refine lv_icmp_eq (tgt := 472) hx hb d_L_law_380 (by decide) (fun c1 => ?_) (fun c1 => ?_)
  · refine W.widen (k := 22 + 320 * (j + 1)) (n := 57567 + 10240 * (j + 1)) (by omega) (by omega) ?_
    exact nxt _ _ x0 E T Rg wl rc H locs ls _ _ hM (Ho_mono hH (Nat.le_succ j)) (Mo_0 (Mo_mono hO (Nat.le_succ j)) 0) hl
  · exact absurd er c1
set_option maxHeartbeats 4000000 in
set_option maxRecDepth 100000 in
theorem lc_7 {p : Program} {l : Launch} {e : Env} {s : State} {m : MethodId} {below : List Frame} {meth : Method} {c : Code} {D : va_G} {dA : Nat → ClassId} {b L : Nat} {xs : Nat → Int32} (hst : ∀ e : Env, l.admits e → e.platform.stackTraces = false) (hx : p.tables.exec = Jvm.exec) (hb : c.code = c_L_law) (hr : meth.sig.returnType = ret) (hlocks : meth.locks = false) (hml : c.maxLocals = 7) (hown : s.vm.findClass R_L = some m.cls) (hg : ∀ w ∈ gd, w.before #[Value.ref b] s = true) (hK : va_K D cls (tys dA) s) (hX : sKx s) (hT : sTh s) (hXs : va_X b L xs s s.heap) (hbl : b < s.heap.size) (hbA : ¬ sA SE s.heap.size b) (hL : L ≤ 1536) {h0 m0 ob : Nat} {j : Nat} (hj : 3 * j + 3 ≤ L) (nxt : ∀ (S1 S2 : sS) (x0 : Int64) (E : Nat → Nat → Prop) (T Rg : Nat → Prop) (wl : List Nat) (rc : Nat) (H : Heap) (locs : List Loc) (ls : Array Slot) (o5 o6 : Option Value), LW D dA (sA SE s.heap.size) s.heap S1 S2 ob x0 H locs → Ho S1 h0 (j + 1) E T Rg wl rc → Mo S2 m0 (j + 1) E T Rg wl rc → lc ls 7 [some (va_rf (some b)), some (va_rf (some h0)), some (va_rf (some m0)), some (va_rf (some ob)), some (.int (nI (3 * j))), o5, o6] → W p l e room_1 s m #[Value.ref b] below meth c H locs (22 + 320 * (j + 1)) (57567 + 10240 * (j + 1)) (lw_Z below #[Value.ref b] s) (F0 m 472 ls [])) (S1 S2 : sS) (x0 : Int64) (E : Nat → Nat → Prop) (T Rg : Nat → Prop) (wl : List Nat) (rc : Nat) (H : Heap) (locs : List Loc) (ls : Array Slot) (o5 o6 : Option Value) (hM : LW D dA (sA SE s.heap.size) s.heap S1 S2 ob x0 H locs) (hH : Ho S1 h0 j E T Rg wl rc) (hO : Mo S2 m0 j E T Rg wl rc) (hl : lc ls 7 [some (va_rf (some b)), some (va_rf (some h0)), some (va_rf (some m0)), some (va_rf (some ob)), some (.int (nI (3 * j))), o5, o6]) : W p l e room_1 s m #[Value.ref b] below meth c H locs (22 + 320 * j) (57567 + 10240 * j) (lw_Z below #[Value.ref b] s) (F0 m 385 ls []) := by
  have kh := hH.k
  have km := hO.k
  refine q_al_n (i := 1) hx hb d_L_law_385 rfl hl rfl ?_
  refine q_al_n (i := 0) hx hb d_L_law_386 rfl hl rfl ?_
  refine q_iload hx hb d_L_law_387 hl rfl ?_
  refine lv_iconst (v := nI 1) hx hb d_L_law_389 (by decide) ?_
  refine lv_iadd hx hb d_L_law_390 ?_
  rw [nI_add]
  refine va_sld hx hb hXs hbl hbA hM.S (vp_in_nI (show 3 * j + 1 < L by omega) (by omega)) d_L_law_391 ?_
  rw [nI_clamp (by omega)]
  refine l_ci (r_V 1 [.int (xs (3 * j + 1))] rfl hx hb hml hown hg (m_H_ringed l D dA _ _ h0 j E T Rg wl rc (xs (3 * j + 1)) hH) (sJ_pre hM.c hK hX) (hM.c.recv hK (kJ_c hM kh) (q := cls.getD 0 (R_H, F_H, 7)) rfl) kw_251 kw_252 kw_253 kw_1 kw_254 (by decide +kernel) ⟨Nat.le_of_ble_eq_true rfl, Nat.le_of_ble_eq_true rfl⟩ rfl rfl hl.sz (by first | exact Nat.le_of_ble_eq_true rfl | simp [rf_cat, Value.category]) d_L_law_392 ⟨by show _ ≤ 601024; omega, by show _ ≤ 7293033; omega⟩ rfl) hM (fun r u H locs hp hM => ?_)
  obtain ⟨e8, hp⟩ := hp
  rw [e8] at hM
  refine q_al_n (i := 2) hx hb d_L_law_395 rfl hl rfl ?_
  refine q_al_n (i := 0) hx hb d_L_law_396 rfl hl rfl ?_
  refine q_iload hx hb d_L_law_397 hl rfl ?_
  refine lv_iconst (v := nI 1) hx hb d_L_law_399 (by decide) ?_
  refine lv_iadd hx hb d_L_law_400 ?_
  rw [nI_add]
  refine va_sld hx hb hXs hbl hbA hM.S (vp_in_nI (show 3 * j + 1 < L by omega) (by omega)) d_L_law_401 ?_
  rw [nI_clamp (by omega)]
  refine l_mi (r_V 1 [.int (xs (3 * j + 1))] rfl hx hb hml hown hg (m_M_ringed l D dA _ _ m0 j E T Rg wl rc (xs (3 * j + 1)) hO (by omega)) (sJ_pre hM.m hK hX) (hM.m.recv hK (kJ_m hM km) (q := cls.getD 7 (R_H, F_H, 7)) rfl) kw_559 kw_560 kw_561 kw_5 kw_562 (by decide +kernel) ⟨Nat.le_of_ble_eq_true rfl, Nat.le_of_ble_eq_true rfl⟩ rfl rfl hl.sz (by first | exact Nat.le_of_ble_eq_true rfl | simp [rf_cat, Value.category]) d_L_law_402 ⟨by show _ ≤ 601024; omega, by show _ ≤ 7293033; omega⟩ rfl) hM (fun r2 u2 H locs hp2 hM => ?_)
  obtain ⟨e9, hp2⟩ := hp2
  rw [e9] at hM
  have er : r = r2 := fl_eq hp hp2
  refine lv_icmp_eq (tgt := 472) hx hb d_L_law_405 (by decide) (fun c1 => ?_) (fun c1 => ?_)
  · refine W.widen (k := 22 + 320 * (j + 1)) (n := 57567 + 10240 * (j + 1)) (by omega) (by omega) ?_
    exact nxt _ _ x0 E T Rg wl rc H locs ls _ _ hM (Ho_mono hH (Nat.le_succ j)) (Mo_0 (Mo_mono hO (Nat.le_succ j)) 0) hl
  · exact absurd er c1
set_option maxHeartbeats 4000000 in
set_option maxRecDepth 100000 in
theorem lc_8 {p : Program} {l : Launch} {e : Env} {s : State} {m : MethodId} {below : List Frame} {meth : Method} {c : Code} {D : va_G} {dA : Nat → ClassId} {b L : Nat} {xs : Nat → Int32} (hst : ∀ e : Env, l.admits e → e.platform.stackTraces = false) (hx : p.tables.exec = Jvm.exec) (hb : c.code = c_L_law) (hr : meth.sig.returnType = ret) (hlocks : meth.locks = false) (hml : c.maxLocals = 7) (hown : s.vm.findClass R_L = some m.cls) (hg : ∀ w ∈ gd, w.before #[Value.ref b] s = true) (hK : va_K D cls (tys dA) s) (hX : sKx s) (hT : sTh s) (hXs : va_X b L xs s s.heap) (hbl : b < s.heap.size) (hbA : ¬ sA SE s.heap.size b) (hL : L ≤ 1536) {h0 m0 ob : Nat} {j : Nat} (hj : 3 * j + 3 ≤ L) (nxt : ∀ (S1 S2 : sS) (x0 : Int64) (E : Nat → Nat → Prop) (T Rg : Nat → Prop) (wl : List Nat) (rc : Nat) (H : Heap) (locs : List Loc) (ls : Array Slot) (o5 o6 : Option Value), LW D dA (sA SE s.heap.size) s.heap S1 S2 ob x0 H locs → Ho S1 h0 (j + 1) E T Rg wl rc → Mo S2 m0 (j + 1) E T Rg wl rc → lc ls 7 [some (va_rf (some b)), some (va_rf (some h0)), some (va_rf (some m0)), some (va_rf (some ob)), some (.int (nI (3 * j))), o5, o6] → W p l e room_1 s m #[Value.ref b] below meth c H locs (22 + 320 * (j + 1)) (57567 + 10240 * (j + 1)) (lw_Z below #[Value.ref b] s) (F0 m 472 ls [])) (S1 S2 : sS) (x0 : Int64) (E : Nat → Nat → Prop) (T Rg : Nat → Prop) (wl : List Nat) (rc : Nat) (H : Heap) (locs : List Loc) (ls : Array Slot) (o5 o6 : Option Value) (hM : LW D dA (sA SE s.heap.size) s.heap S1 S2 ob x0 H locs) (hH : Ho S1 h0 j E T Rg wl rc) (hO : Mo S2 m0 j E T Rg wl rc) (hl : lc ls 7 [some (va_rf (some b)), some (va_rf (some h0)), some (va_rf (some m0)), some (va_rf (some ob)), some (.int (nI (3 * j))), o5, o6]) : W p l e room_1 s m #[Value.ref b] below meth c H locs (22 + 320 * j) (57567 + 10240 * j) (lw_Z below #[Value.ref b] s) (F0 m 410 ls []) := by
  have kh := hH.k
  have km := hO.k
  refine q_al_n (i := 1) hx hb d_L_law_410 rfl hl rfl ?_
  refine q_al_n (i := 0) hx hb d_L_law_411 rfl hl rfl ?_
  refine q_iload hx hb d_L_law_412 hl rfl ?_
  refine lv_iconst (v := nI 1) hx hb d_L_law_414 (by decide) ?_
  refine lv_iadd hx hb d_L_law_415 ?_
  rw [nI_add]
  refine va_sld hx hb hXs hbl hbA hM.S (vp_in_nI (show 3 * j + 1 < L by omega) (by omega)) d_L_law_416 ?_
  rw [nI_clamp (by omega)]
  refine q_al_n (i := 0) hx hb d_L_law_417 rfl hl rfl ?_
  refine q_iload hx hb d_L_law_418 hl rfl ?_
  refine lv_iconst (v := nI 2) hx hb d_L_law_420 (by decide) ?_
  refine lv_iadd hx hb d_L_law_421 ?_
  rw [nI_add]
  refine va_sld hx hb hXs hbl hbA hM.S (vp_in_nI (show 3 * j + 2 < L by omega) (by omega)) d_L_law_422 ?_
  rw [nI_clamp (by omega)]
  refine l_ci (r_V 2 [.int (xs (3 * j + 1)), .int (xs (3 * j + 2))] rfl hx hb hml hown hg (m_H_links l D dA _ _ h0 j E T Rg wl rc (xs (3 * j + 1)) (xs (3 * j + 2)) hH) (sJ_pre hM.c hK hX) (hM.c.recv hK (kJ_c hM kh) (q := cls.getD 0 (R_H, F_H, 7)) rfl) kw_262 kw_263 kw_264 kw_1 kw_265 (by decide +kernel) ⟨Nat.le_of_ble_eq_true rfl, Nat.le_of_ble_eq_true rfl⟩ rfl rfl hl.sz (by first | exact Nat.le_of_ble_eq_true rfl | simp [rf_cat, Value.category]) d_L_law_423 ⟨by show _ ≤ 601024; omega, by show _ ≤ 7293033; omega⟩ rfl) hM (fun r u H locs hp hM => ?_)
  obtain ⟨e8, hp⟩ := hp
  rw [e8] at hM
  refine q_al_n (i := 2) hx hb d_L_law_426 rfl hl rfl ?_
  refine q_al_n (i := 0) hx hb d_L_law_427 rfl hl rfl ?_
  refine q_iload hx hb d_L_law_428 hl rfl ?_
  refine lv_iconst (v := nI 1) hx hb d_L_law_430 (by decide) ?_
  refine lv_iadd hx hb d_L_law_431 ?_
  rw [nI_add]
  refine va_sld hx hb hXs hbl hbA hM.S (vp_in_nI (show 3 * j + 1 < L by omega) (by omega)) d_L_law_432 ?_
  rw [nI_clamp (by omega)]
  refine q_al_n (i := 0) hx hb d_L_law_433 rfl hl rfl ?_
  refine q_iload hx hb d_L_law_434 hl rfl ?_
  refine lv_iconst (v := nI 2) hx hb d_L_law_436 (by decide) ?_
  refine lv_iadd hx hb d_L_law_437 ?_
  rw [nI_add]
  refine va_sld hx hb hXs hbl hbA hM.S (vp_in_nI (show 3 * j + 2 < L by omega) (by omega)) d_L_law_438 ?_
  rw [nI_clamp (by omega)]
  refine l_mi (r_V 2 [.int (xs (3 * j + 1)), .int (xs (3 * j + 2))] rfl hx hb hml hown hg (m_M_links l D dA _ _ m0 j E T Rg wl rc (xs (3 * j + 1)) (xs (3 * j + 2)) hO (by omega)) (sJ_pre hM.m hK hX) (hM.m.recv hK (kJ_m hM km) (q := cls.getD 7 (R_H, F_H, 7)) rfl) kw_563 kw_564 kw_565 kw_5 kw_566 (by decide +kernel) ⟨Nat.le_of_ble_eq_true rfl, Nat.le_of_ble_eq_true rfl⟩ rfl rfl hl.sz (by first | exact Nat.le_of_ble_eq_true rfl | simp [rf_cat, Value.category]) d_L_law_439 ⟨by show _ ≤ 601024; omega, by show _ ≤ 7293033; omega⟩ rfl) hM (fun r2 u2 H locs hp2 hM => ?_)
  obtain ⟨e9, hp2⟩ := hp2
  rw [e9] at hM
  have er : r = r2 := LinksP_eq hp hp2
  refine lv_icmp_eq (tgt := 472) hx hb d_L_law_442 (by decide) (fun c1 => ?_) (fun c1 => ?_)
  · refine W.widen (k := 22 + 320 * (j + 1)) (n := 57567 + 10240 * (j + 1)) (by omega) (by omega) ?_
    exact nxt _ _ x0 E T Rg wl rc H locs ls _ _ hM (Ho_mono hH (Nat.le_succ j)) (Mo_0 (Mo_mono hO (Nat.le_succ j)) 0) hl
  · exact absurd er c1
set_option maxHeartbeats 4000000 in
set_option maxRecDepth 100000 in
theorem lc_9 {p : Program} {l : Launch} {e : Env} {s : State} {m : MethodId} {below : List Frame} {meth : Method} {c : Code} {D : va_G} {dA : Nat → ClassId} {b L : Nat} {xs : Nat → Int32} (hst : ∀ e : Env, l.admits e → e.platform.stackTraces = false) (hx : p.tables.exec = Jvm.exec) (hb : c.code = c_L_law) (hr : meth.sig.returnType = ret) (hlocks : meth.locks = false) (hml : c.maxLocals = 7) (hown : s.vm.findClass R_L = some m.cls) (hg : ∀ w ∈ gd, w.before #[Value.ref b] s = true) (hK : va_K D cls (tys dA) s) (hX : sKx s) (hT : sTh s) (hXs : va_X b L xs s s.heap) (hbl : b < s.heap.size) (hbA : ¬ sA SE s.heap.size b) (hL : L ≤ 1536) {h0 m0 ob : Nat} {j : Nat} (hj : 3 * j + 3 ≤ L) (nxt : ∀ (S1 S2 : sS) (x0 : Int64) (E : Nat → Nat → Prop) (T Rg : Nat → Prop) (wl : List Nat) (rc : Nat) (H : Heap) (locs : List Loc) (ls : Array Slot) (o5 o6 : Option Value), LW D dA (sA SE s.heap.size) s.heap S1 S2 ob x0 H locs → Ho S1 h0 (j + 1) E T Rg wl rc → Mo S2 m0 (j + 1) E T Rg wl rc → lc ls 7 [some (va_rf (some b)), some (va_rf (some h0)), some (va_rf (some m0)), some (va_rf (some ob)), some (.int (nI (3 * j))), o5, o6] → W p l e room_1 s m #[Value.ref b] below meth c H locs (22 + 320 * (j + 1)) (57567 + 10240 * (j + 1)) (lw_Z below #[Value.ref b] s) (F0 m 472 ls [])) (S1 S2 : sS) (x0 : Int64) (E : Nat → Nat → Prop) (T Rg : Nat → Prop) (wl : List Nat) (rc : Nat) (H : Heap) (locs : List Loc) (ls : Array Slot) (o5 o6 : Option Value) (hM : LW D dA (sA SE s.heap.size) s.heap S1 S2 ob x0 H locs) (hH : Ho S1 h0 j E T Rg wl rc) (hO : Mo S2 m0 j E T Rg wl rc) (hl : lc ls 7 [some (va_rf (some b)), some (va_rf (some h0)), some (va_rf (some m0)), some (va_rf (some ob)), some (.int (nI (3 * j))), o5, o6]) : W p l e room_1 s m #[Value.ref b] below meth c H locs (22 + 320 * j) (57567 + 10240 * j) (lw_Z below #[Value.ref b] s) (F0 m 447 ls []) := by
  have kh := hH.k
  have km := hO.k
  refine q_al_n (i := 1) hx hb d_L_law_447 rfl hl rfl ?_
  refine q_al_n (i := 0) hx hb d_L_law_448 rfl hl rfl ?_
  refine q_iload hx hb d_L_law_449 hl rfl ?_
  refine lv_iconst (v := nI 1) hx hb d_L_law_451 (by decide) ?_
  refine lv_iadd hx hb d_L_law_452 ?_
  rw [nI_add]
  refine va_sld hx hb hXs hbl hbA hM.S (vp_in_nI (show 3 * j + 1 < L by omega) (by omega)) d_L_law_453 ?_
  rw [nI_clamp (by omega)]
  refine l_ci (r_V 1 [.int (xs (3 * j + 1))] rfl hx hb hml hown hg (m_H_touched l D dA _ _ h0 j E T Rg wl rc (xs (3 * j + 1)) hH) (sJ_pre hM.c hK hX) (hM.c.recv hK (kJ_c hM kh) (q := cls.getD 0 (R_H, F_H, 7)) rfl) kw_267 kw_268 kw_269 kw_1 kw_270 (by decide +kernel) ⟨Nat.le_of_ble_eq_true rfl, Nat.le_of_ble_eq_true rfl⟩ rfl rfl hl.sz (by first | exact Nat.le_of_ble_eq_true rfl | simp [rf_cat, Value.category]) d_L_law_454 ⟨by show _ ≤ 601024; omega, by show _ ≤ 7293033; omega⟩ rfl) hM (fun r u H locs hp hM => ?_)
  obtain ⟨e8, hp⟩ := hp
  rw [e8] at hM
  refine q_al_n (i := 2) hx hb d_L_law_457 rfl hl rfl ?_
  refine q_al_n (i := 0) hx hb d_L_law_458 rfl hl rfl ?_
  refine q_iload hx hb d_L_law_459 hl rfl ?_
  refine lv_iconst (v := nI 1) hx hb d_L_law_461 (by decide) ?_
  refine lv_iadd hx hb d_L_law_462 ?_
  rw [nI_add]
  refine va_sld hx hb hXs hbl hbA hM.S (vp_in_nI (show 3 * j + 1 < L by omega) (by omega)) d_L_law_463 ?_
  rw [nI_clamp (by omega)]
  refine l_mi (r_V 1 [.int (xs (3 * j + 1))] rfl hx hb hml hown hg (m_M_touched l D dA _ _ m0 j E T Rg wl rc (xs (3 * j + 1)) hO (by omega)) (sJ_pre hM.m hK hX) (hM.m.recv hK (kJ_m hM km) (q := cls.getD 7 (R_H, F_H, 7)) rfl) kw_567 kw_568 kw_569 kw_5 kw_570 (by decide +kernel) ⟨Nat.le_of_ble_eq_true rfl, Nat.le_of_ble_eq_true rfl⟩ rfl rfl hl.sz (by first | exact Nat.le_of_ble_eq_true rfl | simp [rf_cat, Value.category]) d_L_law_464 ⟨by show _ ≤ 601024; omega, by show _ ≤ 7293033; omega⟩ rfl) hM (fun r2 u2 H locs hp2 hM => ?_)
  obtain ⟨e9, hp2⟩ := hp2
  rw [e9] at hM
  have er : r = r2 := fl_eq hp hp2
  refine lv_icmp_eq (tgt := 472) hx hb d_L_law_467 (by decide) (fun c1 => ?_) (fun c1 => ?_)
  · refine W.widen (k := 22 + 320 * (j + 1)) (n := 57567 + 10240 * (j + 1)) (by omega) (by omega) ?_
    exact nxt _ _ x0 E T Rg wl rc H locs ls _ _ hM (Ho_mono hH (Nat.le_succ j)) (Mo_0 (Mo_mono hO (Nat.le_succ j)) 0) hl
  · exact absurd er c1
