theorem sW_grow {D : va_G} {dA : Nat → ClassId} {A : Nat → Prop} {H0 H H1 : Heap} {S : sS} {locs : List Loc} (h : SW D dA A H0 S H locs) (hsz : H.size ≤ H1.size) (hk : ∀ (q : Nat) (cell : Cell), H[q]? = some cell → H1[q]? = some cell) : SW D dA A H0 S H1 locs := by
  obtain ⟨hA, ws, hG, hP, hD, hS⟩ := h
  have e : ∀ q, q < H.size → H1[q]? = H[q]? := fun q hq => by
    rw [Array.getElem?_eq_getElem hq]
    exact hk q _ (Array.getElem?_eq_getElem hq)
  refine ⟨hA, ws, hG, fun k q hq => (hP k q hq).kept (e q.1 (hP k q hq).lt), hD, Nat.le_trans hS.1 hsz, fun q h1 h2 => ?_, hS.2.2⟩
  rw [e q (Nat.lt_of_lt_of_le h1 hS.1)]
  exact hS.2.1 q h1 h2
theorem tab_1 {c : Code} {a b d t : Nat} {hh : List (Nat × Nat × Nat × Nat)} (h : c.exceptionTable.toList.map (fun h => (h.startPc, h.endPc, h.handlerPc, h.catchType)) = (a, b, d, t) :: hh) : ∃ (h1 : ExceptionTableEntry) (hr : List ExceptionTableEntry), c.exceptionTable.toList = h1 :: hr ∧ h1.startPc = a ∧ h1.endPc = b ∧ h1.handlerPc = d ∧ h1.catchType = t := by
  cases hc : c.exceptionTable.toList with
  | nil => rw [hc] at h; cases h
  | cons h1 hr =>
    rw [hc, List.map_cons] at h
    have e := (List.cons.inj h).1
    exact ⟨h1, hr, rfl, congrArg (fun q => q.1) e, congrArg (fun q => q.2.1) e, congrArg (fun q => q.2.2.1) e, congrArg (fun q => q.2.2.2) e⟩
/-- what the law's link answers -/
def LLinkP (S1 : sS) (ob : Nat) (x0 : Int64) (h0 mm : Nat) (E : Nat → Nat → Prop) (T Rg : Nat → Prop) (wl : List Nat) (rc : Nat) (k t r : Int32) (u : sS) : Prop :=
  (¬ (vp_in k 16384 ∧ vp_in t 16384) ∧ r = 1 ∧ u = sJ S1 (oS ob x0)) ∨ (vp_in k 16384 ∧ vp_in t 16384 ∧ r = 0 ∧ ∃ (u1 : sS) (b : Int32), LinkP h0 mm E T Rg wl rc k.toNatClampNeg t.toNatClampNeg b u1 ∧ u = sJ u1 (oS ob (if b = 0 then 0 else 1)) ∧ sDj u1 (oS ob (if b = 0 then 0 else 1)))
theorem hw_L_link : Cond.codeWith y_L_link c_L_link 5 (some .int) [(0, 17, 20, 13), (0, 17, 24, 15)] ∈ gd := gd_tbl (i := 273) (by decide +kernel) (by decide +kernel)
set_option maxHeartbeats 4000000 in
set_option maxRecDepth 100000 in
theorem m_L_link (l : Launch) (hst : ∀ e : Env, l.admits e → e.platform.stackTraces = false) (D : va_G) (dA : Nat → ClassId) (S1 : sS) (sz : Nat) (ob : Nat) (x0 : Int64) (h0 mm : Nat) (E : Nat → Nat → Prop) (T Rg : Nat → Prop) (wl : List Nat) (rc : Nat) (k t : Int32) (hH : Ho S1 h0 mm E T Rg wl rc) (hm : mm ≤ 511) (hd : sDj S1 (oS ob x0)) :
    Met l y_L_link (.codeWith y_L_link c_L_link 5 (some .int) [(0, 17, 20, 13), (0, 17, 24, 15)] :: gd) (rmk 8 8 2048) (va_Pc [.ref h0, .int k, .int t, .ref ob] (SPT D dA (sJ S1 (oS ob x0)) sz)) (va_Qi (LLinkP S1 ob x0 h0 mm E T Rg wl rc k t) (SB D dA (sJ S1 (oS ob x0)) sz) (sA (sJ S1 (oS ob x0)) sz)) 8 2048 (sA (sJ S1 (oS ob x0)) sz) := by
  refine s_metW (cc := c_L_link) (maxL := 5) (hh := [(0, 17, 20, 13), (0, 17, 24, 15)]) (by decide) rfl (by simp [Value.category]) (by simp [lg_sl, Value.category]) ?_
  intro p e s m args below meth c ls hx hb hr hts hown hlocks hml htab hK hX hT hsz hM hl
  have hg : ∀ w ∈ gd, w.before args s = true := fun w hw => hts w (List.mem_cons_of_mem _ hw)
  have hl : lc ls 5 [some (va_rf (some h0)), some (.int k), some (.int t), some (va_rf (some ob)), none] := hl
  obtain ⟨h1, hr1, htab1, t1, t2, t3, t4⟩ := tab_1 htab
  have kh : S1.1 h0 = some (.inl 0) := by
    obtain ⟨tb, pa, q, na, nd, rd, sr, nr, nc, nn, nf, hZ, -⟩ := hH
    exact hZ.1.1
  have khj : (sJ S1 (oS ob x0)).1 h0 = some (.inl 0) := by rw [sJ_1 (by rw [kh]; exact fun z => by cases z)]; exact kh
  refine q_al_n (i := 3) hx hb d_L_link_0 rfl hl rfl ?_
  refine lv_iconst (v := nI 0) hx hb d_L_link_1 (by decide) ?_
  refine q_al_n (i := 0) hx hb d_L_link_2 rfl hl rfl ?_
  refine q_iload_n (i := 1) hx hb d_L_link_3 rfl hl rfl ?_
  refine q_iload_n (i := 2) hx hb d_L_link_4 rfl hl rfl ?_
  by_cases hkt : vp_in k 16384 ∧ vp_in t 16384
  · obtain ⟨hv, hv2⟩ := hkt
    obtain ⟨v, hv9, ev⟩ := vp_in_of hv (by omega)
    have ek : k.toNatClampNeg = v := by rw [ev]; exact nI_clamp (by omega)
    obtain ⟨y, hy9, ey⟩ := vp_in_of hv2 (by omega)
    have et : t.toNatClampNeg = y := by rw [ey]; exact nI_clamp (by omega)
    subst ev; subst ey
    refine s_calliJ (r_V 2 [.int (nI v), .int (nI y)] rfl hx hb hml hown hg (m_H_link l D dA _ _ h0 mm E T Rg wl rc v y hH hm hv9 hy9) (sJ_pre hM hK hX) (hM.recv hK khj (q := cls.getD 0 (R_H, F_H, 7)) rfl) kw_276 kw_277 kw_278 kw_1 kw_279 (by decide +kernel) ⟨Nat.le_of_ble_eq_true rfl, Nat.le_of_ble_eq_true rfl⟩ rfl rfl hl.sz (by first | exact Nat.le_of_ble_eq_true rfl | simp [rf_cat, Value.category]) d_L_link_5 ⟨Nat.le_of_ble_eq_true rfl, Nat.le_of_ble_eq_true rfl⟩ rfl) hM hd (fun r u H locs hp hM hd => ?_)
    have fin : ∀ (x1 : Int64), x1 = (if r = 0 then 0 else 1) → W p l e (rmk 8 8 2048) s m args below meth c H locs (0 + 8) (0 + 2048) (MQ below (va_Qi (LLinkP S1 ob x0 h0 mm E T Rg wl rc (nI v) (nI y)) (SB D dA (sJ S1 (oS ob x0)) sz) (sA (sJ S1 (oS ob x0)) sz)) args s 8 2048 (sA (sJ S1 (oS ob x0)) sz)) (F0 m 16 ls [.long x1, .int (nI 0), .ref ob]) := by
      intro x1 hx1
      have kob : (sJ u (oS ob x0)).1 ob = some (.inr (3, 1)) := by
        have := oS_dj.mp hd
        show (match u.1 ob with | some k => some k | none => (oS ob x0).1 ob) = _
        rw [this]; exact oS_k ob x0
      refine s_lst (t := 3) (kd := (sJ u (oS ob x0)).1) (rf := (sJ u (oS ob x0)).2.1) (it := (sJ u (oS ob x0)).2.2.1) (lg := (sJ u (oS ob x0)).2.2.2) hx hb hK hM kob rfl rfl (vp_in_nI (by decide) (by decide)) d_L_link_16 (fun H locs hM => ?_)
      rw [nI_clamp (by decide)] at hM
      have hM := sW_ext hM (oS_put hd)
      refine lv_goto (tgt := 28) hx hb d_L_link_17 (by decide) ?_
      refine lv_iconst (v := 0) hx hb d_L_link_28 (by decide) ?_
      have hd1 : sDj u (oS ob x1) := oS_dj.mpr (oS_dj.mp hd)
      rw [hx1] at hM hd1
      exact s_iret hx hb hr hM (Or.inr ⟨hv, hv2, rfl, u, r, by rw [ek, et]; exact hp, rfl, hd1⟩) d_L_link_29 hlocks
    refine lv_if_eq (tgt := 15) hx hb d_L_link_8 (by decide) (fun c1 => ?_) (fun c1 => ?_)
    · refine lv_lconst (v := 0) hx hb d_L_link_15 (by decide) ?_
      exact fin 0 (by rw [if_pos c1])
    · refine lv_lconst (v := 1) hx hb d_L_link_11 (by decide) ?_
      refine lv_goto (tgt := 16) hx hb d_L_link_12 (by decide) ?_
      exact fin 1 (by rw [if_neg c1])
  · have hcov : covers h1 5 = true := by simp [covers, t1, t2]
    refine x_V 2 [.int k, .int t] rfl hx hb hml hown hg (x_H_link l hst D dA h0 k t hkt) hK hX hT (fun _ _ h _ => h) (hM.recv hK khj (q := cls.getD 0 (R_H, F_H, 7)) rfl) kw_276 kw_277 kw_278 kw_1 kw_279 (by decide +kernel) ⟨Nat.le_of_ble_eq_true rfl, Nat.le_of_ble_eq_true rfl⟩ ⟨rfl, rfl⟩ hl.sz (by first | exact Nat.le_of_ble_eq_true rfl | simp [rf_cat, Value.category]) d_L_link_5 ⟨Nat.le_of_ble_eq_true rfl, Nat.le_of_ble_eq_true rfl⟩ rfl htab1 hcov (by rw [t4]; decide) (by rw [t4]; exact kw_274) (fun x9 H1 hsz9 hkeep => ?_)
    rw [t3]
    have hM1 := sW_grow hM hsz9 hkeep
    refine q_astore hx hb (some x9) d_L_link_20 hl (by decide) (fun ls hl => ?_)
    refine lv_iconst (v := 1) hx hb d_L_link_22 (by decide) ?_
    refine W.widen (k := 8) (n := 2048) (by omega) (by omega) ?_
    exact s_iret hx hb hr hM1 (Or.inl ⟨hkt, rfl, rfl⟩) d_L_link_23 hlocks
/-- what the law's unlink answers -/
def LUnlinkP (S1 : sS) (ob : Nat) (x0 : Int64) (h0 mm : Nat) (E : Nat → Nat → Prop) (T Rg : Nat → Prop) (wl : List Nat) (rc : Nat) (k t r : Int32) (u : sS) : Prop :=
  (¬ (vp_in k 16384 ∧ vp_in t 16384) ∧ r = 1 ∧ u = sJ S1 (oS ob x0)) ∨ (vp_in k 16384 ∧ vp_in t 16384 ∧ r = 0 ∧ ∃ (u1 : sS) (b : Int32), UnlinkP h0 mm E T Rg wl rc k.toNatClampNeg t.toNatClampNeg b u1 ∧ u = sJ u1 (oS ob (if b = 0 then 0 else 1)) ∧ sDj u1 (oS ob (if b = 0 then 0 else 1)))
theorem hw_L_unlink : Cond.codeWith y_L_unlink c_L_unlink 5 (some .int) [(0, 17, 20, 13)] ∈ gd := gd_tbl (i := 418) (by decide +kernel) (by decide +kernel)
set_option maxHeartbeats 4000000 in
set_option maxRecDepth 100000 in
theorem m_L_unlink (l : Launch) (hst : ∀ e : Env, l.admits e → e.platform.stackTraces = false) (D : va_G) (dA : Nat → ClassId) (S1 : sS) (sz : Nat) (ob : Nat) (x0 : Int64) (h0 mm : Nat) (E : Nat → Nat → Prop) (T Rg : Nat → Prop) (wl : List Nat) (rc : Nat) (k t : Int32) (hH : Ho S1 h0 mm E T Rg wl rc) (hm : mm ≤ 511) (hd : sDj S1 (oS ob x0)) :
    Met l y_L_unlink (.codeWith y_L_unlink c_L_unlink 5 (some .int) [(0, 17, 20, 13)] :: gd) (rmk 8 8 2048) (va_Pc [.ref h0, .int k, .int t, .ref ob] (SPT D dA (sJ S1 (oS ob x0)) sz)) (va_Qi (LUnlinkP S1 ob x0 h0 mm E T Rg wl rc k t) (SB D dA (sJ S1 (oS ob x0)) sz) (sA (sJ S1 (oS ob x0)) sz)) 8 2048 (sA (sJ S1 (oS ob x0)) sz) := by
  refine s_metW (cc := c_L_unlink) (maxL := 5) (hh := [(0, 17, 20, 13)]) (by decide) rfl (by simp [Value.category]) (by simp [lg_sl, Value.category]) ?_
  intro p e s m args below meth c ls hx hb hr hts hown hlocks hml htab hK hX hT hsz hM hl
  have hg : ∀ w ∈ gd, w.before args s = true := fun w hw => hts w (List.mem_cons_of_mem _ hw)
  have hl : lc ls 5 [some (va_rf (some h0)), some (.int k), some (.int t), some (va_rf (some ob)), none] := hl
  obtain ⟨h1, hr1, htab1, t1, t2, t3, t4⟩ := tab_1 htab
  have kh : S1.1 h0 = some (.inl 0) := by
    obtain ⟨tb, pa, q, na, nd, rd, sr, nr, nc, nn, nf, hZ, -⟩ := hH
    exact hZ.1.1
  have khj : (sJ S1 (oS ob x0)).1 h0 = some (.inl 0) := by rw [sJ_1 (by rw [kh]; exact fun z => by cases z)]; exact kh
  refine q_al_n (i := 3) hx hb d_L_unlink_0 rfl hl rfl ?_
  refine lv_iconst (v := nI 0) hx hb d_L_unlink_1 (by decide) ?_
  refine q_al_n (i := 0) hx hb d_L_unlink_2 rfl hl rfl ?_
  refine q_iload_n (i := 1) hx hb d_L_unlink_3 rfl hl rfl ?_
  refine q_iload_n (i := 2) hx hb d_L_unlink_4 rfl hl rfl ?_
  by_cases hkt : vp_in k 16384 ∧ vp_in t 16384
  · obtain ⟨hv, hv2⟩ := hkt
    obtain ⟨v, hv9, ev⟩ := vp_in_of hv (by omega)
    have ek : k.toNatClampNeg = v := by rw [ev]; exact nI_clamp (by omega)
    obtain ⟨y, hy9, ey⟩ := vp_in_of hv2 (by omega)
    have et : t.toNatClampNeg = y := by rw [ey]; exact nI_clamp (by omega)
    subst ev; subst ey
    refine s_calliJ (r_V 2 [.int (nI v), .int (nI y)] rfl hx hb hml hown hg (m_H_unlink l D dA _ _ h0 mm E T Rg wl rc v y hH hm hv9 hy9) (sJ_pre hM hK hX) (hM.recv hK khj (q := cls.getD 0 (R_H, F_H, 7)) rfl) kw_419 kw_420 kw_421 kw_1 kw_422 (by decide +kernel) ⟨Nat.le_of_ble_eq_true rfl, Nat.le_of_ble_eq_true rfl⟩ rfl rfl hl.sz (by first | exact Nat.le_of_ble_eq_true rfl | simp [rf_cat, Value.category]) d_L_unlink_5 ⟨Nat.le_of_ble_eq_true rfl, Nat.le_of_ble_eq_true rfl⟩ rfl) hM hd (fun r u H locs hp hM hd => ?_)
    have fin : ∀ (x1 : Int64), x1 = (if r = 0 then 0 else 1) → W p l e (rmk 8 8 2048) s m args below meth c H locs (0 + 8) (0 + 2048) (MQ below (va_Qi (LUnlinkP S1 ob x0 h0 mm E T Rg wl rc (nI v) (nI y)) (SB D dA (sJ S1 (oS ob x0)) sz) (sA (sJ S1 (oS ob x0)) sz)) args s 8 2048 (sA (sJ S1 (oS ob x0)) sz)) (F0 m 16 ls [.long x1, .int (nI 0), .ref ob]) := by
      intro x1 hx1
      have kob : (sJ u (oS ob x0)).1 ob = some (.inr (3, 1)) := by
        have := oS_dj.mp hd
        show (match u.1 ob with | some k => some k | none => (oS ob x0).1 ob) = _
        rw [this]; exact oS_k ob x0
      refine s_lst (t := 3) (kd := (sJ u (oS ob x0)).1) (rf := (sJ u (oS ob x0)).2.1) (it := (sJ u (oS ob x0)).2.2.1) (lg := (sJ u (oS ob x0)).2.2.2) hx hb hK hM kob rfl rfl (vp_in_nI (by decide) (by decide)) d_L_unlink_16 (fun H locs hM => ?_)
      rw [nI_clamp (by decide)] at hM
      have hM := sW_ext hM (oS_put hd)
      refine lv_goto (tgt := 24) hx hb d_L_unlink_17 (by decide) ?_
      refine lv_iconst (v := 0) hx hb d_L_unlink_24 (by decide) ?_
      have hd1 : sDj u (oS ob x1) := oS_dj.mpr (oS_dj.mp hd)
      rw [hx1] at hM hd1
      exact s_iret hx hb hr hM (Or.inr ⟨hv, hv2, rfl, u, r, by rw [ek, et]; exact hp, rfl, hd1⟩) d_L_unlink_25 hlocks
    refine lv_if_eq (tgt := 15) hx hb d_L_unlink_8 (by decide) (fun c1 => ?_) (fun c1 => ?_)
    · refine lv_lconst (v := 0) hx hb d_L_unlink_15 (by decide) ?_
      exact fin 0 (by rw [if_pos c1])
    · refine lv_lconst (v := 1) hx hb d_L_unlink_11 (by decide) ?_
      refine lv_goto (tgt := 16) hx hb d_L_unlink_12 (by decide) ?_
      exact fin 1 (by rw [if_neg c1])
  · have hcov : covers h1 5 = true := by simp [covers, t1, t2]
    refine x_V 2 [.int k, .int t] rfl hx hb hml hown hg (x_H_unlink l hst D dA h0 k t hkt) hK hX hT (fun _ _ h _ => h) (hM.recv hK khj (q := cls.getD 0 (R_H, F_H, 7)) rfl) kw_419 kw_420 kw_421 kw_1 kw_422 (by decide +kernel) ⟨Nat.le_of_ble_eq_true rfl, Nat.le_of_ble_eq_true rfl⟩ ⟨rfl, rfl⟩ hl.sz (by first | exact Nat.le_of_ble_eq_true rfl | simp [rf_cat, Value.category]) d_L_unlink_5 ⟨Nat.le_of_ble_eq_true rfl, Nat.le_of_ble_eq_true rfl⟩ rfl htab1 hcov (by rw [t4]; decide) (by rw [t4]; exact kw_274) (fun x9 H1 hsz9 hkeep => ?_)
    rw [t3]
    have hM1 := sW_grow hM hsz9 hkeep
    refine q_astore hx hb (some x9) d_L_unlink_20 hl (by decide) (fun ls hl => ?_)
    refine lv_iconst (v := 1) hx hb d_L_unlink_22 (by decide) ?_
    refine W.widen (k := 8) (n := 2048) (by omega) (by omega) ?_
    exact s_iret hx hb hr hM1 (Or.inl ⟨hkt, rfl, rfl⟩) d_L_unlink_23 hlocks
/-- what the law's clear answers -/
def LClearP (S1 : sS) (ob : Nat) (x0 : Int64) (h0 mm : Nat) (E : Nat → Nat → Prop) (T Rg : Nat → Prop) (wl : List Nat) (rc : Nat) (k r : Int32) (u : sS) : Prop :=
  (¬ vp_in k 16384 ∧ r = 1 ∧ u = sJ S1 (oS ob x0)) ∨ (vp_in k 16384 ∧ r = 0 ∧ ∃ (u1 : sS) (b : Int32), ClearP h0 mm E T Rg wl rc k.toNatClampNeg b u1 ∧ u = sJ u1 (oS ob b.toInt64) ∧ sDj u1 (oS ob b.toInt64))
theorem hw_L_clear : Cond.codeWith y_L_clear c_L_clear 4 (some .int) [(0, 9, 12, 13)] ∈ gd := gd_tbl (i := 437) (by decide +kernel) (by decide +kernel)
set_option maxHeartbeats 4000000 in
set_option maxRecDepth 100000 in
theorem m_L_clear (l : Launch) (hst : ∀ e : Env, l.admits e → e.platform.stackTraces = false) (D : va_G) (dA : Nat → ClassId) (S1 : sS) (sz : Nat) (ob : Nat) (x0 : Int64) (h0 mm : Nat) (E : Nat → Nat → Prop) (T Rg : Nat → Prop) (wl : List Nat) (rc : Nat) (k : Int32) (hH : Ho S1 h0 mm E T Rg wl rc) (hm : mm ≤ 511) (hd : sDj S1 (oS ob x0)) :
    Met l y_L_clear (.codeWith y_L_clear c_L_clear 4 (some .int) [(0, 9, 12, 13)] :: gd) (rmk 8 8 2048) (va_Pc [.ref h0, .int k, .ref ob] (SPT D dA (sJ S1 (oS ob x0)) sz)) (va_Qi (LClearP S1 ob x0 h0 mm E T Rg wl rc k) (SB D dA (sJ S1 (oS ob x0)) sz) (sA (sJ S1 (oS ob x0)) sz)) 8 2048 (sA (sJ S1 (oS ob x0)) sz) := by
  refine s_metW (cc := c_L_clear) (maxL := 4) (hh := [(0, 9, 12, 13)]) (by decide) rfl (by simp [Value.category]) (by simp [lg_sl, Value.category]) ?_
  intro p e s m args below meth c ls hx hb hr hts hown hlocks hml htab hK hX hT hsz hM hl
  have hg : ∀ w ∈ gd, w.before args s = true := fun w hw => hts w (List.mem_cons_of_mem _ hw)
  have hl : lc ls 4 [some (va_rf (some h0)), some (.int k), some (va_rf (some ob)), none] := hl
  obtain ⟨h1, hr1, htab1, t1, t2, t3, t4⟩ := tab_1 htab
  have kh : S1.1 h0 = some (.inl 0) := by
    obtain ⟨tb, pa, q, na, nd, rd, sr, nr, nc, nn, nf, hZ, -⟩ := hH
    exact hZ.1.1
  have khj : (sJ S1 (oS ob x0)).1 h0 = some (.inl 0) := by rw [sJ_1 (by rw [kh]; exact fun z => by cases z)]; exact kh
  refine q_al_n (i := 2) hx hb d_L_clear_0 rfl hl rfl ?_
  refine lv_iconst (v := nI 0) hx hb d_L_clear_1 (by decide) ?_
  refine q_al_n (i := 0) hx hb d_L_clear_2 rfl hl rfl ?_
  refine q_iload_n (i := 1) hx hb d_L_clear_3 rfl hl rfl ?_
  by_cases hv : vp_in k 16384
  · obtain ⟨v, hv9, ev⟩ := vp_in_of hv (by omega)
    have ek : k.toNatClampNeg = v := by rw [ev]; exact nI_clamp (by omega)
    subst ev
    refine s_calliJ (r_V 1 [.int (nI v)] rfl hx hb hml hown hg (m_H_clear l D dA _ _ h0 mm E T Rg wl rc v hH hm hv9) (sJ_pre hM hK hX) (hM.recv hK khj (q := cls.getD 0 (R_H, F_H, 7)) rfl) kw_438 kw_439 kw_440 kw_1 kw_441 (by decide +kernel) ⟨Nat.le_of_ble_eq_true rfl, Nat.le_of_ble_eq_true rfl⟩ rfl rfl hl.sz (by first | exact Nat.le_of_ble_eq_true rfl | simp [rf_cat, Value.category]) d_L_clear_4 ⟨Nat.le_of_ble_eq_true rfl, Nat.le_of_ble_eq_true rfl⟩ rfl) hM hd (fun r u H locs hp hM hd => ?_)
    refine lv_i2l (v := r.toInt64) hx hb d_L_clear_7 rfl ?_
    have kob : (sJ u (oS ob x0)).1 ob = some (.inr (3, 1)) := by
      have := oS_dj.mp hd
      show (match u.1 ob with | some k => some k | none => (oS ob x0).1 ob) = _
      rw [this]; exact oS_k ob x0
    refine s_lst (t := 3) (kd := (sJ u (oS ob x0)).1) (rf := (sJ u (oS ob x0)).2.1) (it := (sJ u (oS ob x0)).2.2.1) (lg := (sJ u (oS ob x0)).2.2.2) hx hb hK hM kob rfl rfl (vp_in_nI (by decide) (by decide)) d_L_clear_8 (fun H locs hM => ?_)
    rw [nI_clamp (by decide)] at hM
    have hM := sW_ext hM (oS_put hd)
    refine lv_goto (tgt := 15) hx hb d_L_clear_9 (by decide) ?_
    refine lv_iconst (v := 0) hx hb d_L_clear_15 (by decide) ?_
    have hd1 : sDj u (oS ob r.toInt64) := oS_dj.mpr (oS_dj.mp hd)
    exact s_iret hx hb hr hM (Or.inr ⟨hv, rfl, u, r, by rw [ek]; exact hp, rfl, hd1⟩) d_L_clear_16 hlocks
  · have hcov : covers h1 4 = true := by simp [covers, t1, t2]
    refine x_V 1 [.int k] rfl hx hb hml hown hg (x_H_clear l hst D dA h0 k hv) hK hX hT (fun _ _ h _ => h) (hM.recv hK khj (q := cls.getD 0 (R_H, F_H, 7)) rfl) kw_438 kw_439 kw_440 kw_1 kw_441 (by decide +kernel) ⟨Nat.le_of_ble_eq_true rfl, Nat.le_of_ble_eq_true rfl⟩ ⟨rfl, rfl⟩ hl.sz (by first | exact Nat.le_of_ble_eq_true rfl | simp [rf_cat, Value.category]) d_L_clear_4 ⟨Nat.le_of_ble_eq_true rfl, Nat.le_of_ble_eq_true rfl⟩ rfl htab1 hcov (by rw [t4]; decide) (by rw [t4]; exact kw_274) (fun x9 H1 hsz9 hkeep => ?_)
    rw [t3]
    have hM1 := sW_grow hM hsz9 hkeep
    refine q_astore_n (i := 3) hx hb (some x9) d_L_clear_12 rfl hl (by decide) (fun ls hl => ?_)
    refine lv_iconst (v := 1) hx hb d_L_clear_13 (by decide) ?_
    refine W.widen (k := 8) (n := 2048) (by omega) (by omega) ?_
    exact s_iret hx hb hr hM1 (Or.inl ⟨hv, rfl, rfl⟩) d_L_clear_14 hlocks
/-- what the law's touch answers -/
def LTouchP (S1 : sS) (h0 mm : Nat) (E : Nat → Nat → Prop) (T Rg : Nat → Prop) (wl : List Nat) (rc : Nat) (k r : Int32) (u : sS) : Prop :=
  (¬ vp_in k 16384 ∧ r = 1 ∧ u = S1) ∨ (vp_in k 16384 ∧ r = 0 ∧ Ho u h0 (mm + 1) E (fun x => T x ∨ x = k.toNatClampNeg) Rg wl rc)
theorem hw_L_touch : Cond.codeWith y_L_touch c_L_touch 3 (some .int) [(0, 5, 8, 13)] ∈ gd := gd_tbl (i := 444) (by decide +kernel) (by decide +kernel)
set_option maxHeartbeats 4000000 in
set_option maxRecDepth 100000 in
theorem m_L_touch (l : Launch) (hst : ∀ e : Env, l.admits e → e.platform.stackTraces = false) (D : va_G) (dA : Nat → ClassId) (S1 : sS) (sz : Nat) (h0 mm : Nat) (E : Nat → Nat → Prop) (T Rg : Nat → Prop) (wl : List Nat) (rc : Nat) (k : Int32) (hH : Ho S1 h0 mm E T Rg wl rc) (hm : mm ≤ 511) :
    Met l y_L_touch (.codeWith y_L_touch c_L_touch 3 (some .int) [(0, 5, 8, 13)] :: gd) (rmk 8 8 2048) (va_Pc [.ref h0, .int k] (SPT D dA S1 sz)) (va_Qi (LTouchP S1 h0 mm E T Rg wl rc k) (SB D dA S1 sz) (sA S1 sz)) 8 2048 (sA S1 sz) := by
  refine s_metW (cc := c_L_touch) (maxL := 3) (hh := [(0, 5, 8, 13)]) (by decide) rfl (by simp [Value.category]) (by simp [lg_sl, Value.category]) ?_
  intro p e s m args below meth c ls hx hb hr hts hown hlocks hml htab hK hX hT hsz hM hl
  have hg : ∀ w ∈ gd, w.before args s = true := fun w hw => hts w (List.mem_cons_of_mem _ hw)
  have hl : lc ls 3 [some (va_rf (some h0)), some (.int k), none] := hl
  obtain ⟨h1, hr1, htab1, t1, t2, t3, t4⟩ := tab_1 htab
  have kh : S1.1 h0 = some (.inl 0) := by
    obtain ⟨tb, pa, q, na, nd, rd, sr, nr, nc, nn, nf, hZ, -⟩ := hH
    exact hZ.1.1
  refine q_al_n (i := 0) hx hb d_L_touch_0 rfl hl rfl ?_
  refine q_iload_n (i := 1) hx hb d_L_touch_1 rfl hl rfl ?_
  by_cases hv : vp_in k 16384
  · obtain ⟨v, hv9, ev⟩ := vp_in_of hv (by omega)
    have ek : k.toNatClampNeg = v := by rw [ev]; exact nI_clamp (by omega)
    subst ev
    refine s_callv (r_V 1 [.int (nI v)] rfl hx hb hml hown hg (m_H_touch l D dA _ _ h0 mm E T Rg wl rc v hH hm hv9) (hM.pre hK hX) (hM.recv hK kh (q := cls.getD 0 (R_H, F_H, 7)) rfl) kw_445 kw_446 kw_447 kw_1 kw_448 (by decide +kernel) ⟨Nat.le_of_ble_eq_true rfl, Nat.le_of_ble_eq_true rfl⟩ rfl rfl hl.sz (by first | exact Nat.le_of_ble_eq_true rfl | simp [rf_cat, Value.category]) d_L_touch_2 ⟨Nat.le_of_ble_eq_true rfl, Nat.le_of_ble_eq_true rfl⟩ rfl) hM (fun u H locs hp hM => ?_)
    refine lv_goto (tgt := 11) hx hb d_L_touch_5 (by decide) ?_
    refine lv_iconst (v := 0) hx hb d_L_touch_11 (by decide) ?_
    exact s_iret hx hb hr hM (Or.inr ⟨hv, rfl, by rw [ek]; exact hp⟩) d_L_touch_12 hlocks
  · have hcov : covers h1 2 = true := by simp [covers, t1, t2]
    refine x_V 1 [.int k] rfl hx hb hml hown hg (x_H_touch l hst D dA h0 k hv) hK hX hT (fun _ _ h _ => h) (hM.recv hK kh (q := cls.getD 0 (R_H, F_H, 7)) rfl) kw_445 kw_446 kw_447 kw_1 kw_448 (by decide +kernel) ⟨Nat.le_of_ble_eq_true rfl, Nat.le_of_ble_eq_true rfl⟩ ⟨rfl, rfl⟩ hl.sz (by first | exact Nat.le_of_ble_eq_true rfl | simp [rf_cat, Value.category]) d_L_touch_2 ⟨Nat.le_of_ble_eq_true rfl, Nat.le_of_ble_eq_true rfl⟩ rfl htab1 hcov (by rw [t4]; decide) (by rw [t4]; exact kw_274) (fun x9 H1 hsz9 hkeep => ?_)
    rw [t3]
    have hM1 := sW_grow hM hsz9 hkeep
    refine q_astore_n (i := 2) hx hb (some x9) d_L_touch_8 rfl hl (by decide) (fun ls hl => ?_)
    refine lv_iconst (v := 1) hx hb d_L_touch_9 (by decide) ?_
    refine W.widen (k := 8) (n := 2048) (by omega) (by omega) ?_
    exact s_iret hx hb hr hM1 (Or.inl ⟨hv, rfl, rfl⟩) d_L_touch_10 hlocks
