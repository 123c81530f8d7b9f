/-! the law's start -/
theorem sNew_J {sg : Nat → List Bool} {tk : Nat → Nat} {dA : Nat → ClassId} (S : sS) (q : Nat) (k : sK) (a : Nat) : sMk sg tk dA (sNew S q k) a = sMk sg tk dA (sJ (sNew SE q k) S) a := by
  rw [sMk_J]
  by_cases e : a = q
  · subst e
    cases k <;> simp [sMk, sNew, va_up, upr]
  · simp [sMk, sNew, va_up, upr, e, SE]
theorem sNew_o {sg : Nat → List Bool} {tk : Nat → Nat} {dA : Nat → ClassId} {S : sS} {ob : Nat} (h : S.1 ob = none) (a : Nat) : sMk sg tk dA (sNew S ob (.inr (3, 1))) a = sMk sg tk dA (sJ S (oS ob 0)) a := by
  rw [sMk_J]
  by_cases e : a = ob
  · subst e
    rw [h]
    simp [sMk, sNew, va_up, upr, oS]
  · cases h1 : S.1 a with
    | none => simp [sMk, sNew, va_up, upr, e, oS, h1]
    | some k => simp [sMk, sNew, va_up, upr, e, h1]
set_option maxHeartbeats 4000000 in
set_option maxRecDepth 100000 in
theorem whole_start {p : Program} {e : Env} {s : State} {m : MethodId} {below : List Frame} {meth : Method} {c : Code} (l : Launch) (hst : ∀ e : Env, l.admits e → e.platform.stackTraces = false) {b L : Nat} {xs : Nat → Int32} (hL : L ≤ 1536) (C0 : lw_At p s m meth c b L xs) : W p l e room_1 s m #[Value.ref b] below meth c s.heap [] 0 0 (lw_Z below #[Value.ref b] s) (entryFrame m ([Value.ref b] : List Value).toArray 7) := by
  obtain ⟨hx, hb, hr, hml, hown, hts, hXs, hbl, hlocks, hpre⟩ := C0
  have hb : c.code = c_L_law := hb
  have hown : s.vm.findClass R_L = some m.cls := hown
  have hg : ∀ w ∈ gd, w.before #[Value.ref b] s = true := fun w hw => hts w (List.mem_filter.mp hw).1
  have hX := lw_X hts
  have hT := lw_T hts hpre
  obtain ⟨D, dA, hK⟩ := lw_K hts
  have hbA : ¬ sA SE s.heap.size b := fun z => z.elim (fun y => absurd rfl y) (fun y => absurd hbl (Nat.not_lt.mpr y))
  have hl := lv_entry [Value.ref b] (n := 7) (by simp [lg_sl, Value.category])
  rw [lg_entry_eq]
  generalize (lg_sl [Value.ref b] ++ List.replicate (7 - (lg_sl [Value.ref b]).length) Slot.unset).toArray = ls at hl ⊢
  have hl := lc_entry hl (by simp [Value.category]) 6
  have hl : lc ls 7 [some (va_rf (some b)), none, none, none, none, none, none] := hl
  have hM := SE_start (D := D) (dA := dA) (s := s)
  refine s_new (C := R_H) (T := F_H) (N := 7) (ci := 0) hx hb hg in_H ft_H ft_H_ok hown (hg _ kw_17) (hg _ kw_18) (hg _ kw_1) hK hM rfl df_H (by show _ ≤ 601024; omega) (by show _ ≤ 7293033; omega) d_L_law_0 (fun h0 H hh0 hM => ?_)
  have kh : (sNew SE h0 (.inl 0)).1 h0 = some (.inl 0) := va_up_self _ _ _
  have h5 : (sNew SE h0 (.inl 0)).2.2.1 h0 5 = 0 := by show upr _ h0 _ h0 5 = 0; rw [upr_self]
  have h6 : (sNew SE h0 (.inl 0)).2.2.1 h0 6 = 0 := by show upr _ h0 _ h0 6 = 0; rw [upr_self]
  refine lv_dup hx hb d_L_law_3 rfl ?_
  refine s_callv (r_I 0 [] rfl hx hb hml hown hg (m_H_init l D dA _ _ h0 kh h5 h6) (hM.pre hK hX) rfl kw_19 kw_20 kw_1 kw_21 (by decide +kernel) ⟨Nat.le_of_ble_eq_true rfl, Nat.le_of_ble_eq_true rfl⟩ rfl rfl hl.sz (by first | exact Nat.le_of_ble_eq_true rfl | simp [rf_cat] | simp [rf_cat, Value.category]) d_L_law_4 ⟨by show _ ≤ 601024; omega, by show _ ≤ 7293033; omega⟩ rfl) hM (fun u1 H locs hp1 hM => ?_)
  refine q_astore_n (i := 1) hx hb (some h0) d_L_law_7 rfl hl (by decide) (fun ls hl => ?_)
  simp only [List.set_cons_succ, List.set_cons_zero] at hl
  refine s_new (C := R_M) (T := F_M) (N := 13) (ci := 7) hx hb hg in_M ft_M ft_M_ok hown (hg _ kw_449) (hg _ kw_450) (hg _ kw_5) hK hM rfl df_M (by show _ ≤ 601024; omega) (by show _ ≤ 7293033; omega) d_L_law_8 (fun m0 H hm0 hM => ?_)
  refine lv_dup hx hb d_L_law_11 rfl ?_
  have hM := sW_ext hM (sNew_J u1 m0 (.inl 7))
  have hd : sDj (sNew SE m0 (.inl 7)) u1 := fun a ha => by
    by_cases e : a = m0
    · rw [e]; exact hm0
    · exact absurd (va_up_ne _ _ e) ha
  have km : (sNew SE m0 (.inl 7)).1 m0 = some (.inl 7) := va_up_self _ _ _
  have hz : ∀ i, isC i → (sNew SE m0 (.inl 7)).2.2.1 m0 i = 0 := fun i _ => by show upr _ m0 _ m0 i = 0; rw [upr_self]
  refine s_callvJ (r_I 0 [] rfl hx hb hml hown hg (m_M_init l D dA _ _ m0 km hz) (sJ_pre hM hK hX) rfl kw_451 kw_452 kw_5 kw_453 (by decide +kernel) ⟨Nat.le_of_ble_eq_true rfl, Nat.le_of_ble_eq_true rfl⟩ rfl rfl hl.sz (by first | exact Nat.le_of_ble_eq_true rfl | simp [rf_cat] | simp [rf_cat, Value.category]) d_L_law_12 ⟨by show _ ≤ 601024; omega, by show _ ≤ 7293033; omega⟩ rfl) hM hd (fun u2 H locs hp2 hM hd2 => ?_)
  refine q_astore_n (i := 2) hx hb (some m0) d_L_law_15 rfl hl (by decide) (fun ls hl => ?_)
  simp only [List.set_cons_succ, List.set_cons_zero] at hl
  refine lv_iconst (v := nI 1) hx hb d_L_law_16 (by decide) ?_
  refine s_newl (t := 3) (N' := 1) (atype := .long) hx hb (hg _ kw_571) rfl hK rfl rfl hM (by decide) (by decide) (by decide) (by show _ ≤ 601024; omega) (by show _ ≤ 7293033; omega) d_L_law_17 (fun ob H hob hM => ?_)
  have hM := sW_ext (sW_ext hM (sNew_o hob)) (sJ_assoc u2 u1 (oS ob 0))
  have hM : LW D dA (sA SE s.heap.size) s.heap u1 u2 ob 0 H locs := LW.ofm hM (dj_r.mpr ⟨hd2, oS_dj.mpr (sJ_n.mp hob).1⟩) (oS_dj.mpr (sJ_n.mp hob).2)
  refine q_astore_n (i := 3) hx hb (some ob) d_L_law_19 rfl hl (by decide) (fun ls hl => ?_)
  simp only [List.set_cons_succ, List.set_cons_zero] at hl
  refine lv_iconst (v := nI (3 * 0)) hx hb d_L_law_20 (by decide) ?_
  refine q_istore hx hb d_L_law_21 hl (by decide) (fun ls hl => ?_)
  simp only [List.set_cons_succ, List.set_cons_zero] at hl
  refine W.widen (k := 22 + 320 * 0) (n := 57567 + 10240 * 0) (by omega) (by omega) ?_
  exact lw_loop hst hx hb hr hlocks hml hown hg hK hX hT hXs hbl hbA hL L 0 (by omega) (by omega) u1 u2 0 _ _ _ _ _ H locs ls none none hM hp1 hp2 hl
