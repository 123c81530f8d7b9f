set_option maxHeartbeats 4000000 in
set_option maxRecDepth 100000 in
theorem lw_body {p : Program} {l : Launch} {e : Env} {s : State} {m : MethodId} {below : List Frame} {meth : Method} {c : Code} {D : va_G} {dA : Nat → ClassId} {b L : Nat} {xs : Nat → Int32} (hst : ∀ e : Env, l.admits e → e.platform.stackTraces = false) (hx : p.tables.exec = Jvm.exec) (hb : c.code = c_L_law) (hr : meth.sig.returnType = ret) (hlocks : meth.locks = false) (hml : c.maxLocals = 7) (hown : s.vm.findClass R_L = some m.cls) (hg : ∀ w ∈ gd, w.before #[Value.ref b] s = true) (hK : va_K D cls (tys dA) s) (hX : sKx s) (hT : sTh s) (hXs : va_X b L xs s s.heap) (hbl : b < s.heap.size) (hbA : ¬ sA SE s.heap.size b) (hL : L ≤ 1536) {h0 m0 ob : Nat} {j : Nat} (hj : 3 * j + 3 ≤ L) (nxt : ∀ (S1 S2 : sS) (x0 : Int64) (E : Nat → Nat → Prop) (T Rg : Nat → Prop) (wl : List Nat) (rc : Nat) (H : Heap) (locs : List Loc) (ls : Array Slot) (o5 o6 : Option Value), LW D dA (sA SE s.heap.size) s.heap S1 S2 ob x0 H locs → Ho S1 h0 (j + 1) E T Rg wl rc → Mo S2 m0 (j + 1) E T Rg wl rc → lc ls 7 [some (va_rf (some b)), some (va_rf (some h0)), some (va_rf (some m0)), some (va_rf (some ob)), some (.int (nI (3 * j))), o5, o6] → W p l e room_1 s m #[Value.ref b] below meth c H locs (22 + 320 * (j + 1)) (57567 + 10240 * (j + 1)) (lw_Z below #[Value.ref b] s) (F0 m 472 ls [])) (S1 S2 : sS) (x0 : Int64) (E : Nat → Nat → Prop) (T Rg : Nat → Prop) (wl : List Nat) (rc : Nat) (H : Heap) (locs : List Loc) (ls : Array Slot) (o5 o6 : Option Value) (hM : LW D dA (sA SE s.heap.size) s.heap S1 S2 ob x0 H locs) (hH : Ho S1 h0 j E T Rg wl rc) (hO : Mo S2 m0 j E T Rg wl rc) (hl : lc ls 7 [some (va_rf (some b)), some (va_rf (some h0)), some (va_rf (some m0)), some (va_rf (some ob)), some (.int (nI (3 * j))), o5, o6]) : W p l e room_1 s m #[Value.ref b] below meth c H locs (22 + 320 * j) (57567 + 10240 * j) (lw_Z below #[Value.ref b] s) (F0 m 32 ls []) := by
  refine q_al_n (i := 0) hx hb d_L_law_32 rfl hl rfl ?_
  refine q_iload hx hb d_L_law_33 hl rfl ?_
  refine va_sld hx hb hXs hbl hbA hM.S (vp_in_nI (show 3 * j < L by omega) (by omega)) d_L_law_35 ?_
  rw [nI_clamp (by omega)]
  refine lv_bipush (v := 15) hx hb d_L_law_36 (by decide) ?_
  refine lv_iand hx hb d_L_law_38 ?_
  have hq : ∃ q : Int32, q = (xs (3 * j) &&& 15) := ⟨_, rfl⟩
  obtain ⟨q, eq⟩ := hq
  rw [← eq]
  by_cases h : q.toInt < 0 ∨ 9 < q.toInt
  · refine lv_tableOut (tgt := 472) hx hb d_L_law_39 h (by decide) ?_
    refine W.widen (k := 22 + 320 * (j + 1)) (n := 57567 + 10240 * (j + 1)) (by omega) (by omega) ?_
    exact nxt S1 S2 x0 E T Rg wl rc H locs ls o5 o6 hM (Ho_mono hH (Nat.le_succ j)) (Mo_mono hO (Nat.le_succ j)) hl
  · have h1 : ¬ q.toInt < 0 := fun z => h (Or.inl z)
    have h2 : ¬ 9 < q.toInt := fun z => h (Or.inr z)
    have h3 : q.toInt = 0 ∨ q.toInt = 1 ∨ q.toInt = 2 ∨ q.toInt = 3 ∨ q.toInt = 4 ∨ q.toInt = 5 ∨ q.toInt = 6 ∨ q.toInt = 7 ∨ q.toInt = 8 ∨ q.toInt = 9 := by omega
    rcases h3 with h4 | h4 | h4 | h4 | h4 | h4 | h4 | h4 | h4 | h4
    · refine lv_tableIn (off := 53) (tgt := 92) hx hb d_L_law_39 h1 h2 (by rw [h4]; rfl) (by decide) ?_
      exact lc_0 hst hx hb hr hlocks hml hown hg hK hX hT hXs hbl hbA hL hj nxt S1 S2 x0 E T Rg wl rc H locs ls o5 o6 hM hH hO hl
    · refine lv_tableIn (off := 128) (tgt := 167) hx hb d_L_law_39 h1 h2 (by rw [h4]; rfl) (by decide) ?_
      exact lc_1 hst hx hb hr hlocks hml hown hg hK hX hT hXs hbl hbA hL hj nxt S1 S2 x0 E T Rg wl rc H locs ls o5 o6 hM hH hO hl
    · refine lv_tableIn (off := 203) (tgt := 242) hx hb d_L_law_39 h1 h2 (by rw [h4]; rfl) (by decide) ?_
      exact lc_2 hst hx hb hr hlocks hml hown hg hK hX hT hXs hbl hbA hL hj nxt S1 S2 x0 E T Rg wl rc H locs ls o5 o6 hM hH hO hl
    · refine lv_tableIn (off := 259) (tgt := 298) hx hb d_L_law_39 h1 h2 (by rw [h4]; rfl) (by decide) ?_
      exact lc_3 hst hx hb hr hlocks hml hown hg hK hX hT hXs hbl hbA hL hj nxt S1 S2 x0 E T Rg wl rc H locs ls o5 o6 hM hH hO hl
    · refine lv_tableIn (off := 295) (tgt := 334) hx hb d_L_law_39 h1 h2 (by rw [h4]; rfl) (by decide) ?_
      exact lc_4 hst hx hb hr hlocks hml hown hg hK hX hT hXs hbl hbA hL hj nxt S1 S2 x0 E T Rg wl rc H locs ls o5 o6 hM hH hO hl
    · refine lv_tableIn (off := 308) (tgt := 347) hx hb d_L_law_39 h1 h2 (by rw [h4]; rfl) (by decide) ?_
      exact lc_5 hst hx hb hr hlocks hml hown hg hK hX hT hXs hbl hbA hL hj nxt S1 S2 x0 E T Rg wl rc H locs ls o5 o6 hM hH hO hl
    · refine lv_tableIn (off := 333) (tgt := 372) hx hb d_L_law_39 h1 h2 (by rw [h4]; rfl) (by decide) ?_
      exact lc_6 hst hx hb hr hlocks hml hown hg hK hX hT hXs hbl hbA hL hj nxt S1 S2 x0 E T Rg wl rc H locs ls o5 o6 hM hH hO hl
    · refine lv_tableIn (off := 346) (tgt := 385) hx hb d_L_law_39 h1 h2 (by rw [h4]; rfl) (by decide) ?_
      exact lc_7 hst hx hb hr hlocks hml hown hg hK hX hT hXs hbl hbA hL hj nxt S1 S2 x0 E T Rg wl rc H locs ls o5 o6 hM hH hO hl
    · refine lv_tableIn (off := 371) (tgt := 410) hx hb d_L_law_39 h1 h2 (by rw [h4]; rfl) (by decide) ?_
      exact lc_8 hst hx hb hr hlocks hml hown hg hK hX hT hXs hbl hbA hL hj nxt S1 S2 x0 E T Rg wl rc H locs ls o5 o6 hM hH hO hl
    · refine lv_tableIn (off := 408) (tgt := 447) hx hb d_L_law_39 h1 h2 (by rw [h4]; rfl) (by decide) ?_
      exact lc_9 hst hx hb hr hlocks hml hown hg hK hX hT hXs hbl hbA hL hj nxt S1 S2 x0 E T Rg wl rc H locs ls o5 o6 hM hH hO hl
set_option maxHeartbeats 4000000 in
set_option maxRecDepth 100000 in
theorem lw_loop {p : Program} {l : Launch} {e : Env} {s : State} {m : MethodId} {below : List Frame} {meth : Method} {c : Code} {D : va_G} {dA : Nat → ClassId} {b L : Nat} {xs : Nat → Int32} (hst : ∀ e : Env, l.admits e → e.platform.stackTraces = false) (hx : p.tables.exec = Jvm.exec) (hb : c.code = c_L_law) (hr : meth.sig.returnType = ret) (hlocks : meth.locks = false) (hml : c.maxLocals = 7) (hown : s.vm.findClass R_L = some m.cls) (hg : ∀ w ∈ gd, w.before #[Value.ref b] s = true) (hK : va_K D cls (tys dA) s) (hX : sKx s) (hT : sTh s) (hXs : va_X b L xs s s.heap) (hbl : b < s.heap.size) (hbA : ¬ sA SE s.heap.size b) (hL : L ≤ 1536) {h0 m0 ob : Nat} (d : Nat) : ∀ (j : Nat), L ≤ 3 * j + d → 3 * j ≤ L + 2 → ∀ (S1 S2 : sS) (x0 : Int64) (E : Nat → Nat → Prop) (T Rg : Nat → Prop) (wl : List Nat) (rc : Nat) (H : Heap) (locs : List Loc) (ls : Array Slot) (o5 o6 : Option Value), LW D dA (sA SE s.heap.size) s.heap S1 S2 ob x0 H locs → Ho S1 h0 j E T Rg wl rc → Mo S2 m0 j E T Rg wl rc → lc ls 7 [some (va_rf (some b)), some (va_rf (some h0)), some (va_rf (some m0)), some (va_rf (some ob)), some (.int (nI (3 * j))), o5, o6] → W p l e room_1 s m #[Value.ref b] below meth c H locs (22 + 320 * j) (57567 + 10240 * j) (lw_Z below #[Value.ref b] s) (F0 m 23 ls []) := by
  induction d with
  | zero =>
    intro j hj1 hj2 S1 S2 x0 E T Rg wl rc H locs ls o5 o6 hM hH hO hl
    refine q_iload hx hb d_L_law_23 hl rfl ?_
    refine q_al_n (i := 0) hx hb d_L_law_25 rfl hl rfl ?_
    refine va_slen hx hb hXs hbl hbA hM.S d_L_law_26 ?_
    refine lv_iconst (v := 3) hx hb d_L_law_27 (by decide) ?_
    refine lv_isub hx hb d_L_law_28 ?_
    refine lv_icmp_gt (tgt := 478) hx hb d_L_law_29 (by decide) (fun c1 => ?_) (fun c1 => ?_)
    · refine va_forget (fun q hq => ?_) ?_
      · rcases hM.S.2.2 q hq with z | z
        · exact absurd rfl z
        · exact z
      refine W.widen (k := 601024) (n := 7293033) (by omega) (by omega) ?_
      refine lv_iconst (v := 1) hx hb d_L_law_478 (by decide) ?_
      exact lw_ret hx hb hr hlocks d_L_law_479
    · have c2 : 3 * j + 3 ≤ L := Nat.le_of_not_lt (fun z => c1 ((cmp3 (by omega) (by omega)).mpr z))
      omega
  | succ d ih =>
    intro j hj1 hj2 S1 S2 x0 E T Rg wl rc H locs ls o5 o6 hM hH hO hl
    refine q_iload hx hb d_L_law_23 hl rfl ?_
    refine q_al_n (i := 0) hx hb d_L_law_25 rfl hl rfl ?_
    refine va_slen hx hb hXs hbl hbA hM.S d_L_law_26 ?_
    refine lv_iconst (v := 3) hx hb d_L_law_27 (by decide) ?_
    refine lv_isub hx hb d_L_law_28 ?_
    refine lv_icmp_gt (tgt := 478) hx hb d_L_law_29 (by decide) (fun c1 => ?_) (fun c1 => ?_)
    · refine va_forget (fun q hq => ?_) ?_
      · rcases hM.S.2.2 q hq with z | z
        · exact absurd rfl z
        · exact z
      refine W.widen (k := 601024) (n := 7293033) (by omega) (by omega) ?_
      refine lv_iconst (v := 1) hx hb d_L_law_478 (by decide) ?_
      exact lw_ret hx hb hr hlocks d_L_law_479
    · have c2 : 3 * j + 3 ≤ L := Nat.le_of_not_lt (fun z => c1 ((cmp3 (by omega) (by omega)).mpr z))
      refine lw_body hst hx hb hr hlocks hml hown hg hK hX hT hXs hbl hbA hL c2 ?_ S1 S2 x0 E T Rg wl rc H locs ls o5 o6 hM hH hO hl
      intro S1 S2 x0 E T Rg wl rc H locs ls o5 o6 hM hH hO hl
      refine q_iinc hx hb (nI (3 * (j + 1))) d_L_law_472 hl rfl (by show nI (3 * j) + nI 3 = _; rw [nI_add]; rfl) (by decide) (fun ls hl => ?_)
      simp only [List.set_cons_succ, List.set_cons_zero] at hl
      refine lv_goto (tgt := 23) hx hb d_L_law_475 (by decide) ?_
      exact ih (j + 1) (by omega) (by omega) S1 S2 x0 E T Rg wl rc H locs ls o5 o6 hM hH hO hl
