/-! the law's entry -/
theorem tb_w {i : Nat} {w : Cond} (h : tables_1[i]? = some w) : w ∈ lw_tbl := List.mem_append_right _ (List.mem_of_getElem? h)
theorem arr_K {s : State} {args : Array Value} {ty : FieldType} (h : (Cond.arrayClass ty).before args s = true) (ht : ∀ cA, s.vm.findClass ("[" ++ ty.toString) = some cA → va_RA s cA ty) : ∃ cA, ArrOfT s cA ty ∧ va_RA s cA ty := by
  obtain ⟨cA, kA, comp, h1, h2, h3⟩ := Cond.arrayClass_spec h
  exact ⟨cA, fun n z => ⟨fun k h => (by cases h), kA, h2, comp, h3⟩, ht cA h1⟩
theorem arr_O {s : State} {C : String} (h : va_AO C s) : ∃ cA, ArrOfT s cA (.object C) ∧ va_RA s cA (.object C) := by
  obtain ⟨comp, cA, kA, h1, h2, h3, h4, h5⟩ := Cond.arrayOver_spec h
  exact ⟨cA, fun n z => ⟨fun k h => (by cases h), kA, h3, comp, h4⟩, kA, comp, h3, h4, h1, h5⟩
theorem lw_X {s : State} {args : Array Value} (hts : ∀ w ∈ lw_tbl, w.before args s = true) : sKx s := by
  refine ⟨fun q hq => ?_, va_AO.of (hts _ (tb_w (i := 32) (by decide +kernel))), va_AO.of (hts _ (tb_w (i := 120) (by decide +kernel)))⟩
  simp only [nst, List.mem_cons, List.not_mem_nil, or_false] at hq
  rcases hq with rfl | rfl | rfl | rfl | rfl | rfl
  · exact va_Nw.of rfl (hts _ (tb_w (i := 27) (by decide +kernel)))
  · exact va_Nw.of rfl (hts _ (tb_w (i := 39) (by decide +kernel)))
  · exact va_Nw.of rfl (hts _ (tb_w (i := 55) (by decide +kernel)))
  · exact va_Nw.of rfl (hts _ (tb_w (i := 60) (by decide +kernel)))
  · exact va_Nw.of rfl (hts _ (tb_w (i := 115) (by decide +kernel)))
  · exact va_Nw.of rfl (hts _ (tb_w (i := 259) (by decide +kernel)))
theorem lw_K {s : State} {args : Array Value} (hts : ∀ w ∈ lw_tbl, w.before args s = true) : ∃ (D : va_G) (dA : Nat → ClassId), va_K D cls (tys dA) s := by
  have hg : ∀ w ∈ gd, w.before args s = true := fun w hw => hts w (List.mem_filter.mp hw).1
  have hX := lw_X hts
  obtain ⟨c0, i0, K0⟩ := u_known (C := R_H) (T := F_H) (N := 7) (n := 7) hg in_H (hg _ kw_18)
  obtain ⟨c1, i1, K1⟩ := u_known (C := R_T) (T := F_T) (N := 1) (n := 1) hg in_T (hg _ kw_26)
  obtain ⟨c2, i2, K2⟩ := u_known (C := R_P) (T := F_P) (N := 1) (n := 1) hg in_P (hg _ kw_114)
  obtain ⟨c3, i3, K3⟩ := u_known (C := R_N) (T := F_N) (N := 9) (n := 9) hg in_N (hg _ kw_127)
  obtain ⟨c4, i4, K4⟩ := u_known (C := R_K) (T := F_K) (N := 6) (n := 6) hg in_K (hg _ kw_372)
  obtain ⟨c5, i5, K5⟩ := u_known (C := R_U) (T := F_U) (N := 2) (n := 2) hg in_U (hg _ kw_38)
  obtain ⟨c6, i6, K6⟩ := u_known (C := R_F) (T := F_F) (N := 1) (n := 1) hg in_F (hg _ kw_54)
  obtain ⟨c7, i7, K7⟩ := u_known (C := R_M) (T := F_M) (N := 13) (n := 13) hg in_M (hg _ kw_450)
  obtain ⟨a0, A0⟩ := arr_K (ty := .int) (hg _ kw_52) (fun _ h => h)
  obtain ⟨a1, A1⟩ := arr_O hX.2.1
  obtain ⟨a2, A2⟩ := arr_O hX.2.2
  obtain ⟨a3, A3⟩ := arr_K (ty := .long) (hg _ kw_571) (fun _ h => h)
  obtain ⟨a4, A4⟩ := arr_K (ty := .boolean) (hg _ kw_495) (fun _ h => h)
  refine ⟨(fun c => match c with | 0 => c0 | 1 => c1 | 2 => c2 | 3 => c3 | 4 => c4 | 5 => c5 | 6 => c6 | _ => c7, fun c => match c with | 0 => i0 | 1 => i1 | 2 => i2 | 3 => i3 | 4 => i4 | 5 => i5 | 6 => i6 | _ => i7), (fun t => match t with | 0 => a0 | 1 => a1 | 2 => a2 | 3 => a3 | _ => a4), fun c q hq => ?_, fun k q hq => ?_⟩
  · match c, hq with
    | 0, hq => cases hq; exact K0
    | 1, hq => cases hq; exact K1
    | 2, hq => cases hq; exact K2
    | 3, hq => cases hq; exact K3
    | 4, hq => cases hq; exact K4
    | 5, hq => cases hq; exact K5
    | 6, hq => cases hq; exact K6
    | 7, hq => cases hq; exact K7
    | n + 8, hq => exact absurd (List.getElem?_eq_some_iff.mp hq).1 (by simp)
  · match k, hq with
    | 0, hq => cases hq; exact A0
    | 1, hq => cases hq; exact A1
    | 2, hq => cases hq; exact A2
    | 3, hq => cases hq; exact A3
    | 4, hq => cases hq; exact A4
    | n + 5, hq => exact absurd (List.getElem?_eq_some_iff.mp hq).1 (by simp)
theorem ls_any {s : State} {A B : Array Value} {O f d : String} (h1 : (Cond.laysStatic O f d).before A s = true) (h2 : (Cond.isRef (.static O f d)).before A s = true) : (Cond.laysStatic O f d).before B s = true ∧ (Cond.isRef (.static O f d)).before B s = true := by
  obtain ⟨c, k, i, fd, a, cell, hc, hi, hst, ha, hcell, hs, hcls, hlt, hty⟩ := Cond.laysStatic_spec h1
  refine ⟨Cond.laysStatic_of hc hi hst ha hcell hs hcls hlt hty, ?_⟩
  simp [Cond.before, Cond.holds, Cond.value, Term.eval, State.fieldNamed?, hi, hst, ha, hcell, hs] at h2
  simp [Cond.before, Cond.holds, Cond.value, Term.eval, State.fieldNamed?, hi, hst, ha, hcell, hs]
  exact h2
theorem lw_T {s : State} {args : Array Value} (hts : ∀ w ∈ lw_tbl, w.before args s = true) (hp : (Jvm.Cond.and given_1 narrow_1).before args s = true) : sTh s := by
  have hs := flat_of_before _ hp
  refine ⟨fun x hx => ?_, va_Nw.of rfl (hts _ (tb_w (i := 285) (by decide +kernel))), fun q hq => ?_, hts (Cond.stringRef "HangOrder" 137 "there is no such node") (tb_w (i := 323) (by decide +kernel))⟩
  · simp only [thD, List.mem_cons, List.not_mem_nil, or_false] at hx
    rcases hx with rfl | rfl | rfl
    · exact va_Nw.of rfl (hts _ (tb_w (i := 287) (by decide +kernel)))
    · exact va_Nw.of rfl (hts _ (tb_w (i := 289) (by decide +kernel)))
    · exact va_Nw.of rfl (hts _ (tb_w (i := 291) (by decide +kernel)))
  · simp only [thS, List.mem_cons, List.not_mem_nil, or_false] at hq
    rcases hq with rfl | rfl
    · exact ls_any (hts _ (tb_w (i := 310) (by decide +kernel))) (hs _ (by decide +kernel))
    · exact ls_any (hts _ (tb_w (i := 312) (by decide +kernel))) (hs _ (by decide +kernel))
/-! the three stores of the law: the class's, the row of answers, the reference's -/
theorem dj_c {S1 S2 : sS} (h : sDj S1 S2) : sDj S2 S1 := by
  intro a ha
  cases h1 : S1.1 a with
  | none => rfl
  | some k => exact absurd (h a (by rw [h1]; exact fun z => by cases z)) ha
theorem sJ_n {S1 S2 : sS} {a : Nat} : (sJ S1 S2).1 a = none ↔ S1.1 a = none ∧ S2.1 a = none := by
  show (match S1.1 a with | some k => some k | none => S2.1 a) = none ↔ _
  cases h1 : S1.1 a with
  | none => simp
  | some k => simp
theorem dj_r {S1 S2 S3 : sS} : sDj S1 (sJ S2 S3) ↔ sDj S1 S2 ∧ sDj S1 S3 := by
  constructor
  · intro h
    exact ⟨fun a ha => (sJ_n.mp (h a ha)).1, fun a ha => (sJ_n.mp (h a ha)).2⟩
  · rintro ⟨h1, h2⟩ a ha
    exact sJ_n.mpr ⟨h1 a ha, h2 a ha⟩
theorem dj_l {S1 S2 S3 : sS} : sDj (sJ S1 S2) S3 ↔ sDj S1 S3 ∧ sDj S2 S3 := by
  constructor
  · intro h
    have := dj_r.mp (dj_c h)
    exact ⟨dj_c this.1, dj_c this.2⟩
  · rintro ⟨h1, h2⟩
    exact dj_c (dj_r.mpr ⟨dj_c h1, dj_c h2⟩)
def LW (D : va_G) (dA : Nat → ClassId) (A : Nat → Prop) (H0 : Heap) (S1 S2 : sS) (ob : Nat) (x : Int64) (H : Heap) (locs : List Loc) : Prop := SW D dA A H0 (sJ (sJ S1 (oS ob x)) S2) H locs ∧ sDj S1 (oS ob x) ∧ sDj S1 S2 ∧ sDj (oS ob x) S2
section LWS
variable {D : va_G} {dA : Nat → ClassId} {A : Nat → Prop} {H0 : Heap} {S1 S2 : sS} {ob : Nat} {x : Int64} {H : Heap} {locs : List Loc}
theorem LW.c (h : LW D dA A H0 S1 S2 ob x H locs) : SW D dA A H0 (sJ S1 (sJ (oS ob x) S2)) H locs := sW_ext h.1 (fun a => sJ_assoc _ _ _ a)
theorem LW.m (h : LW D dA A H0 S1 S2 ob x H locs) : SW D dA A H0 (sJ S2 (sJ S1 (oS ob x))) H locs := sW_ext h.1 (fun a => sJ_comm (dj_l.mpr ⟨h.2.2.1, h.2.2.2⟩) a)
theorem LW.ofc (h : SW D dA A H0 (sJ S1 (sJ (oS ob x) S2)) H locs) (hd : sDj S1 (sJ (oS ob x) S2)) (h3 : sDj (oS ob x) S2) : LW D dA A H0 S1 S2 ob x H locs := ⟨sW_ext h (fun a => (sJ_assoc _ _ _ a).symm), (dj_r.mp hd).1, (dj_r.mp hd).2, h3⟩
theorem LW.ofm (h : SW D dA A H0 (sJ S2 (sJ S1 (oS ob x))) H locs) (hd : sDj S2 (sJ S1 (oS ob x))) (h1 : sDj S1 (oS ob x)) : LW D dA A H0 S1 S2 ob x H locs := ⟨sW_ext h (fun a => sJ_comm hd a), h1, dj_c (dj_r.mp hd).1, dj_c (dj_r.mp hd).2⟩
theorem LW.S (h : LW D dA A H0 S1 S2 ob x H locs) : va_S A H0 H locs := by
  obtain ⟨⟨-, ws, -, -, -, hS⟩, -⟩ := h
  exact hS
end LWS
section LROWS
variable {p : Program} {l : Launch} {e : Env} {Rm : Room} {s : State} {m : MethodId} {args : Array Value} {below : List Frame} {meth : Method} {c : Code} {H : Heap} {locs : List Loc} {cells slots : Nat} {Q : State → Prop}
variable {pc : Nat} {ls : Array Slot} {rest st0 : List Value} {D : va_G} {A : Nat → Prop} {H0 : Heap} {dA : Nat → ClassId} {S1 S2 : sS} {ob : Nat} {x : Int64} {mc ms : Nat} {a : Array Value}
theorem l_ci {post : Int32 → sS → Prop} (hr : va_Run p l e Rm s m args below meth c H locs cells slots mc ms (F0 m pc ls st0) rest (va_Qi post (SB D dA S1 H.size) (sA S1 H.size) a) (sA S1 H.size)) (hM : LW D dA A H0 S1 S2 ob x H locs)
    (kk : ∀ (r : Int32) (u : sS) (H1 : Heap) (locs1 : List Loc), post r u → LW D dA A H0 u S2 ob x H1 locs1 → W p l e Rm s m args below meth c H1 locs1 (cells + mc) (slots + ms) Q (F0 m (pc + 3) ls (.int r :: rest))) : W p l e Rm s m args below meth c H locs cells slots Q (F0 m pc ls st0) :=
  s_calliJ hr hM.c (dj_r.mpr ⟨hM.2.1, hM.2.2.1⟩) (fun r u H1 locs1 hp h hd => kk r u H1 locs1 hp (LW.ofc h hd hM.2.2.2))
theorem l_mi {post : Int32 → sS → Prop} (hr : va_Run p l e Rm s m args below meth c H locs cells slots mc ms (F0 m pc ls st0) rest (va_Qi post (SB D dA S2 H.size) (sA S2 H.size) a) (sA S2 H.size)) (hM : LW D dA A H0 S1 S2 ob x H locs)
    (kk : ∀ (r : Int32) (u : sS) (H1 : Heap) (locs1 : List Loc), post r u → LW D dA A H0 S1 u ob x H1 locs1 → W p l e Rm s m args below meth c H1 locs1 (cells + mc) (slots + ms) Q (F0 m (pc + 3) ls (.int r :: rest))) : W p l e Rm s m args below meth c H locs cells slots Q (F0 m pc ls st0) :=
  s_calliJ hr hM.m (dj_r.mpr ⟨dj_c hM.2.2.1, dj_c hM.2.2.2⟩) (fun r u H1 locs1 hp h hd => kk r u H1 locs1 hp (LW.ofm h hd hM.2.1))
theorem l_mv {post : sS → Prop} (hr : va_Run p l e Rm s m args below meth c H locs cells slots mc ms (F0 m pc ls st0) rest (va_Qv post (SB D dA S2 H.size) (sA S2 H.size) a) (sA S2 H.size)) (hM : LW D dA A H0 S1 S2 ob x H locs)
    (kk : ∀ (u : sS) (H1 : Heap) (locs1 : List Loc), post u → LW D dA A H0 S1 u ob x H1 locs1 → W p l e Rm s m args below meth c H1 locs1 (cells + mc) (slots + ms) Q (F0 m (pc + 3) ls rest)) : W p l e Rm s m args below meth c H locs cells slots Q (F0 m pc ls st0) :=
  s_callvJ hr hM.m (dj_r.mpr ⟨dj_c hM.2.2.1, dj_c hM.2.2.2⟩) (fun u H1 locs1 hp h hd => kk u H1 locs1 hp (LW.ofm h hd hM.2.1))
theorem l_hi {post : Int32 → sS → Prop} (hr : va_Run p l e Rm s m args below meth c H locs cells slots mc ms (F0 m pc ls st0) rest (va_Qi post (SB D dA (sJ S1 (oS ob x)) H.size) (sA (sJ S1 (oS ob x)) H.size) a) (sA (sJ S1 (oS ob x)) H.size)) (hM : LW D dA A H0 S1 S2 ob x H locs)
    (kk : ∀ (r : Int32) (u : sS) (H1 : Heap) (locs1 : List Loc), post r u → (∀ (u1 : sS) (x1 : Int64), u = sJ u1 (oS ob x1) → sDj u1 (oS ob x1) → LW D dA A H0 u1 S2 ob x1 H1 locs1) → W p l e Rm s m args below meth c H1 locs1 (cells + mc) (slots + ms) Q (F0 m (pc + 3) ls (.int r :: rest))) : W p l e Rm s m args below meth c H locs cells slots Q (F0 m pc ls st0) :=
  s_calliJ hr hM.1 (dj_l.mpr ⟨hM.2.2.1, hM.2.2.2⟩) (fun r u H1 locs1 hp h hd => kk r u H1 locs1 hp (fun u1 x1 e1 d1 => by
    rw [e1] at h hd
    exact ⟨h, d1, (dj_l.mp hd).1, (dj_l.mp hd).2⟩))
end LROWS
theorem SPT_pre {D : va_G} {dA : Nat → ClassId} {A : Nat → Prop} {H : Heap} {s : State} {S1 S2 : sS} {locs : List Loc} {av : List Value} (h : SW D dA A s.heap (sJ S1 S2) H locs) (hK : va_K D cls (tys dA) s) (hX : sKx s) (hT : sTh s) (hold : ∀ (q : Nat) (cell : Cell), s.heap[q]? = some cell → H[q]? = some cell) :
    ∀ U : State, U.heap = H → s.WarmedH U.vm → va_Pc av (SPT D dA S1 H.size) av.toArray U := by
  intro U hU hW
  have := sJ_pre (av := av) h hK hX U hU hW
  exact ⟨rfl, this.2, sTh_move hW (fun q cell hq _ => by rw [hU]; exact hold q cell hq) hT⟩
theorem cmp3 {a L : Nat} (ha : a < 2 ^ 30) (hL : L < 2 ^ 30) : nI L - 3 < nI a ↔ L < a + 3 := by
  have e1 : nI L - 3 = Int32.ofInt ((L : Int) - 3) := by
    rw [Int32.ofInt_sub]; rfl
  rw [e1, Int32.lt_iff_toInt_lt, Int32.toInt_ofInt_of_le (by omega) (by omega), nI_toInt (by omega)]
  omega
