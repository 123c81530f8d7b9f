theorem ls_args {s : State} {A : Array Value} {O f d : String} (h1 : (Cond.laysStatic O f d).before #[] s = true) (h2 : (Cond.isRef (.static O f d)).before #[] s = true) : (Cond.laysStatic O f d).before A s = true ∧ (Cond.isRef (.static O f d)).before A s = true := by
  obtain ⟨c, k, i, fd, a, cell, hc, hi, hst, ha, hcell, hs, hcls, hlt, hty⟩ := Cond.laysStatic_spec h1
  refine ⟨Cond.laysStatic_of hc hi hst ha hcell hs hcls hlt hty, ?_⟩
  simp [Cond.before, Cond.holds, Cond.value, Term.eval, State.fieldNamed?, hi, hst, ha, hcell, hs] at h2
  simp [Cond.before, Cond.holds, Cond.value, Term.eval, State.fieldNamed?, hi, hst, ha, hcell, hs]
  exact h2
/-- what the making of the exception asks -/
def xAt : List Cond := Bundle.ownAtoms "HangOrder" 139 nIA ["java/lang/RuntimeException", "java/lang/Exception"]
def xSp : List Cond := thD.map (fun x => Cond.declares x) ++ [.castable nIA nIA] ++ thS.map (fun q => Cond.laysStatic nTh q.1 q.2) ++ thS.map (fun q => Cond.isRef (.static nTh q.1 q.2))
theorem xAt_ok : xAt.all (fun w => decide (w ∈ gd) || decide (w ∈ xSp)) = true := by decide +kernel
theorem xAt_all {s : State} {args : Array Value} (hg : ∀ w ∈ gd, w.before args s = true) (hT : sTh s) : ∀ w ∈ xAt, w.before args s = true := by
  intro w hw
  have h := List.all_eq_true.mp xAt_ok w hw
  rw [Bool.or_eq_true, decide_eq_true_eq, decide_eq_true_eq] at h
  obtain ⟨h1, h2, h3, -⟩ := hT
  rcases h with h | h
  · exact hg w h
  · unfold xSp at h
    simp only [List.mem_append, List.mem_map, List.mem_singleton] at h
    rcases h with ((⟨x, hx, rfl⟩ | rfl) | ⟨q, hq, rfl⟩) | ⟨q, hq, rfl⟩
    · exact va_Nw.use rfl (h1 x hx)
    · exact va_Nw.use rfl h2
    · exact (ls_args (h3 q hq).1 (h3 q hq).2).1
    · exact (ls_args (h3 q hq).1 (h3 q hq).2).2
theorem xNo {c : Code} (h : c.exceptionTable.isEmpty = true) (pc : Nat) : ∀ x ∈ c.exceptionTable.toList, covers x pc = false := by
  intro x hx
  have : c.exceptionTable = #[] := Array.isEmpty_iff.mp h
  rw [this] at hx
  cases hx
section XROWS
variable {p : Program} {l : Launch} {e : Env} {Rm : Room} {s : State} {m : MethodId} {args : Array Value} {below : List Frame} {meth : Method} {c : Code} {H : Heap}
variable {cc : ByteArray} {pc nL : Nat} {ls : Array Slot} {rest st0 : List Value} {D : va_G} {dA : Nat → ClassId}
variable {own : String} {idx n : Nat} {y : MethodName} {b : ByteArray} {r : Option FieldType} {rm : Room}
/-- new, dup lie behind; the message, the constructor, the throw -/
theorem x_throw (hx : p.tables.exec = Jvm.exec) (hb : c.code = cc) (hml : c.maxLocals = nL) (hown : s.vm.findClass "HangOrder" = some m.cls) (hlocks : meth.locks = false) (hex : c.exceptionTable.isEmpty = true) (hst : ∀ e : Env, l.admits e → e.platform.stackTraces = false) (hg : ∀ w ∈ gd, w.before args s = true) (hT : sTh s)
    {a : Nat} {cX : ClassId} {kX : Class} (hcX : s.vm.findClass nIA = some cX) (hkX : s.vm.classes[cX]? = some kX) (hcell : H[a]? = some (blank cX kX)) (hnew : s.heap.size ≤ a) (hl : ls.size = nL) (hR : Rm.frames = 6 ∧ Rm.locals = 196)
    (d1 : decode cc pc = .ok (.ldc 137, 2)) (d2 : decode cc (pc + 2) = .ok (.invokespecial 139, 3)) (d3 : decode cc (pc + 5) = .ok (.athrow, 1)) :
    W p l e Rm s m args below meth c H [] 1 6 (XQ below s) (F0 m pc ls [.ref a, .ref a]) := by
  intro T hT0 X
  have hstr : (Cond.stringRef "HangOrder" 137 "there is no such node").before args s = true := hT.2.2.2
  obtain ⟨k9, cf9, i9, q9, -, -, -, -, -, hev⟩ := Cond.stringRef_spec hown hstr
  have hstep := X.ldcString hx hown hstr hev (g := F0 m pc ls [.ref a, .ref a]) rfl (by rw [hb]; exact d1)
  have hroom : 2 * (F0 m (pc + 2) ls [.ref q9, .ref a, .ref a]).monitorRoom + (([] : List Value).map fun v => v.category).sum ≤ 8 := lv_room (by decide)
  obtain ⟨U, u1, u2, u3, u4, u5, ce, u6, u7⟩ := X.ctorThrowS hx (hst e X.admits) (own := "HangOrder") (cls := nIA) (names := ["java/lang/RuntimeException", "java/lang/Exception"]) (ic := 139) hown (by decide +kernel) (by decide +kernel) (xAt_all hg hT)
    (fun x hx9 => by cases hx9) (a := a) hcX hkX (by rw [hT0]; exact hcell) hnew (msg := .ref q9) rfl (g := F0 m (pc + 2) ls [.ref q9, .ref a, .ref a]) rfl (by rw [hml]; exact hl) rfl rfl (rest := []) rfl (by rw [hb]; exact d2) (by rw [hb]; exact d3) (xNo hex _) (by rw [hR.1]; decide) (by
      rw [hR.2]
      have e1 : (([Value.ref a] : List Value).map fun v => v.category).sum = 1 := rfl
      have e2 : (([] : List Value).map fun v => v.category).sum = 0 := rfl
      rw [e2] at hroom
      rw [e1]
      show 2 * _ + 1 + (13 * (2 + 1) + 42) ≤ 196
      omega) hlocks
  exact ⟨U, hstep U u1, .threw a, u2, u3, a, rfl, hnew, ⟨ce, u6, u7.vm, u7.cls⟩, u4, u5⟩
/-- a static method that throws, called where no handler is -/
theorem x_S (nA : Nat) (As : List Value) (hA : As.length = nA) (hx : p.tables.exec = Jvm.exec) (hb : c.code = cc) (hml : c.maxLocals = nL) (hown : s.vm.findClass own = some m.cls) (hlocks : meth.locks = false) (hex : c.exceptionTable.isEmpty = true) (hg : ∀ w ∈ gd, w.before args s = true)
    (hC : MetX l y (.code y b n r :: gd) rm (va_Pc As (xP D dA))) (hK : va_K D cls (tys dA) s) (hX : sKx s) (hT : sTh s) (hold : ∀ (q : Nat) (cell : Cell), s.heap[q]? = some cell → H[q]? = some cell) (hsz : s.heap.size ≤ H.size)
    (w1 : Cond.methodLink own idx y ∈ gd) (w2 : Cond.static y ∈ gd) (w4 : Cond.initialized y.cls ∈ gd) (w5 : Cond.code y b n r ∈ gd)
    (hd : y.cls ≠ "java/lang/invoke/MethodHandle" ∧ y.cls ≠ "java/lang/invoke/VarHandle" ∧ (parseMethodDescriptor y.desc).map (fun d => d.parameters.length) = some nA)
    (hR : rm.frames + 1 ≤ Rm.frames ∧ 8 + (n + 11) + rm.locals ≤ Rm.locals) (hrc : rm.cells = 1 ∧ rm.slots = 6) (hl : ls.size = nL) (hroom : (rest.map fun v => v.category).sum ≤ 8)
    (hdg : decode cc pc = .ok (.invokestatic idx, 3)) (hcs : 1 ≤ Rm.cells ∧ 6 ≤ Rm.slots) (hst0 : st0 = As.reverse ++ rest) :
    W p l e Rm s m args below meth c H [] 0 0 (XQ below s) (F0 m pc ls st0) := by
  subst hst0
  intro T hT0 X
  obtain ⟨mk, hnamed⟩ := Cond.code_named (hg _ w5)
  obtain ⟨methM, cM, hmethM, -, -, -, -, -, -, hsigM⟩ := Cond.code_spec hnamed (hg _ w5)
  have hstatic : methM.isStatic = true := Cond.static_spec hnamed hmethM (hg _ w2)
  obtain ⟨kP, hkP, -⟩ := className_of_methodNamed hnamed
  have hinitP : kP.init = .initialized := Cond.initialized_spec (findClass_of_methodNamed hnamed) hkP (hg _ w4)
  have hlen : As.length = methM.sig.parameters.length := by
    have h2 := hd.2.2
    rw [hsigM] at h2
    rw [hA]; exact (Option.some.inj h2).symm
  obtain ⟨vm₁, X₁, hstep₁⟩ := X.invokestatic hx hown (hg _ w1) hnamed hmethM hstatic hkP hinitP ⟨hd.1, hd.2.1⟩ (g := F0 m pc ls (As.reverse ++ rest)) rfl (argsL := As) (rest := rest) hlen rfl (by rw [hb]; exact hdg)
  have good : ∀ w ∈ gd, ∀ a' U, s.WarmedH U.vm → w.before a' U = true := fun w hw a' U hWU => word_at hWU (gd_good hw) (hg w hw)
  have hxP : va_Pc As (xP D dA) As.toArray (T.setVm vm₁) := ⟨rfl, va_K.moved X₁.warmed.alike hK, sKx_warm (U := T.setVm vm₁) X₁.warmed hX, sTh_move (U := T.setVm vm₁) X₁.warmed (fun q cell hq _ => by show T.heap[q]? = _; rw [hT0]; exact hold q cell hq) hT⟩
  obtain ⟨x, T', X', hx1, ⟨ce, hx2, hx3, hx4⟩, hx5, hx6, hsteps⟩ := callX (bytes := b) (maxL := n) (ret := r) (Wt := 8) hC xP_blind hrc.1 hrc.2 hR.1 hR.2 (fun w hw a' U hWU => by
    rcases List.mem_cons.mp hw with z | z
    · rw [z]; exact good _ w5 a' U hWU
    · exact good w z a' U hWU) List.mem_cons_self (fun a' U hWU => good _ w4 a' U hWU) X₁ (g := F0 m pc ls rest) rfl (by rw [hml]; exact hl) (by rw [hb]; exact hdg) (lv_room hroom) (X₁.named hnamed) ⟨by omega, by omega⟩ hxP
  obtain ⟨l1, l2, l3, l4, l5⟩ := X'.leaveThrown x (g := F0 m pc ls rest) rfl rfl rfl (xNo hex _) hlocks
  refine ⟨T'.setFrames (.throwing x :: below), hstep₁ _ fun acts => by rw [doInvoke_state]; exact hsteps.trans l1, .threw x, l2, l3, x, rfl, ?_, ⟨ce, hx2, hx3, ?_⟩, l4, l5⟩
  · have : T.heap.size ≤ x := hx1
    rw [hT0] at this
    omega
  · rw [← hx4]
    exact (X₁.warmed.alike.findClass _ _).symm
/-- a method that throws, called on an object under a handler -/
theorem x_V {locs : List Loc} {cells slots : Nat} {Q : State → Prop} {a : Nat} (nA : Nat) (As : List Value) (hA : As.length = nA) (hx : p.tables.exec = Jvm.exec) (hb : c.code = cc) (hml : c.maxLocals = nL) (hown : s.vm.findClass own = some m.cls) (hg : ∀ w ∈ gd, w.before args s = true)
    (hC : MetX l y (.code y b n r :: gd) rm (va_Pc (.ref a :: As) (xP D dA))) (hK : va_K D cls (tys dA) s) (hX : sKx s) (hT : sTh s) (hold : ∀ (q : Nat) (cell : Cell), s.heap[q]? = some cell → cell.vm.isStatics = true → H[q]? = some cell)
    (hrecv : ∃ cell : Cell, H[a]? = some cell ∧ cell.vm.isStatics = false ∧ s.vm.findClass y.cls = some cell.cls)
    (w1 : Cond.methodLink own idx y ∈ gd) (w2 : Cond.instanceMethod y ∈ gd) (w3 : Cond.selects y.cls y y ∈ gd) (w4 : Cond.initialized y.cls ∈ gd) (w5 : Cond.code y b n r ∈ gd)
    (hd : y.cls ≠ "java/lang/invoke/MethodHandle" ∧ y.cls ≠ "java/lang/invoke/VarHandle" ∧ (parseMethodDescriptor y.desc).map (fun d => d.parameters.length) = some nA)
    (hR : rm.frames + 1 ≤ Rm.frames ∧ 8 + (n + 11) + rm.locals ≤ Rm.locals) (hrc : rm.cells = 1 ∧ rm.slots = 6) (hl : ls.size = nL) (hroom : (rest.map fun v => v.category).sum ≤ 8)
    (hdg : decode cc pc = .ok (.invokevirtual idx, 3)) (hcs : cells + 1 ≤ Rm.cells ∧ slots + 6 ≤ Rm.slots) (hst0 : st0 = As.reverse ++ .ref a :: rest)
    {h1 : ExceptionTableEntry} {hr : List ExceptionTableEntry} (htab : c.exceptionTable.toList = h1 :: hr) (hcov : covers h1 pc = true) (hct : h1.catchType ≠ 0) (hlink : Cond.classLink own h1.catchType nIA ∈ gd)
    (kk : ∀ (x : Nat) (H1 : Heap), H.size ≤ H1.size → (∀ (q : Nat) (cell : Cell), H[q]? = some cell → H1[q]? = some cell) → W p l e Rm s m args below meth c H1 locs (cells + 1) (slots + 6) Q (F0 m h1.handlerPc ls [.ref x])) :
    W p l e Rm s m args below meth c H locs cells slots Q (F0 m pc ls st0) := by
  subst hst0
  intro T hT0 X
  obtain ⟨cellB, hcB, hoB, hclB⟩ := hrecv
  obtain ⟨mk, methM, hnamed, hmethM, hstM, habM⟩ := Cond.instanceMethod_spec (hg _ w2)
  obtain ⟨methM', cM, hmethM', -, -, -, -, -, -, hsigM⟩ := Cond.code_spec hnamed (hg _ w5)
  cases hmethM.symm.trans hmethM'
  obtain ⟨c2, r2, m2, q1, q2, q3, q4, kP, hkP, hkPi⟩ := Cond.selects_spec (hg _ w3)
  cases hclB.symm.trans q1
  cases (State.methodFound?_of_named hnamed ⟨hd.1, hd.2.1⟩).symm.trans q2
  cases hnamed.symm.trans q3
  have hselP : selectMethod e.platform s.vm cellB.cls mk = .method mk := by rw [Launch.admits_selectMethod X.admits]; exact q4
  have hlen : As.length = methM.sig.parameters.length := by
    have h2 := hd.2.2
    rw [hsigM] at h2
    rw [hA]; exact (Option.some.inj h2).symm
  obtain ⟨vm₁, X₁, hstep₁⟩ := X.invokevirtual hx hown (hg _ w1) hnamed hmethM hstM hkP hkPi ⟨hd.1, hd.2.1⟩ (a := a) (cell := cellB) (by rw [hT0]; exact hcB)
    (fun z h => by rw [h] at hoB; cases hoB) hselP hmethM habM hkP hkPi (g := F0 m pc ls (As.reverse ++ .ref a :: rest)) rfl (argsL := As) (rest := rest) hlen rfl (by rw [hb]; exact hdg)
  have good : ∀ w ∈ gd, ∀ a' U, s.WarmedH U.vm → w.before a' U = true := fun w hw a' U hWU => word_at hWU (gd_good hw) (hg w hw)
  have hxP : va_Pc (.ref a :: As) (xP D dA) (Value.ref a :: As).toArray (T.setVm vm₁) := ⟨rfl, va_K.moved X₁.warmed.alike hK, sKx_warm (U := T.setVm vm₁) X₁.warmed hX, sTh_move (U := T.setVm vm₁) X₁.warmed (fun q cell hq hz => by show T.heap[q]? = _; rw [hT0]; exact hold q cell hq hz) hT⟩
  obtain ⟨x, T', X', hx1, ⟨ce, hx2, hx3, hx4⟩, hx5, hx6, hsteps⟩ := callX (bytes := b) (maxL := n) (ret := r) (Wt := 8) hC xP_blind hrc.1 hrc.2 hR.1 hR.2 (fun w hw a' U hWU => by
    rcases List.mem_cons.mp hw with z | z
    · rw [z]; exact good _ w5 a' U hWU
    · exact good w z a' U hWU) List.mem_cons_self (fun a' U hWU => good _ w4 a' U hWU) X₁ (g := F0 m pc ls rest) rfl (by rw [hml]; exact hl) (by rw [hb]; exact hdg) (lv_room hroom) (X₁.named hnamed) hcs hxP
  obtain ⟨vm2, X2, st2⟩ := x_catch X' (x := x) (g := F0 m pc ls rest) rfl hown htab hcov hct (hg _ hlink) hT.2.1 hx2 hx3 (by rw [← hx4]; exact (X₁.warmed.alike.findClass _ _).symm)
  rw [List.append_nil] at X2
  have hH : T.heap = H := hT0
  obtain ⟨t, t1, t2⟩ := kk x T'.heap (by rw [← hH]; exact hx5) (fun q cell hq => hx6 q cell (by show T.heap[q]? = _; rw [hH]; exact hq)) (T'.setVm vm2) rfl X2
  exact ⟨t, hstep₁ _ fun acts => by rw [doInvoke_state]; exact hsteps.trans (st2 t t1), t2⟩
end XROWS
