/-- the first handler of the method's own table takes a new IllegalArgumentException -/
theorem x_catch {p : Program} {l : Launch} {e : Env} {R : Room} {s : State} {m : MethodId} {args : Array Value} {below : List Frame} {meth : Method} {c : Code} {T : State} {locs : List Loc} {cells slots : Nat} (X : Stand p l e R s m args below meth c T locs cells slots) {x : Addr} {g : JFrame} (hg : g.method = m) {own : String} (hown : s.vm.findClass own = some m.cls)
    {h1 : ExceptionTableEntry} {hr : List ExceptionTableEntry} (htab : c.exceptionTable.toList = h1 :: hr) (hcov : covers h1 g.pc = true) (hct : h1.catchType ≠ 0) (hlink : (Cond.classLink own h1.catchType nIA).before args s = true) (hca : va_Nw (.castable nIA nIA) s) {ce : Cell} (hcell : T.heap[x]? = some ce) (hvm : ce.vm = .none) (hcls : s.vm.findClass nIA = some ce.cls) :
    ∃ vm' : Vm, Stand p l e R s m args below meth c (T.setVm vm') locs cells slots ∧ ∀ target, Steps p.tables e below ((T.setVm vm').setTop { g with pc := h1.handlerPc, stack := [.ref x] }) target → Steps p.tables e below ((T.setTop g).pushFrame (.throwing x)) target := by
  have hpl : e.platform.magicAccessors = ({} : Platform).magicAccessors := by rw [X.admits.platform]
  obtain ⟨cT, hcT, hCL⟩ := Cond.classLink_spec hown hlink e.platform hpl
  cases hcls.symm.trans hcT
  obtain ⟨c3, c4, f3, f4, hfit⟩ := Cond.castable_spec (va_Nw.use (A := args) rfl hca)
  cases hcT.symm.trans f3
  cases hcT.symm.trans f4
  obtain ⟨dk, _, _, kt, hd, _, _, _, _, hkt, _, hopen⟩ := hCL.here
  have hWn : s.WarmedH (T.vm.noted m.cls h1.catchType (.cls ce.cls)) := X.warmed.noted hd hopen (State.rightAt_cls hCL)
  have hCLT := X.warmed.classLinks hCL
  subst hg
  have hAt := X.here
  have hvmS : ((T.setTop g).pushFrame (.throwing x)).vm = T.vm := Stand.throwing_vm T g x
  have hhpS : ((T.setTop g).pushFrame (.throwing x)).heap = T.heap := Stand.throwing_heap T g x
  generalize hS : (T.setTop g).pushFrame (.throwing x) = S0 at hvmS hhpS
  have hal : S0.vm.Alike (S0.vm.noted g.method.cls h1.catchType (.cls ce.cls)) := (Vm.Alike.refl S0.vm).noted _ _ _
  obtain ⟨k1, hk1, -⟩ := X.warmed.alike.2.2 _ _ hkt
  rw [← hvmS] at hk1 hCLT hWn
  obtain ⟨k2, hk2, -⟩ := hal.2.2 _ _ hk1
  have hfit2 : (S0.vm.noted g.method.cls h1.catchType (.cls ce.cls)).assignable ce.cls ce.cls = true := by
    rw [hal.assignable, hvmS, X.warmed.alike.assignable]; exact hfit
  obtain ⟨o1, o2⟩ := (resolveClass_links e.toSetting hCLT).op (op := VmOp.resolveClass g.method.cls h1.catchType) rfl
  have hcS : S0.heap[x]? = some ce := by rw [hhpS]; exact hcell
  have hns : ∀ k, ce.vm ≠ .statics k := fun k z => by rw [hvm] at z; cases z
  have hcov2 := hcov
  simp only [covers] at hcov2
  have hmS : S0.vm.method? g.method = some meth := by rw [hvmS]; exact X.method'
  have find : ∀ (Q : Handler → Pre) (E : CtlPost) (d : Bool) (acts : List Action), (findHandler g x).wp Q E e d acts S0 ↔ Q (.found h1.handlerPc) d acts (S0.setVm (S0.vm.noted g.method.cls h1.catchType (.cls ce.cls))) := by
    intro Q E d acts
    rw [W.findHandler_eq hmS X.code, htab]
    simp [findHandler.go, hcov2, hct, o1, o2, hcS, hns, hk2, hfit2, VmOp.dirties, VmOp.acts]
  refine ⟨T.vm.noted g.method.cls h1.catchType (.cls ce.cls), X.noted (by rw [hvmS] at hWn; exact hWn), fun target hrest => ?_⟩
  obtain ⟨hgo, hw⟩ := hAt.throwing x
  rw [hS] at hgo hw
  refine Steps.head hgo hw ?_
  have hfr : S0.frames = .throwing x :: .java g :: T.frames.tail := by rw [← hS]; exact frames_entered hAt.top _
  rw [stepThread_throwing hfr]
  have hstep : (stepThrowing e S0 x (.java g :: T.frames.tail)).1 = (S0.setVm (S0.vm.noted g.method.cls h1.catchType (.cls ce.cls))).setFrames (.java { g with pc := h1.handlerPc, stack := [.ref x] } :: T.frames.tail) := by
    simp only [stepThrowing, searchFrame, vmDo]
    generalize hres : Sem.go _ e false [] S0 = res
    obtain ⟨as, rfl, -⟩ := Sem.eq_ok_of hres (a := Handler.found h1.handlerPc) (s' := S0.setVm (S0.vm.noted g.method.cls h1.catchType (.cls ce.cls))) (acts' := []) (by simp [find _ _ _ _])
    rfl
  rw [hstep, hvmS]
  obtain ⟨g₀, hg0⟩ := Option.isSome_iff_exists.mp hAt.top
  obtain ⟨r, hr0⟩ := State.topJava?_eq_some.mp hg0
  have hr1 : (T.setVm (T.vm.noted g.method.cls h1.catchType (.cls ce.cls))).frames = .java g₀ :: r := hr0
  rw [State.setTop_of_frames _ hr1] at hrest
  have e1 : (S0.setVm (T.vm.noted g.method.cls h1.catchType (.cls ce.cls))).setFrames (.java { g with pc := h1.handlerPc, stack := [.ref x] } :: T.frames.tail) = (T.setVm (T.vm.noted g.method.cls h1.catchType (.cls ce.cls))).setFrames (.java { g with pc := h1.handlerPc, stack := [.ref x] } :: r) := by
    rw [← hS, State.pushFrame, State.setTop_of_frames _ hr0, State.setFrames_setFrames, hr0]
    show (((T.setFrames _).setVm _).setFrames _) = _
    have e2 : ∀ F : List Frame, (T.setFrames F).setVm (T.vm.noted g.method.cls h1.catchType (.cls ce.cls)) = (T.setVm (T.vm.noted g.method.cls h1.catchType (.cls ce.cls))).setFrames F := fun F => rfl
    rw [e2, State.setFrames_setFrames]
    rfl
  rw [e1]
  exact hrest
