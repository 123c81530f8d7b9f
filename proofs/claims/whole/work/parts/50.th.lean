/-! THROWS: a method that always throws a new IllegalArgumentException and changes nothing that was there -/
abbrev nIA : String := "java/lang/IllegalArgumentException"
abbrev nTh : String := "java/lang/Throwable"
def thD : List MethodName := [⟨"java/lang/RuntimeException", "<init>", "(Ljava/lang/String;)V"⟩, ⟨"java/lang/Exception", "<init>", "(Ljava/lang/String;)V"⟩, ⟨"java/lang/Throwable", "<init>", "(Ljava/lang/String;)V"⟩]
def thS : List (String × String) := [("UNASSIGNED_STACK", "[Ljava/lang/StackTraceElement;"), ("SUPPRESSED_SENTINEL", "Ljava/util/List;")]
/-- what the tables and the statics say of exceptions, beyond the good words -/
def sTh (U : State) : Prop :=
  (∀ x ∈ thD, va_Nw (.declares x) U) ∧ va_Nw (.castable nIA nIA) U ∧ (∀ q ∈ thS, (Cond.laysStatic nTh q.1 q.2).before #[] U = true ∧ (Cond.isRef (.static nTh q.1 q.2)).before #[] U = true) ∧ (Cond.stringRef "HangOrder" 137 "there is no such node").before #[] U = true
theorem ls_move {s U : State} (hA : s.vm.Alike U.vm) (hH : ∀ (q : Nat) (cell : Cell), s.heap[q]? = some cell → cell.vm.isStatics = true → U.heap[q]? = some cell) {O f d : String} (h1 : (Cond.laysStatic O f d).before #[] s = true) (h2 : (Cond.isRef (.static O f d)).before #[] s = true) :
    (Cond.laysStatic O f d).before #[] U = true ∧ (Cond.isRef (.static O f d)).before #[] U = true := by
  obtain ⟨c, k, i, fd, a, cell, hc, hi, hst, ha, hcell, hs, hcls, hlt, hty⟩ := Cond.laysStatic_spec h1
  obtain ⟨k', hi', hek⟩ := State.fieldFound?_setVm hA hi
  have hi2 : U.fieldFound? O f d = some (c, k', i, fd) := hi'
  have hcell' := hH a cell hcell hs
  have ha' : k'.statics = some a := by rw [hek]; exact ha
  refine ⟨Cond.laysStatic_of (by rw [hA.findClass]; exact hc) hi2 hst ha' hcell' hs hcls hlt (by rw [hek]; exact hty), ?_⟩
  simp [Cond.before, Cond.holds, Cond.value, Term.eval, State.fieldNamed?, hi, hst, ha, hcell, hs] at h2
  simp [Cond.before, Cond.holds, Cond.value, Term.eval, State.fieldNamed?, hi2, hst, ha', hcell', hs]
  exact h2
theorem sTh_move {s U : State} (hW : s.WarmedH U.vm) (hH : ∀ (q : Nat) (cell : Cell), s.heap[q]? = some cell → cell.vm.isStatics = true → U.heap[q]? = some cell) (h : sTh s) : sTh U := by
  obtain ⟨h1, h2, h3, h4⟩ := h
  refine ⟨fun x hx => va_Nw.warmD hW (h1 x hx), va_Nw.warmC hW h2, fun q hq => ls_move hW.alike hH (h3 q hq).1 (h3 q hq).2, ?_⟩
  exact Cond.stringRef_warmed hW h4
theorem sTh_same {s U : State} (hv : U.vm = s.vm) (hh : U.heap = s.heap) (h : sTh s) : sTh U := by
  obtain ⟨h1, h2, h3, h4⟩ := h
  refine ⟨fun x hx => va_Nw.same rfl hv.symm (h1 x hx), va_Nw.same rfl hv.symm h2, fun q hq => ls_move (by rw [hv]; exact Vm.Alike.refl _) (fun q cell hq _ => by rw [hh]; exact hq) (h3 q hq).1 (h3 q hq).2, ?_⟩
  have h5 : (Cond.stringRef "HangOrder" 137 "there is no such node").before #[] (s.setVm U.vm) = true := by rw [hv]; exact h4
  exact h5
/-- how such a method ends -/
def xEnd (st : State) (x : Addr) (t : State) : Prop := st.heap.size ≤ x ∧ (∃ ce : Cell, t.heap[x]? = some ce ∧ ce.vm = .none ∧ st.vm.findClass nIA = some ce.cls) ∧ st.WarmedH t.vm ∧ st.sameButNew ({ t with vm := st.vm } : State) [] 1 6
def xQ (o : Outcome) (st t : State) : Prop := ∃ x, o = .threw x ∧ xEnd st x t
def MetX (l : Launch) (y : MethodName) (ws : List Cond) (rm : Room) (Pc : Array Value → State → Prop) : Prop := MetFree l y (headSpec ws rm) Pc (fun _ _ _ _ _ => True) (fun _ st o t => xQ o st t)
def XQ (below : List Frame) (s : State) : State → Prop := fun t => ∃ o, t.status = .running ∧ Ended t below o ∧ xQ o s t
abbrev xP (D : va_G) (dA : Nat → ClassId) (U : State) : Prop := va_K D cls (tys dA) U ∧ sKx U ∧ sTh U
theorem xP_blind {D : va_G} {dA : Nat → ClassId} {av : List Value} : FrameBlind (va_Pc av (xP D dA)) :=
  fun a U g mk q => by
    obtain ⟨q0, qK, qX, qT⟩ := q
    exact ⟨q0, va_K.moved (u := U) (U := U.calling g mk a) (Vm.Alike.refl U.vm) qK, sKx_same (s := U) (U := U.calling g mk a) rfl qX, sTh_same (s := U) (U := U.calling g mk a) rfl rfl qT⟩
/-- nothing at all in the store -/
def SE : sS := (fun _ => none, fun _ _ => none, fun _ _ => 0, fun _ _ => 0)
theorem SE_start {D : va_G} {dA : Nat → ClassId} {s : State} : SW D dA (sA SE s.heap.size) s.heap SE s.heap [] :=
  ⟨fun q hq => Or.inr hq, [], fun a x => ⟨fun h => (by cases h), fun ⟨k, hk⟩ => (by cases hk)⟩, fun k q hk => (by cases hk), ⟨fun i j p q hi => (by cases hi), fun k q hk => (by cases hk)⟩, va_S.rf⟩
theorem x_met {l : Launch} {D : va_G} {dA : Nat → ClassId} {y : MethodName} {ws ws' : List Cond} {rm : Room} {cc : ByteArray} {maxL : Nat} {ret : Option FieldType} {av : List Value}
    (hy : plainName y.cls = true) (hw : ws = Cond.code y cc maxL ret :: ws') (hav : ∀ v ∈ av, v.category = 1) (hlen : (lg_sl av).length ≤ maxL)
    (body : ∀ (p : Program) (e : Env) (s : State) (m : MethodId) (args : Array Value) (below : List Frame) (meth : Method) (c : Code) (ls : Array Slot), p.tables.exec = Jvm.exec → c.code = cc → (∀ w ∈ ws, w.before args s = true) → s.vm.findClass y.cls = some m.cls → meth.locks = false → c.maxLocals = maxL → c.exceptionTable.isEmpty = true → va_K D cls (tys dA) s → sKx s → sTh s → SW D dA (sA SE s.heap.size) s.heap SE s.heap [] → lc ls maxL (av.map some ++ List.replicate (maxL - av.length) none) →
      W p l e rm s m args below meth c s.heap [] 0 0 (XQ below s) (F0 m 0 ls [])) :
    MetX l y ws rm (va_Pc av (xP D dA)) := by
  refine MetFree.of_bodyS (code := cc) (maxLocals := maxL) (ret := ret) hy ?_ ?_
  · intro args s m h hn
    obtain ⟨meth, c, h1, h2, h3, h4, h5, h6, -, -⟩ := Cond.code_spec hn (atoms_spec (ws := ws) h _ (by rw [hw]; exact List.mem_cons_self))
    exact ⟨meth, c, h1, h2, h3, h4, h5, h6⟩
  · intro p e s m args below meth c s₁ B hml hP _
    have hh0 : s₁.heap = s.heap := by rw [B.state]; rfl
    obtain ⟨rfl, hK, hX, hT⟩ := hP
    have hts := atoms_spec (ws := ws) B.pre
    have hl := lv_entry av (n := maxL) hlen
    have hb := body p e s m _ below meth c (lg_sl av ++ List.replicate (maxL - (lg_sl av).length) Slot.unset).toArray B.exec B.bytes hts (findClass_of_methodNamed B.named) B.notSynchronized hml (BodyLoose.noHandlers B (hts _ (by rw [hw]; exact List.mem_cons_self))) hK hX hT SE_start (lc_entry hl hav _)
    rw [← lg_entry_eq] at hb
    obtain ⟨t, a1, o, b1, b2, b3⟩ := hb s₁ hh0 (Stand.of_body B)
    exact ⟨t, o, a1, b1, b2, b3⟩
/-- a call of a method that throws: the caller stands again, with the throw laid over it -/
theorem callX {l : Launch} {R : Room} {p : Program} {e : Env} {below : List Frame} {s : State} {args : Array Value} {m : MethodId} {meth : Method} {c : Code} {y : MethodName} {len Wt : Nat} {ws : List Cond} {rm : Room} {Pc : Array Value → State → Prop} {bytes : ByteArray} {maxL : Nat} {ret : Option FieldType}
    (hM : MetX l y ws rm Pc) (hblind : FrameBlind Pc) (hrc : rm.cells = 1) (hrs : rm.slots = 6) (hframes : rm.frames + 1 ≤ R.frames) (hlocals : Wt + (maxL + 11) + rm.locals ≤ R.locals)
    (hws : ∀ w ∈ ws, ∀ a' U, s.WarmedH U.vm → w.before a' U = true) (hcode : Cond.code y bytes maxL ret ∈ ws) (hinit : ∀ a' U, s.WarmedH U.vm → (Cond.initialized y.cls).before a' U = true)
    {U : State} {locs : List Loc} {cells slots : Nat} {g : JFrame} {ig : Instr} {mk : MethodId} {a : Array Value} (X : Stand p l e R s m args below meth c U locs cells slots) (hg : g.method = m) (hsize : g.locals.size = c.maxLocals) (hdg : decode c.code g.pc = .ok (ig, len))
    (hW : 2 * g.monitorRoom + (g.stack.map fun v => v.category).sum ≤ Wt) (hn : U.methodNamed? y = some mk) (hcs : cells + 1 ≤ R.cells ∧ slots + 6 ≤ R.slots) (hP : Pc a U) :
    ∃ (x : Addr) (T' : State), Stand p l e R s m args below meth c T' (locs ++ []) (cells + 1) (slots + 6) ∧ U.heap.size ≤ x ∧ (∃ ce : Cell, T'.heap[x]? = some ce ∧ ce.vm = .none ∧ U.vm.findClass nIA = some ce.cls) ∧ U.heap.size ≤ T'.heap.size ∧ (∀ (q : Nat) (cell : Cell), U.heap[q]? = some cell → T'.heap[q]? = some cell) ∧
      Steps p.tables e below (doInvoke e (U.setTop g) [] mk a).1 ((T'.setTop g).pushFrame (.throwing x)) := by
  have h2 := hws _ hcode a U X.warmed
  have h3 := hinit a U X.warmed
  obtain ⟨methY, cY, hmY, hcY, -, hlY, -⟩ := Cond.code_spec hn h2
  obtain ⟨kY, hkY, -⟩ := className_of_methodNamed hn
  have hinitY : kY.init = .initialized := Cond.initialized_spec (findClass_of_methodNamed hn) hkY h3
  have h : At U g.method c below := by rw [hg]; exact X.here
  have happ : (headSpec ws rm).appliesLoose y e.platform (U.calling g mk a) = true :=
    Spec.appliesLoose_calling (g := g) h hdg hn hkY hinitY
      (X.room_calling (g := g) (R' := (headSpec ws rm).room) hsize hmY hcY hframes (by rw [hlY]; show _ + rm.locals ≤ _; omega) (by show cells + rm.cells ≤ _; omega) (by show slots + rm.slots ≤ _; omega)) (atoms_intro fun w hw => hws w hw _ _ X.warmed)
  obtain ⟨mid, hmid⟩ := h.above
  have hfr : (U.setTop g).frames = (.java g :: mid) ++ below := by rw [State.frames_setTop' g h.top, hmid]; rfl
  obtain ⟨o, s₂, hsteps, -, hend, hq⟩ := Steps.callFree hM p X.admits X.cas X.clock (acts := []) hfr happ (hblind _ _ _ _ hP) trivial
  obtain ⟨x, rfl, hx1, ⟨ce, hx2, hx3, hx4⟩, hWx, hsame⟩ := hq
  rw [State.frames_setTop' g h.top, X.tail] at hend
  obtain ⟨T', X', hW', hsm, rfl⟩ := X.outOfThrown hg hend hWx hsame
  have eh : ((T'.setTop g).pushFrame (.throwing x)).heap = T'.heap := Stand.throwing_heap T' g x
  rw [eh] at hx2
  refine ⟨x, T', X', hx1, ⟨ce, hx2, hx3, hx4⟩, hsm.2.1, fun q cell hq => hsm.old_cell hq, hsteps⟩
