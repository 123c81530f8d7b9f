/-! calls: every method has its own code's word and all the good words; a room by levels -/
abbrev rmk (f c s : Nat) : Room := { frames := f, cells := c, slots := s, locals := 26 * f + 40 }
abbrev SW (D : va_G) (dA : Nat → ClassId) (A : Nat → Prop) (H0 : Heap) (S : sS) (H : Heap) (locs : List Loc) : Prop := sW sg tk D dA cls A H0 S H locs
abbrev SP (D : va_G) (dA : Nat → ClassId) (S : sS) (sz : Nat) : State → Prop := sP sg tk D dA cls (tys dA) S sz
abbrev SB (D : va_G) (dA : Nat → ClassId) (S : sS) (sz : Nat) : sS → State → Prop := sB sg tk D dA cls S sz
/-- contracts: an int, nothing, a reference comes back -/
abbrev cI (l : Launch) (y : MethodName) (b : ByteArray) (n : Nat) (r : Option FieldType) (rm : Room) (D : va_G) (dA : Nat → ClassId) (S : sS) (sz : Nat) (av : List Value) (post : Int32 → sS → Prop) (mc ms : Nat) : Prop := Met l y (.code y b n r :: gd) rm (va_Pc av (SP D dA S sz)) (va_Qi post (SB D dA S sz) (sA S sz)) mc ms (sA S sz)
abbrev cV (l : Launch) (y : MethodName) (b : ByteArray) (n : Nat) (rm : Room) (D : va_G) (dA : Nat → ClassId) (S : sS) (sz : Nat) (av : List Value) (post : sS → Prop) (mc ms : Nat) : Prop := Met l y (.code y b n none :: gd) rm (va_Pc av (SP D dA S sz)) (va_Qv post (SB D dA S sz) (sA S sz)) mc ms (sA S sz)
abbrev cQ (l : Launch) (y : MethodName) (b : ByteArray) (n : Nat) (r : Option FieldType) (rm : Room) (D : va_G) (dA : Nat → ClassId) (S : sS) (sz : Nat) (av : List Value) (post : Option Nat → sS → Prop) (mc ms : Nat) : Prop := Met l y (.code y b n r :: gd) rm (va_Pc av (SP D dA S sz)) (va_Qq post (SB D dA S sz) (sA S sz)) mc ms (sA S sz)
theorem gd_good {w : Cond} (h : w ∈ gd) : (w.onTables && w.keeps) = true ∨ ∃ ty, w = .arrayClass ty := good_of_word (List.mem_filter.mp h).2
theorem gd_all {y : MethodName} {b : ByteArray} {n : Nat} {r : Option FieldType} (h : Cond.code y b n r ∈ gd) : GoodIn gd (.code y b n r :: gd) := fun w hw => by
  rcases List.mem_cons.mp hw with e | e
  · rw [e]; exact ⟨h, gd_good h⟩
  · exact ⟨e, gd_good e⟩
theorem gd_hts {y : MethodName} {b : ByteArray} {n : Nat} {r : Option FieldType} {args : Array Value} {s : State} (h : ∀ w ∈ (Cond.code y b n r :: gd), w.before args s = true) : ∀ w ∈ gd, w.before args s = true := fun w hw => h w (List.mem_cons_of_mem _ hw)
section RUNS
variable {p : Program} {l : Launch} {e : Env} {Rm : Room} {s : State} {m : MethodId} {args : Array Value} {below : List Frame} {meth : Method} {c : Code} {H : Heap} {locs : List Loc} {cells slots : Nat}
variable {cc : ByteArray} {pc nL : Nat} {ls : Array Slot} {rest st0 : List Value} {S : sS} {D : va_G} {dA : Nat → ClassId}
variable {own : String} {idx n mc ms : Nat} {y : MethodName} {b : ByteArray} {r : Option FieldType} {rm : Room} {Qc : Array Value → State → Outcome → State → Prop}
theorem r_V {a : Nat} (nA : Nat) (As : List Value) (hA : As.length = nA) (hx : p.tables.exec = Jvm.exec) (hb : c.code = cc) (hml : c.maxLocals = nL) (hown : s.vm.findClass own = some m.cls) (hg : ∀ w ∈ gd, w.before args s = true)
    (hC : Met l y (.code y b n r :: gd) rm (va_Pc (.ref a :: As) (SP D dA S H.size)) Qc mc ms (sA S H.size))
    (hpre : ∀ U : State, U.heap = H → s.WarmedH U.vm → va_Pc (.ref a :: As) (SP D dA S H.size) (Value.ref a :: As).toArray U)
    (hrecv : ∃ cell : Cell, H[a]? = some cell ∧ cell.vm.isStatics = false ∧ s.vm.findClass y.cls = some cell.cls)
    (w1 : Cond.methodLink own idx y ∈ gd) (w2 : Cond.instanceMethod y ∈ gd) (w3 : Cond.selects y.cls y y ∈ gd) (w4 : Cond.initialized y.cls ∈ gd) (w5 : Cond.code y b n r ∈ gd)
    (hd : y.cls ≠ "java/lang/invoke/MethodHandle" ∧ y.cls ≠ "java/lang/invoke/VarHandle" ∧ (parseMethodDescriptor y.desc).map (fun d => d.parameters.length) = some nA)
    (hR : rm.frames + 1 ≤ Rm.frames ∧ 8 + (n + 11) + rm.locals ≤ Rm.locals) (hrc : rm.cells = mc) (hrs : rm.slots = ms) (hl : ls.size = nL) (hroom : (rest.map fun v => v.category).sum ≤ 8)
    (hdg : decode cc pc = .ok (.invokevirtual idx, 3)) (hcs : cells + mc ≤ Rm.cells ∧ slots + ms ≤ Rm.slots) (hst : st0 = As.reverse ++ .ref a :: rest) :
    va_Run p l e Rm s m args below meth c H locs cells slots mc ms (F0 m pc ls st0) rest (Qc (Value.ref a :: As).toArray) (sA S H.size) := by
  subst hst
  refine va_runV (Ts := gd) (C := y.cls) (n := nA) ⟨hx, hb, hml, hown, hg⟩ hC (cwV nA hg ?_ rfl hrc hrs ⟨rfl, hd⟩ hR) ⟨sP_blind, hrecv, hpre⟩ rfl hA hl rfl (lv_room hroom) hdg hcs
  intro w hw
  rcases List.mem_append.mp hw with h | h
  · simp only [List.mem_cons, List.not_mem_nil, or_false] at h
    rcases h with rfl | rfl | rfl | rfl
    · exact ⟨w1, gd_good w1⟩
    · exact ⟨w2, gd_good w2⟩
    · exact ⟨w3, gd_good w3⟩
    · exact ⟨w4, gd_good w4⟩
  · exact gd_all w5 w h
theorem r_S (nA : Nat) (As : List Value) (hA : As.length = nA) (hx : p.tables.exec = Jvm.exec) (hb : c.code = cc) (hml : c.maxLocals = nL) (hown : s.vm.findClass own = some m.cls) (hg : ∀ w ∈ gd, w.before args s = true)
    (hC : Met l y (.code y b n r :: gd) rm (va_Pc As (SP D dA S H.size)) Qc mc ms (sA S H.size))
    (hpre : ∀ U : State, U.heap = H → s.WarmedH U.vm → va_Pc As (SP D dA S H.size) As.toArray U)
    (w1 : Cond.methodLink own idx y ∈ gd) (w2 : Cond.static y ∈ gd) (w4 : Cond.initialized y.cls ∈ gd) (w5 : Cond.code y b n r ∈ gd)
    (hd : y.cls ≠ "java/lang/invoke/MethodHandle" ∧ y.cls ≠ "java/lang/invoke/VarHandle" ∧ (parseMethodDescriptor y.desc).map (fun d => d.parameters.length) = some nA)
    (hR : rm.frames + 1 ≤ Rm.frames ∧ 8 + (n + 11) + rm.locals ≤ Rm.locals) (hrc : rm.cells = mc) (hrs : rm.slots = ms) (hl : ls.size = nL) (hroom : (rest.map fun v => v.category).sum ≤ 8)
    (hdg : decode cc pc = .ok (.invokestatic idx, 3)) (hcs : cells + mc ≤ Rm.cells ∧ slots + ms ≤ Rm.slots) (hst : st0 = As.reverse ++ rest) :
    va_Run p l e Rm s m args below meth c H locs cells slots mc ms (F0 m pc ls st0) rest (Qc As.toArray) (sA S H.size) := by
  subst hst
  refine va_runS (Ts := gd) (n := nA) ⟨hx, hb, hml, hown, hg⟩ hC (va_cwS nA hg ?_ rfl hrc hrs hd hR) ⟨sP_blind, hpre⟩ rfl hA hl rfl (lv_room hroom) hdg hcs
  intro w hw
  rcases List.mem_append.mp hw with h | h
  · simp only [List.mem_cons, List.not_mem_nil, or_false] at h
    rcases h with rfl | rfl | rfl
    · exact ⟨w1, gd_good w1⟩
    · exact ⟨w2, gd_good w2⟩
    · exact ⟨w4, gd_good w4⟩
  · exact gd_all w5 w h
theorem r_I {a : Nat} (nA : Nat) (As : List Value) (hA : As.length = nA) (hx : p.tables.exec = Jvm.exec) (hb : c.code = cc) (hml : c.maxLocals = nL) (hown : s.vm.findClass own = some m.cls) (hg : ∀ w ∈ gd, w.before args s = true)
    (hC : Met l y (.code y b n none :: gd) rm (va_Pc (.ref a :: As) (SP D dA S H.size)) Qc mc ms (sA S H.size))
    (hpre : ∀ U : State, U.heap = H → s.WarmedH U.vm → va_Pc (.ref a :: As) (SP D dA S H.size) (Value.ref a :: As).toArray U) (hy1 : y.name = "<init>")
    (w1 : Cond.methodLink own idx y ∈ gd) (w2 : Cond.instanceMethod y ∈ gd) (w4 : Cond.initialized y.cls ∈ gd) (w5 : Cond.code y b n none ∈ gd)
    (hd : y.cls ≠ "java/lang/invoke/MethodHandle" ∧ y.cls ≠ "java/lang/invoke/VarHandle" ∧ (parseMethodDescriptor y.desc).map (fun d => d.parameters.length) = some nA)
    (hR : rm.frames + 1 ≤ Rm.frames ∧ 8 + (n + 11) + rm.locals ≤ Rm.locals) (hrc : rm.cells = mc) (hrs : rm.slots = ms) (hl : ls.size = nL) (hroom : (rest.map fun v => v.category).sum ≤ 8)
    (hdg : decode cc pc = .ok (.invokespecial idx, 3)) (hcs : cells + mc ≤ Rm.cells ∧ slots + ms ≤ Rm.slots) (hst : st0 = As.reverse ++ .ref a :: rest) :
    va_Run p l e Rm s m args below meth c H locs cells slots mc ms (F0 m pc ls st0) rest (Qc (Value.ref a :: As).toArray) (sA S H.size) := by
  subst hst
  exact va_runI (Ts := gd) (n := nA) ⟨hx, hb, hml, hown, hg⟩ hC (cwI nA hg (gd_all w5) rfl hrc hrs (hg _ w4) (hg _ w1) (hg _ w2) hy1 hd hR) ⟨sP_blind, hpre⟩ rfl hA hl rfl (lv_room hroom) hdg hcs
/-- nest mates -/
theorem r_IN {a : Nat} {host : String} (nA : Nat) (As : List Value) (hA : As.length = nA) (hx : p.tables.exec = Jvm.exec) (hb : c.code = cc) (hml : c.maxLocals = nL) (hown : s.vm.findClass own = some m.cls) (hg : ∀ w ∈ gd, w.before args s = true)
    (hC : Met l y (.code y b n none :: gd) rm (va_Pc (.ref a :: As) (SP D dA S H.size)) Qc mc ms (sA S H.size))
    (hpre : ∀ U : State, U.heap = H → s.WarmedH U.vm → va_Pc (.ref a :: As) (SP D dA S H.size) (Value.ref a :: As).toArray U) (hy1 : y.name = "<init>")
    (w1 : va_Nw (.methodLinkNest own idx y host) s) (w2 : Cond.instanceMethod y ∈ gd) (w4 : Cond.initialized y.cls ∈ gd) (w5 : Cond.code y b n none ∈ gd)
    (hd : y.cls ≠ "java/lang/invoke/MethodHandle" ∧ y.cls ≠ "java/lang/invoke/VarHandle" ∧ (parseMethodDescriptor y.desc).map (fun d => d.parameters.length) = some nA)
    (hR : rm.frames + 1 ≤ Rm.frames ∧ 8 + (n + 11) + rm.locals ≤ Rm.locals) (hrc : rm.cells = mc) (hrs : rm.slots = ms) (hl : ls.size = nL) (hroom : (rest.map fun v => v.category).sum ≤ 8)
    (hdg : decode cc pc = .ok (.invokespecial idx, 3)) (hcs : cells + mc ≤ Rm.cells ∧ slots + ms ≤ Rm.slots) (hst : st0 = As.reverse ++ .ref a :: rest) :
    va_Run p l e Rm s m args below meth c H locs cells slots mc ms (F0 m pc ls st0) rest (Qc (Value.ref a :: As).toArray) (sA S H.size) := by
  subst hst
  exact va_runIN (Ts := gd) (n := nA) ⟨hx, hb, hml, hown, hg⟩ hC ⟨va_cnB nA hg (gd_all w5) rfl hrc hrs w1 (hg _ w4) hd hR, hy1, hg _ w2⟩ ⟨sP_blind, hpre⟩ rfl hA hl rfl (lv_room hroom) hdg hcs
theorem r_SN {host : String} (nA : Nat) (As : List Value) (hA : As.length = nA) (hx : p.tables.exec = Jvm.exec) (hb : c.code = cc) (hml : c.maxLocals = nL) (hown : s.vm.findClass own = some m.cls) (hg : ∀ w ∈ gd, w.before args s = true)
    (hC : Met l y (.code y b n r :: gd) rm (va_Pc As (SP D dA S H.size)) Qc mc ms (sA S H.size))
    (hpre : ∀ U : State, U.heap = H → s.WarmedH U.vm → va_Pc As (SP D dA S H.size) As.toArray U)
    (w1 : va_Nw (.methodLinkNest own idx y host) s) (w2 : Cond.static y ∈ gd) (w4 : Cond.initialized y.cls ∈ gd) (w5 : Cond.code y b n r ∈ gd)
    (hd : y.cls ≠ "java/lang/invoke/MethodHandle" ∧ y.cls ≠ "java/lang/invoke/VarHandle" ∧ (parseMethodDescriptor y.desc).map (fun d => d.parameters.length) = some nA)
    (hR : rm.frames + 1 ≤ Rm.frames ∧ 8 + (n + 11) + rm.locals ≤ Rm.locals) (hrc : rm.cells = mc) (hrs : rm.slots = ms) (hl : ls.size = nL) (hroom : (rest.map fun v => v.category).sum ≤ 8)
    (hdg : decode cc pc = .ok (.invokestatic idx, 3)) (hcs : cells + mc ≤ Rm.cells ∧ slots + ms ≤ Rm.slots) (hst : st0 = As.reverse ++ rest) :
    va_Run p l e Rm s m args below meth c H locs cells slots mc ms (F0 m pc ls st0) rest (Qc As.toArray) (sA S H.size) := by
  subst hst
  exact va_runSN (Ts := gd) (n := nA) ⟨hx, hb, hml, hown, hg⟩ hC ⟨va_cnB nA hg (gd_all w5) rfl hrc hrs w1 (hg _ w4) hd hR, hg _ w2, trivial⟩ ⟨sP_blind, hpre⟩ rfl hA hl rfl (lv_room hroom) hdg hcs
end RUNS
