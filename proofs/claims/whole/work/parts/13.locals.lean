/-! the locals as a row of values by their places; all of one slot -/
def lc (ls : Array Slot) (n : Nat) (vs : List (Option Value)) : Prop := lv_has ls n [] ∧ ∀ (i : Nat) (v : Value), vs[i]? = some (some v) → v.category = 1 ∧ ls[i]? = some (.val v)
def lvOf (vs : List (Option Value)) : List (Nat × Value) := (List.range vs.length).filterMap (fun i => (vs[i]?).join.map (fun v => (i, v)))
theorem lvOf_mem {vs : List (Option Value)} {q : Nat × Value} : q ∈ lvOf vs ↔ vs[q.1]? = some (some q.2) := by
  obtain ⟨i, v⟩ := q
  simp only [lvOf, List.mem_filterMap, List.mem_range]
  constructor
  · rintro ⟨j, hj, h⟩
    cases hv : vs[j]? with
    | none => rw [hv] at h; simp at h
    | some o => cases o with
      | none => rw [hv] at h; simp at h
      | some w =>
        rw [hv] at h
        have h2 : (j, w) = (i, v) := by simpa using h
        have e1 : j = i := congrArg Prod.fst h2
        have e2 : w = v := congrArg Prod.snd h2
        subst e1; subst e2
        exact hv
  · intro h
    exact ⟨i, (List.getElem?_eq_some_iff.mp h).1, by rw [h]; rfl⟩
theorem lc.has {ls : Array Slot} {n : Nat} {vs : List (Option Value)} (h : lc ls n vs) : lv_has ls n (lvOf vs) := ⟨h.1.1, h.1.2.1, fun q hq => (h.2 q.1 q.2 (lvOf_mem.mp hq)).2⟩
theorem lc.sz {ls : Array Slot} {n : Nat} {vs : List (Option Value)} (h : lc ls n vs) : ls.size = n := h.1.1
theorem lc.at {ls : Array Slot} {n : Nat} {vs : List (Option Value)} (h : lc ls n vs) {i : Nat} {v : Value} (hv : vs[i]? = some (some v)) : ls[i]? = some (.val v) := (h.2 i v hv).2
theorem lc.weak {ls : Array Slot} {n : Nat} {vs vs' : List (Option Value)} (h : lc ls n vs) (hv : ∀ (i : Nat) (v : Value), vs'[i]? = some (some v) → vs[i]? = some (some v)) : lc ls n vs' := ⟨h.1, fun i v hi => h.2 i v (hv i v hi)⟩
theorem lc_put {ls' : Array Slot} {n i : Nat} {vs : List (Option Value)} {v : Value} {ls : Array Slot} (h : lc ls n vs) (hc : v.category = 1) (h' : lv_has ls' n ((i, v) :: (lvOf vs).filter (fun q => !(q.1 == i) && !(q.1 + 1 == i && q.2.category == 2)))) : lc ls' n (vs.set i (some v)) := by
  refine ⟨⟨h'.1, h'.2.1, fun q hq => by cases hq⟩, fun j w hj => ?_⟩
  by_cases e : j = i
  · subst e
    have hl : j < (vs.set j (some v)).length := (List.getElem?_eq_some_iff.mp hj).1
    rw [List.length_set] at hl
    rw [List.getElem?_set_self hl] at hj
    have hw : v = w := Option.some.inj (Option.some.inj hj)
    subst hw
    exact ⟨hc, h'.2.2 (j, v) List.mem_cons_self⟩
  · rw [List.getElem?_set_ne (fun q => e q.symm)] at hj
    obtain ⟨h1, h2⟩ := h.2 j w hj
    refine ⟨h1, h'.2.2 (j, w) (List.mem_cons_of_mem _ (List.mem_filter.mpr ⟨lvOf_mem.mpr hj, ?_⟩))⟩
    simp [e, h1]
theorem lv_args1 : ∀ (av : List Value) (k : Nat), (∀ v ∈ av, v.category = 1) → ∀ (i : Nat) (v : Value), av[i]? = some v → (k + i, v) ∈ lv_args k av
  | [], k, _, i, v, h => by simp at h
  | w :: av, k, hc, 0, v, h => by
    have e : w = v := by simpa using h
    subst e
    exact List.mem_cons_self
  | w :: av, k, hc, i + 1, v, h => by
    have h1 : w.category = 1 := hc w List.mem_cons_self
    have h2 : av[i]? = some v := by simpa using h
    have := lv_args1 av (k + 1) (fun z hz => hc z (List.mem_cons_of_mem _ hz)) i v h2
    rw [lv_args, if_neg (by omega)]
    refine List.mem_cons_of_mem _ ?_
    rw [show k + (i + 1) = k + 1 + i by omega]
    exact this
theorem lc_entry {ls : Array Slot} {n : Nat} {av : List Value} (h : lv_has ls n (lv_args 0 av)) (hc : ∀ v ∈ av, v.category = 1) (k : Nat) : lc ls n (av.map some ++ List.replicate k none) := by
  refine ⟨⟨h.1, h.2.1, fun q hq => by cases hq⟩, fun i v hi => ?_⟩
  by_cases hl : i < av.length
  · rw [List.getElem?_append_left (by simpa using hl), List.getElem?_map] at hi
    have hv : av[i]? = some v := by
      cases hz : av[i]? with
      | none => rw [hz] at hi; simp at hi
      | some w => rw [hz] at hi; have := Option.some.inj (Option.some.inj hi); rw [this]
    have hm := lv_args1 av 0 hc i v hv
    rw [Nat.zero_add] at hm
    exact ⟨hc v (List.mem_of_getElem? hv), h.2.2 (i, v) hm⟩
  · rw [List.getElem?_append_right (by simpa using hl)] at hi
    have := List.mem_of_getElem? hi
    have h2 := (List.mem_replicate.mp this).2
    cases h2
section LCROWS
variable {p : Program} {l : Launch} {e : Env} {Rm : Room} {s : State} {m : MethodId} {args : Array Value} {below : List Frame} {meth : Method} {c : Code} {H : Heap} {locs : List Loc} {cells slots : Nat} {Q : State → Prop}
variable {cc : ByteArray} {pc : Nat} {ls : Array Slot} {rest : List Value} {n : Nat} {vs : List (Option Value)}
theorem q_istore_n (hexec : p.tables.exec = Jvm.exec) (hb : c.code = cc) {k : Fin 4} {i : Nat} {x : Int32} (hdg : decode cc pc = .ok (.istore_n k, 1)) (hi : (k : Nat) = i) (h : lc ls n vs) (hn : i < n)
    (kk : ∀ ls' : Array Slot, lc ls' n (vs.set i (some (.int x))) → W p l e Rm s m args below meth c H locs cells slots Q (F0 m (pc + 1) ls' rest)) : W p l e Rm s m args below meth c H locs cells slots Q (F0 m pc ls (.int x :: rest)) :=
  lv_istore_n hexec hb hdg hi h.has hn rfl (fun ls' h' => kk ls' (lc_put h rfl h'))
theorem q_istore (hexec : p.tables.exec = Jvm.exec) (hb : c.code = cc) {i : Nat} {x : Int32} (hdg : decode cc pc = .ok (.istore i, 2)) (h : lc ls n vs) (hn : i < n)
    (kk : ∀ ls' : Array Slot, lc ls' n (vs.set i (some (.int x))) → W p l e Rm s m args below meth c H locs cells slots Q (F0 m (pc + 2) ls' rest)) : W p l e Rm s m args below meth c H locs cells slots Q (F0 m pc ls (.int x :: rest)) :=
  lv_istore hexec hb hdg h.has hn rfl (fun ls' h' => kk ls' (lc_put h rfl h'))
theorem q_astore_n (hexec : p.tables.exec = Jvm.exec) (hb : c.code = cc) {k : Fin 4} {i : Nat} (x : Option Nat) (hdg : decode cc pc = .ok (.astore_n k, 1)) (hi : (k : Nat) = i) (h : lc ls n vs) (hn : i < n)
    (kk : ∀ ls' : Array Slot, lc ls' n (vs.set i (some (va_rf x))) → W p l e Rm s m args below meth c H locs cells slots Q (F0 m (pc + 1) ls' rest)) : W p l e Rm s m args below meth c H locs cells slots Q (F0 m pc ls (va_rf x :: rest)) := by
  cases x with
  | none => exact lv_astore_nN hexec hb hdg hi h.has hn rfl (fun ls' h' => kk ls' (lc_put h rfl h'))
  | some y => exact lv_astore_n hexec hb hdg hi h.has hn rfl (fun ls' h' => kk ls' (lc_put h rfl h'))
theorem q_astore (hexec : p.tables.exec = Jvm.exec) (hb : c.code = cc) {i : Nat} (x : Option Nat) (hdg : decode cc pc = .ok (.astore i, 2)) (h : lc ls n vs) (hn : i < n)
    (kk : ∀ ls' : Array Slot, lc ls' n (vs.set i (some (va_rf x))) → W p l e Rm s m args below meth c H locs cells slots Q (F0 m (pc + 2) ls' rest)) : W p l e Rm s m args below meth c H locs cells slots Q (F0 m pc ls (va_rf x :: rest)) := by
  cases x with
  | none => exact lv_astoreN hexec hb hdg h.has hn rfl (fun ls' h' => kk ls' (lc_put h rfl h'))
  | some y => exact lv_astore hexec hb hdg h.has hn rfl (fun ls' h' => kk ls' (lc_put h rfl h'))
theorem q_iinc (hexec : p.tables.exec = Jvm.exec) (hb : c.code = cc) {i : Nat} {d : Int} {x : Int32} (v : Int32) (hdg : decode cc pc = .ok (.iinc i d, 3)) (h : lc ls n vs) (hk : vs[i]? = some (some (.int x))) (hv : x + Int32.ofInt d = v) (hn : i < n)
    (kk : ∀ ls' : Array Slot, lc ls' n (vs.set i (some (.int v))) → W p l e Rm s m args below meth c H locs cells slots Q (F0 m (pc + 3) ls' rest)) : W p l e Rm s m args below meth c H locs cells slots Q (F0 m pc ls rest) := by
  obtain ⟨q, hq⟩ := List.getElem?_of_mem (lvOf_mem.mpr hk : ((i, Value.int x) : Nat × Value) ∈ lvOf vs)
  exact lv_iinc hexec hb hdg h.has hq hv hn rfl (fun ls' h' => kk ls' (lc_put h rfl h'))
theorem q_iload_n (hexec : p.tables.exec = Jvm.exec) (hb : c.code = cc) {k : Fin 4} {i : Nat} {x : Int32} (hdg : decode cc pc = .ok (.iload_n k, 1)) (hi : (k : Nat) = i) (h : lc ls n vs) (hv : vs[i]? = some (some (.int x)))
    (kk : W p l e Rm s m args below meth c H locs cells slots Q (F0 m (pc + 1) ls (.int x :: rest))) : W p l e Rm s m args below meth c H locs cells slots Q (F0 m pc ls rest) :=
  lv_iload_n hexec hb hdg hi (h.at hv) kk
theorem q_iload (hexec : p.tables.exec = Jvm.exec) (hb : c.code = cc) {i : Nat} {x : Int32} (hdg : decode cc pc = .ok (.iload i, 2)) (h : lc ls n vs) (hv : vs[i]? = some (some (.int x)))
    (kk : W p l e Rm s m args below meth c H locs cells slots Q (F0 m (pc + 2) ls (.int x :: rest))) : W p l e Rm s m args below meth c H locs cells slots Q (F0 m pc ls rest) :=
  lv_iload hexec hb hdg (h.at hv) kk
theorem q_al_n (hexec : p.tables.exec = Jvm.exec) (hb : c.code = cc) {k : Fin 4} {i : Nat} {x : Option Nat} (hdg : decode cc pc = .ok (.aload_n k, 1)) (hi : (k : Nat) = i) (h : lc ls n vs) (hv : vs[i]? = some (some (va_rf x)))
    (kk : W p l e Rm s m args below meth c H locs cells slots Q (F0 m (pc + 1) ls (va_rf x :: rest))) : W p l e Rm s m args below meth c H locs cells slots Q (F0 m pc ls rest) :=
  q_aload_n hexec hb hdg hi (h.at hv) kk
theorem q_al (hexec : p.tables.exec = Jvm.exec) (hb : c.code = cc) {i : Nat} {x : Option Nat} (hdg : decode cc pc = .ok (.aload i, 2)) (h : lc ls n vs) (hv : vs[i]? = some (some (va_rf x)))
    (kk : W p l e Rm s m args below meth c H locs cells slots Q (F0 m (pc + 2) ls (va_rf x :: rest))) : W p l e Rm s m args below meth c H locs cells slots Q (F0 m pc ls rest) :=
  q_aload hexec hb hdg (h.at hv) kk
end LCROWS
/-- a contract over the store out of the walk of its body -/
theorem s_met {l : Launch} {sg : Nat → List Bool} {tk : Nat → Nat} {D : va_G} {dA : Nat → ClassId} {cl : List vw_C} {tys : List (ClassId × FieldType)} {S : sS} {sz : Nat} {y : MethodName} {ws ws' : List Cond} {rm : Room} {Qc : Array Value → State → Outcome → State → Prop} {mc ms : Nat} {cc : ByteArray} {maxL : Nat} {ret : Option FieldType} {av : List Value}
    (hy : plainName y.cls = true) (hw : ws = Cond.code y cc maxL ret :: ws') (hav : ∀ v ∈ av, v.category = 1) (hlen : (lg_sl av).length ≤ maxL)
    (body : ∀ (p : Program) (e : Env) (s : State) (m : MethodId) (args : Array Value) (below : List Frame) (meth : Method) (c : Code) (ls : Array Slot), p.tables.exec = Jvm.exec → c.code = cc → meth.sig.returnType = ret → (∀ w ∈ ws, w.before args s = true) → s.vm.findClass y.cls = some m.cls → meth.locks = false → meth.name = y.name → c.maxLocals = maxL → va_K D cl tys s → sKx s → s.heap.size = sz → sW sg tk D dA cl (sA S sz) s.heap S s.heap [] → lc ls maxL (av.map some ++ List.replicate (maxL - av.length) none) →
      W p l e rm s m args below meth c s.heap [] 0 0 (MQ below Qc args s mc ms (sA S sz)) (F0 m 0 ls [])) :
    Met l y ws rm (va_Pc av (sP sg tk D dA cl tys S sz)) Qc mc ms (sA S sz) := by
  refine Met.ofW (cc := cc) (maxL := maxL) (ret := ret) hy hw ?_
  intro p e s m args below meth c s₁ B hml hv
  obtain ⟨rfl, hv⟩ := hv
  have hl := lv_entry av (n := maxL) hlen
  rw [lg_entry_eq]
  generalize (lg_sl av ++ List.replicate (maxL - (lg_sl av).length) Slot.unset).toArray = ls at hl ⊢
  exact body p e s m _ below meth c ls B.exec B.bytes B.returns (atoms_spec (ws := ws) B.pre) (findClass_of_methodNamed B.named) B.notSynchronized (name_of_methodNamed B.named B.method).1 hml hv.2.2.1 hv.2.2.2 hv.1 (sW_start hv) (lc_entry hl hav _)
