/-! calls with a part of the store; methods with handlers; the row of answers -/
theorem sW_ext {sg : Nat → List Bool} {tk : Nat → Nat} {D : va_G} {dA : Nat → ClassId} {cl : List vw_C} {A : Nat → Prop} {H0 H : Heap} {S S' : sS} {locs : List Loc} (h : sW sg tk D dA cl A H0 S H locs) (he : ∀ a, sMk sg tk dA S a = sMk sg tk dA S' a) : sW sg tk D dA cl A H0 S' H locs := by
  obtain ⟨hA, ws, hG, hP, hD, hS⟩ := h
  exact ⟨hA, ws, fun a x => by rw [← he]; exact hG a x, hP, hD, hS⟩
theorem sJ_comm {sg : Nat → List Bool} {tk : Nat → Nat} {dA : Nat → ClassId} {S1 S2 : sS} (hd : sDj S1 S2) (a : Nat) : sMk sg tk dA (sJ S1 S2) a = sMk sg tk dA (sJ S2 S1) a := by
  rw [sMk_J, sMk_J]
  cases h1 : S1.1 a with
  | none =>
    cases h2 : S2.1 a with
    | none => simp [sMk, h1, h2]
    | some k => rfl
  | some k =>
    have h2 := hd a (by rw [h1]; exact fun z => by cases z)
    rw [h2]
theorem sJ_assoc {sg : Nat → List Bool} {tk : Nat → Nat} {dA : Nat → ClassId} (S1 S2 S3 : sS) (a : Nat) : sMk sg tk dA (sJ (sJ S1 S2) S3) a = sMk sg tk dA (sJ S1 (sJ S2 S3)) a := by
  rw [sMk_J (sJ S1 S2) S3, sMk_J S1 (sJ S2 S3), sMk_J S1 S2, sMk_J S2 S3]
  have e : (sJ S1 S2).1 a = match S1.1 a with | some k => some k | none => S2.1 a := rfl
  rw [e]
  cases h1 : S1.1 a with
  | none => rfl
  | some k => rfl
section JROWS
variable {p : Program} {l : Launch} {e : Env} {Rm : Room} {s : State} {m : MethodId} {args : Array Value} {below : List Frame} {meth : Method} {c : Code} {H : Heap} {locs : List Loc} {cells slots : Nat} {Q : State → Prop}
variable {pc : Nat} {ls : Array Slot} {rest st0 : List Value} {D : va_G} {cl : List vw_C} {A : Nat → Prop} {H0 : Heap} {sg : Nat → List Bool} {tk : Nat → Nat} {dA : Nat → ClassId} {S1 S2 : sS} {mc ms : Nat} {a : Array Value}
theorem s_calliJ {post : Int32 → sS → Prop} (hr : va_Run p l e Rm s m args below meth c H locs cells slots mc ms (F0 m pc ls st0) rest (va_Qi post (sB sg tk D dA cl S1 H.size) (sA S1 H.size) a) (sA S1 H.size)) (hM : sW sg tk D dA cl A H0 (sJ S1 S2) H locs) (hd : sDj S1 S2)
    (kk : ∀ (r : Int32) (u : sS) (H1 : Heap) (locs1 : List Loc), post r u → sW sg tk D dA cl A H0 (sJ u S2) H1 locs1 → sDj u S2 → W p l e Rm s m args below meth c H1 locs1 (cells + mc) (slots + ms) Q (F0 m (pc + 3) ls (.int r :: rest))) : W p l e Rm s m args below meth c H locs cells slots Q (F0 m pc ls st0) := by
  have hf := sJ_free hM
  have hS := hM.2
  obtain ⟨ws, hG, hP, hD, hS⟩ := hS
  refine va_calli hr hS (fun q _ h => hf q h) hf fun r u t H1 locs1 ht hvm hp hB hz hk hS1 => ?_
  obtain ⟨g1, g2⟩ := sJ_post hM hd hB ht hk hS1
  exact kk r u H1 locs1 hp g1 g2
theorem s_callvJ {post : sS → Prop} (hr : va_Run p l e Rm s m args below meth c H locs cells slots mc ms (F0 m pc ls st0) rest (va_Qv post (sB sg tk D dA cl S1 H.size) (sA S1 H.size) a) (sA S1 H.size)) (hM : sW sg tk D dA cl A H0 (sJ S1 S2) H locs) (hd : sDj S1 S2)
    (kk : ∀ (u : sS) (H1 : Heap) (locs1 : List Loc), post u → sW sg tk D dA cl A H0 (sJ u S2) H1 locs1 → sDj u S2 → W p l e Rm s m args below meth c H1 locs1 (cells + mc) (slots + ms) Q (F0 m (pc + 3) ls rest)) : W p l e Rm s m args below meth c H locs cells slots Q (F0 m pc ls st0) := by
  have hf := sJ_free hM
  have hS := hM.2
  obtain ⟨ws, hG, hP, hD, hS⟩ := hS
  refine va_callv hr hS (fun q _ h => hf q h) hf fun u t H1 locs1 ht hvm hp hB hz hk hS1 => ?_
  obtain ⟨g1, g2⟩ := sJ_post hM hd hB ht hk hS1
  exact kk u H1 locs1 hp g1 g2
end JROWS
/-- the row of one long -/
def oS (ob : Nat) (x : Int64) : sS := (fun a => if a = ob then some (.inr (3, 1)) else none, fun _ _ => none, fun _ _ => 0, fun a i => if a = ob ∧ i = 0 then x else 0)
theorem oS_k (ob : Nat) (x : Int64) : (oS ob x).1 ob = some (.inr (3, 1)) := if_pos rfl
theorem oS_dj {S : sS} {ob : Nat} {x : Int64} : sDj S (oS ob x) ↔ S.1 ob = none := by
  constructor
  · intro h
    cases hk : S.1 ob with
    | none => rfl
    | some k =>
      have := h ob (by rw [hk]; exact fun z => by cases z)
      rw [oS_k] at this; cases this
  · intro h a ha
    have : a ≠ ob := fun z => ha (by rw [z]; exact h)
    exact if_neg this
theorem oS_put {sg : Nat → List Bool} {tk : Nat → Nat} {dA : Nat → ClassId} {S : sS} {ob : Nat} {x y : Int64} (hd : sDj S (oS ob x)) (a : Nat) : sMk sg tk dA ((sJ S (oS ob x)).1, (sJ S (oS ob x)).2.1, (sJ S (oS ob x)).2.2.1, up2 (sJ S (oS ob x)).2.2.2 ob 0 y) a = sMk sg tk dA (sJ S (oS ob y)) a := by
  have ho := oS_dj.mp hd
  rw [sMk_J]
  cases h1 : S.1 a with
  | none =>
    have e1 : (sJ S (oS ob x)).1 a = (oS ob x).1 a := by show (match S.1 a with | some k => some k | none => (oS ob x).1 a) = _; rw [h1]
    by_cases e : a = ob
    · subst e
      unfold sMk
      dsimp only
      rw [e1, oS_k, oS_k]
      have e2 : up2 (sJ S (oS a x)).2.2.2 a 0 y a = (oS a y).2.2.2 a := by
        rw [up2_row]
        funext j
        have e3 : (sJ S (oS a x)).2.2.2 a = (oS a x).2.2.2 a := by show (match S.1 a with | some _ => S.2.2.2 a | none => (oS a x).2.2.2 a) = _; rw [h1]
        rw [e3]
        show (if j = 0 then y else (if a = a ∧ j = 0 then x else 0)) = (if a = a ∧ j = 0 then y else 0)
        by_cases q : j = 0
        · rw [if_pos q, if_pos ⟨rfl, q⟩]
        · rw [if_neg q, if_neg (fun z => q z.2), if_neg (fun z => q z.2)]
      have e4 : (sJ S (oS a x)).2.1 a = (oS a y).2.1 a := by show (match S.1 a with | some _ => S.2.1 a | none => (oS a x).2.1 a) = _; rw [h1]; rfl
      have e5 : (sJ S (oS a x)).2.2.1 a = (oS a y).2.2.1 a := by show (match S.1 a with | some _ => S.2.2.1 a | none => (oS a x).2.2.1 a) = _; rw [h1]; rfl
      rw [e2, e4, e5]
    · have e2 : (oS ob x).1 a = none := if_neg e
      have e3 : (oS ob y).1 a = none := if_neg e
      simp [sMk, e1, e2, e3]
  | some k =>
    have hne : a ≠ ob := fun z => by rw [z, ho] at h1; cases h1
    have e1 : (sJ S (oS ob x)).1 a = S.1 a := by show (match S.1 a with | some k => some k | none => (oS ob x).1 a) = _; rw [h1]
    have e2 : (sJ S (oS ob x)).2.1 a = S.2.1 a := by show (match S.1 a with | some _ => S.2.1 a | none => (oS ob x).2.1 a) = _; rw [h1]
    have e3 : (sJ S (oS ob x)).2.2.1 a = S.2.2.1 a := by show (match S.1 a with | some _ => S.2.2.1 a | none => (oS ob x).2.2.1 a) = _; rw [h1]
    have e4 : (sJ S (oS ob x)).2.2.2 a = S.2.2.2 a := by show (match S.1 a with | some _ => S.2.2.2 a | none => (oS ob x).2.2.2 a) = _; rw [h1]
    unfold sMk
    dsimp only
    rw [e1, e2, e3, up2_off _ _ hne, e4]
/-- a method with handlers, over the store and with what exceptions ask -/
abbrev SPT (D : va_G) (dA : Nat → ClassId) (S : sS) (sz : Nat) (U : State) : Prop := SP D dA S sz U ∧ sTh U
theorem SPT_blind {D : va_G} {dA : Nat → ClassId} {S : sS} {sz : Nat} {av : List Value} : FrameBlind (va_Pc av (SPT D dA S sz)) :=
  fun a U g mk q => by
    obtain ⟨q0, q1, q2⟩ := q
    have := sP_blind (av := av) a U g mk ⟨q0, q1⟩
    exact ⟨q0, this.2, sTh_same (s := U) (U := U.calling g mk a) rfl rfl q2⟩
theorem s_metW {l : Launch} {D : va_G} {dA : Nat → ClassId} {S : sS} {sz : Nat} {y : MethodName} {ws ws' : List Cond} {rm : Room} {Qc : Array Value → State → Outcome → State → Prop} {mc ms : Nat} {cc : ByteArray} {maxL : Nat} {ret : Option FieldType} {av : List Value} {hh : List (Nat × Nat × Nat × Nat)}
    (hy : plainName y.cls = true) (hw : ws = Cond.codeWith y cc maxL ret hh :: ws') (hav : ∀ v ∈ av, v.category = 1) (hlen : (lg_sl av).length ≤ maxL)
    (body : ∀ (p : Program) (e : Env) (s : State) (m : MethodId) (args : Array Value) (below : List Frame) (meth : Method) (c : Code) (ls : Array Slot), p.tables.exec = Jvm.exec → c.code = cc → meth.sig.returnType = ret → (∀ w ∈ ws, w.before args s = true) → s.vm.findClass y.cls = some m.cls → meth.locks = false → c.maxLocals = maxL → c.exceptionTable.toList.map (fun h => (h.startPc, h.endPc, h.handlerPc, h.catchType)) = hh → va_K D cls (tys dA) s → sKx s → sTh s → s.heap.size = sz → SW D dA (sA S sz) s.heap S s.heap [] → lc ls maxL (av.map some ++ List.replicate (maxL - av.length) none) →
      W p l e rm s m args below meth c s.heap [] 0 0 (MQ below Qc args s mc ms (sA S sz)) (F0 m 0 ls [])) :
    Met l y ws rm (va_Pc av (SPT D dA S sz)) Qc mc ms (sA S sz) := by
  refine va_MetW (cc := cc) (maxL := maxL) (ret := ret) (hh := hh) hy hw ?_
  intro p e s m args below meth c s₁ B hml hv
  obtain ⟨rfl, hv, hT⟩ := hv
  have hts := atoms_spec (ws := ws) B.pre
  have hl := lv_entry av (n := maxL) hlen
  rw [lg_entry_eq]
  generalize (lg_sl av ++ List.replicate (maxL - (lg_sl av).length) Slot.unset).toArray = ls at hl ⊢
  obtain ⟨m9, meth9, c9, hn9, hm9, hc9, -, -, htab, -⟩ := Cond.codeWith_spec (hts _ (by rw [hw]; exact List.mem_cons_self))
  cases B.named.symm.trans hn9
  cases B.method.symm.trans hm9
  cases (Stand.of_body B).code.symm.trans hc9
  exact body p e s m _ below meth c ls B.exec B.bytes B.returns hts (findClass_of_methodNamed B.named) B.notSynchronized hml htab hv.2.2.1 hv.2.2.2 hT hv.1 (sW_start hv) (lc_entry hl hav _)
section RSW
variable {p : Program} {l : Launch} {e : Env} {Rm : Room} {s : State} {m : MethodId} {args : Array Value} {below : List Frame} {meth : Method} {c : Code} {H : Heap} {locs : List Loc} {cells slots : Nat}
variable {cc : ByteArray} {pc nL : Nat} {ls : Array Slot} {rest st0 : List Value} {S : sS} {D : va_G} {dA : Nat → ClassId}
variable {own : String} {idx n mc ms : Nat} {y : MethodName} {b : ByteArray} {r : Option FieldType} {rm : Room} {Qc : Array Value → State → Outcome → State → Prop} {hh : List (Nat × Nat × Nat × Nat)}
theorem r_SW (nA : Nat) (As : List Value) (hA : As.length = nA) (hx : p.tables.exec = Jvm.exec) (hb : c.code = cc) (hml : c.maxLocals = nL) (hown : s.vm.findClass own = some m.cls) (hg : ∀ w ∈ gd, w.before args s = true)
    (hC : Met l y (.codeWith y b n r hh :: gd) rm (va_Pc As (SPT D dA S H.size)) Qc mc ms (sA S H.size))
    (hpre : ∀ U : State, U.heap = H → s.WarmedH U.vm → va_Pc As (SPT D dA S H.size) As.toArray U)
    (w1 : Cond.methodLink own idx y ∈ gd) (w2 : Cond.static y ∈ gd) (w4 : Cond.initialized y.cls ∈ gd) (w5 : Cond.codeWith y b n r hh ∈ gd)
    (hd : y.cls ≠ "java/lang/invoke/MethodHandle" ∧ y.cls ≠ "java/lang/invoke/VarHandle" ∧ (parseMethodDescriptor y.desc).map (fun d => d.parameters.length) = some nA)
    (hR : rm.frames + 1 ≤ Rm.frames ∧ 8 + (n + 11) + rm.locals ≤ Rm.locals) (hrc : rm.cells = mc) (hrs : rm.slots = ms) (hl : ls.size = nL) (hroom : (rest.map fun v => v.category).sum ≤ 8)
    (hdg : decode cc pc = .ok (.invokestatic idx, 3)) (hcs : cells + mc ≤ Rm.cells ∧ slots + ms ≤ Rm.slots) (hst : st0 = As.reverse ++ rest) :
    va_Run p l e Rm s m args below meth c H locs cells slots mc ms (F0 m pc ls st0) rest (Qc As.toArray) (sA S H.size) := by
  subst hst
  have good : ∀ w ∈ gd, ∀ a' U, s.WarmedH U.vm → w.before a' U = true := fun w hw a' U hWU => word_at hWU (gd_good hw) (hg w hw)
  have hK : Back l Rm p e below s args y 3 8 (PreOf Rm mc ms (va_Pc As (SPT D dA S H.size))) (PostOf Qc mc ms (sA S H.size)) := va_backW (hh := hh) (bytes := b) (maxL := n) (ret := r) hC SPT_blind hrc hrs hR.1 hR.2 (fun w hw a' U hWU => by
    rcases List.mem_cons.mp hw with z | z
    · rw [z]; exact good _ w5 a' U hWU
    · exact good w z a' U hWU) List.mem_cons_self (fun a' U hWU => good _ w4 a' U hWU)
  intro T hT X
  obtain ⟨mk, methM, cM, hnamed, hmethM, -, -, -, -, -, -, hsigM⟩ := Cond.codeWith_spec (hg _ w5)
  have hstatic : methM.isStatic = true := Cond.static_spec hnamed hmethM (hg _ w2)
  obtain ⟨kP, hkP, -⟩ := className_of_methodNamed hnamed
  have hinitP : kP.init = .initialized := Cond.initialized_spec (findClass_of_methodNamed hnamed) hkP (hg _ w4)
  have hlen : As.length = methM.sig.parameters.length := by
    have h2 := hd.2.2
    rw [hsigM] at h2
    rw [hA]; exact (Option.some.inj h2).symm
  obtain ⟨vm₁, X₁, hstep₁⟩ := X.invokestatic hx hown (hg _ w1) hnamed hmethM hstatic hkP hinitP ⟨hd.1, hd.2.1⟩ (g := F0 m pc ls (As.reverse ++ rest)) rfl (argsL := As) (rest := rest) hlen rfl (by rw [hb]; exact hdg)
  obtain ⟨v, ⟨U', l2, c2, s2⟩, X', ⟨g', mk', t, L, e1, e2, hq, h1, hL, h2, h3⟩, hsteps⟩ := hK m meth c ⟨T.setVm vm₁, locs, cells, slots⟩ (F0 m pc ls rest) (.invokestatic idx) mk As.toArray X₁ rfl (by rw [hml]; exact hl) (by rw [hb]; exact hdg) (lv_room hroom) (X₁.named hnamed) ⟨hcs.1, hcs.2, hpre (T.setVm vm₁) hT X₁.warmed⟩
  dsimp only [Pt.U, Pt.locs, Pt.cells, Pt.slots] at X' e1 e2 h1 h2 h3 hsteps
  subst h1; subst h2; subst h3
  exact ⟨v, (T.setVm vm₁).calling g' mk' As.toArray, t, U', L, hT, X', hL, e1, e2, hq, fun target h => hstep₁ _ fun acts => by rw [doInvoke_state]; exact hsteps.trans h⟩
end RSW
