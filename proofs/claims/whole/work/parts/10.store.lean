/-- what the tables say of links among nest mates, and of arrays of references: not among the good words -/
def nst : List (String × Nat × MethodName × String) := [("HangOrder", 9, ⟨"HangOrder$NodeTable", "<init>", "()V"⟩, "HangOrder"), ("HangOrder", 18, ⟨"HangOrder$Numbers", "<init>", "()V"⟩, "HangOrder"), ("HangOrder", 31, ⟨"HangOrder$LeastFirst", "<init>", "()V"⟩, "HangOrder"), ("HangOrder$LeastFirst", 9, ⟨"HangOrder$Numbers", "<init>", "()V"⟩, "HangOrder"), ("HangOrder$NodeTable", 29, ⟨"HangOrder$Page", "<init>", "()V"⟩, "HangOrder"), ("HangOrder$NodeTable", 17, ⟨"HangOrder", "isNode", "(I)Z"⟩, "HangOrder")]
def sKx (U : State) : Prop := (∀ q ∈ nst, va_Nw (.methodLinkNest q.1 q.2.1 q.2.2.1 q.2.2.2) U) ∧ va_AO "HangOrder$Page" U ∧ va_AO "HangOrder$Node" U
theorem sKx_warm {s U : State} (hW : s.WarmedH U.vm) (h : sKx s) : sKx U := ⟨fun q hq => va_Nw.warmM hW (h.1 q hq), va_AO.moved hW.alike h.2.1, va_AO.moved hW.alike h.2.2⟩
theorem sKx_same {s U : State} (hv : s.vm = U.vm) (h : sKx s) : sKx U := ⟨fun q hq => va_Nw.same rfl hv (h.1 q hq), va_AO.moved (by rw [hv]; exact Vm.Alike.refl _) h.2.1, va_AO.moved (by rw [hv]; exact Vm.Alike.refl _) h.2.2⟩
/-! THE STORE: a picture of many cells as four functions. kd: what stands at an address (an object of class ci, or an array of kind t and length n); R, I, L: what a place (address, index) holds, as a reference, an int, a long. -/
abbrev sK : Type := Nat ⊕ (Nat × Nat)
abbrev sS : Type := (Nat → Option sK) × (Nat → Nat → Option Nat) × (Nat → Nat → Int32) × (Nat → Nat → Int64)
abbrev sM : Type := Nat → Option va_E
/-- the fields of an object whose kinds are g (true: a reference) -/
def sFs (g : List Bool) (r : Nat → Option Nat) (i : Nat → Int32) : List Value := (List.range g.length).map (fun k => if g.getD k false then va_rf (r k) else .int (i k))
/-- the contents of an array by its kind (0 int and its like, 1 long, else references) -/
def sCt (t : Nat) (r : Nat → Option Nat) (i : Nat → Int32) (l : Nat → Int64) : (Nat → Int32) ⊕ (Nat → Int64) ⊕ (Nat → UInt32) ⊕ (Nat → UInt64) ⊕ (Nat → Option Nat) :=
  if t = 0 then .inl i else if t = 1 then .inr (.inl l) else .inr (.inr (.inr (.inr r)))
def sMk (sg : Nat → List Bool) (tk : Nat → Nat) (dA : Nat → ClassId) (S : sS) : sM := fun a => match S.1 a with
  | none => none
  | some (.inl ci) => some (.inr (ci, sFs (sg ci) (S.2.1 a) (S.2.2.1 a)))
  | some (.inr tn) => some (.inl (dA tn.1, tn.2, sCt (tk tn.1) (S.2.1 a) (S.2.2.1 a) (S.2.2.2 a)))
def sU (M : sM) (a : Nat) (x : va_E) : sM := fun b => if b = a then some x else M b
/-- a function of two places, changed at one -/
def up2 {α : Type} (f : Nat → Nat → α) (a k : Nat) (x : α) : Nat → Nat → α := fun b j => if b = a ∧ j = k then x else f b j
/-- a row of a function of two places, changed whole -/
def upr {α : Type} (f : Nat → Nat → α) (a : Nat) (r : Nat → α) : Nat → Nat → α := fun b => if b = a then r else f b
theorem up2_self {α : Type} (f : Nat → Nat → α) (a k : Nat) (x : α) : up2 f a k x a k = x := by simp [up2]
theorem up2_row {α : Type} (f : Nat → Nat → α) (a k : Nat) (x : α) : up2 f a k x a = fun j => if j = k then x else f a j := by funext j; simp [up2]
theorem up2_off {α : Type} (f : Nat → Nat → α) {a k b : Nat} (x : α) (h : b ≠ a) : up2 f a k x b = f b := by funext j; simp [up2, h]
theorem up2_ne {α : Type} (f : Nat → Nat → α) {a k b j : Nat} (x : α) (h : j ≠ k) : up2 f a k x b j = f b j := by simp [up2, h]
theorem upr_self {α : Type} (f : Nat → Nat → α) (a : Nat) (r : Nat → α) : upr f a r a = r := by simp [upr]
theorem upr_off {α : Type} (f : Nat → Nat → α) {a b : Nat} (r : Nat → α) (h : b ≠ a) : upr f a r b = f b := by simp [upr, h]
def sG (M : sM) (ws : va_W) : Prop := ∀ (a : Nat) (x : va_E), M a = some x ↔ ∃ k : Nat, ws[k]? = some (a, x)
theorem sG_set {A : Nat → Prop} {M : sM} {ws : va_W} {a k : Nat} {x y : va_E} (h : sG M ws) (hD : va_D A ws) (hk : ws[k]? = some (a, x)) : sG (sU M a y) (ws.set k (a, y)) := by
  intro b z
  have hlt : k < ws.length := (List.getElem?_eq_some_iff.mp hk).1
  constructor
  · intro hb
    by_cases e : b = a
    · subst e
      have hz : y = z := by simpa [sU] using hb
      subst hz
      exact ⟨k, by rw [List.getElem?_set_self hlt]⟩
    · have hb' : M b = some z := by simpa [sU, e] using hb
      obtain ⟨j, hj⟩ := (h b z).mp hb'
      refine ⟨j, ?_⟩
      have hjk : k ≠ j := by
        intro q
        subst q
        rw [hk] at hj
        exact e (congrArg Prod.fst (Option.some.inj hj)).symm
      rw [List.getElem?_set_ne hjk]
      exact hj
  · rintro ⟨j, hj⟩
    by_cases q : k = j
    · subst q
      rw [List.getElem?_set_self hlt] at hj
      have e := Option.some.inj hj
      have e1 : a = b := congrArg Prod.fst e
      have e2 : y = z := congrArg Prod.snd e
      subst e1; subst e2
      simp [sU]
    · rw [List.getElem?_set_ne q] at hj
      have hb : M b = some z := (h b z).mpr ⟨j, hj⟩
      have e : b ≠ a := fun e => q (hD.1 k j (a, x) (b, z) hk hj e.symm)
      simpa [sU, e] using hb
theorem sG_fresh {A : Nat → Prop} {M : sM} {ws : va_W} {q : Nat} {x : va_E} (h : sG M ws) (hD : va_D A (ws ++ [(q, x)])) : M q = none := by
  cases hq : M q with
  | none => rfl
  | some y =>
    obtain ⟨k, hk⟩ := (h q y).mp hq
    have hl := (List.getElem?_eq_some_iff.mp hk).1
    have h1 : (ws ++ [(q, x)])[k]? = some (q, y) := by rw [List.getElem?_append_left hl]; exact hk
    have h2 : (ws ++ [(q, x)])[ws.length]? = some (q, x) := by rw [List.getElem?_append_right (Nat.le_refl _), Nat.sub_self]; rfl
    have := hD.1 _ _ _ _ h1 h2 rfl
    omega
theorem sG_push {A : Nat → Prop} {M : sM} {ws : va_W} {q : Nat} {x : va_E} (h : sG M ws) (hD : va_D A (ws ++ [(q, x)])) : sG (sU M q x) (ws ++ [(q, x)]) := by
  have hq := sG_fresh h hD
  have h2 : (ws ++ [(q, x)])[ws.length]? = some (q, x) := by rw [List.getElem?_append_right (Nat.le_refl _), Nat.sub_self]; rfl
  intro b z
  constructor
  · intro hb
    by_cases e : b = q
    · subst e
      have hz : x = z := by simpa [sU] using hb
      subst hz
      exact ⟨ws.length, h2⟩
    · have hb' : M b = some z := by simpa [sU, e] using hb
      obtain ⟨j, hj⟩ := (h b z).mp hb'
      exact ⟨j, by rw [List.getElem?_append_left (List.getElem?_eq_some_iff.mp hj).1]; exact hj⟩
  · rintro ⟨j, hj⟩
    by_cases hl : j < ws.length
    · rw [List.getElem?_append_left hl] at hj
      have hb : M b = some z := (h b z).mpr ⟨j, hj⟩
      have e : b ≠ q := fun e => by rw [e, hq] at hb; cases hb
      simpa [sU, e] using hb
    · rw [List.getElem?_append_right (by omega)] at hj
      have hz : j - ws.length < 1 := (List.getElem?_eq_some_iff.mp hj).1
      rw [show j - ws.length = 0 by omega] at hj
      have e := Option.some.inj hj
      have e1 : q = b := congrArg Prod.fst e
      have e2 : x = z := congrArg Prod.snd e
      subst e1; subst e2
      simp [sU]
/-- which cells a method over the store may change: the store's, and those that it makes -/
def sA (S : sS) (sz : Nat) : Nat → Prop := fun q => S.1 q ≠ none ∨ sz ≤ q
theorem sMk_some {sg : Nat → List Bool} {tk : Nat → Nat} {dA : Nat → ClassId} {S : sS} {a : Nat} {x : va_E} (h : sMk sg tk dA S a = some x) : S.1 a ≠ none := by
  intro q
  rw [sMk, q] at h
  cases h
theorem sMk_ex {sg : Nat → List Bool} {tk : Nat → Nat} {dA : Nat → ClassId} {S : sS} {a : Nat} (h : S.1 a ≠ none) : ∃ x, sMk sg tk dA S a = some x := by
  unfold sMk
  cases hk : S.1 a with
  | none => exact absurd hk h
  | some k => cases k with
    | inl ci => exact ⟨_, rfl⟩
    | inr tn => exact ⟨_, rfl⟩
theorem sMk_obj {sg : Nat → List Bool} {tk : Nat → Nat} {dA : Nat → ClassId} {S : sS} {a ci : Nat} (h : S.1 a = some (.inl ci)) : sMk sg tk dA S a = some (.inr (ci, sFs (sg ci) (S.2.1 a) (S.2.2.1 a))) := by
  rw [sMk, h]
theorem sMk_arr {sg : Nat → List Bool} {tk : Nat → Nat} {dA : Nat → ClassId} {S : sS} {a t n : Nat} (h : S.1 a = some (.inr (t, n))) : sMk sg tk dA S a = some (.inl (dA t, n, sCt (tk t) (S.2.1 a) (S.2.2.1 a) (S.2.2.2 a))) := by
  rw [sMk, h]
theorem sFs_len (g : List Bool) (r : Nat → Option Nat) (i : Nat → Int32) : (sFs g r i).length = g.length := by simp [sFs]
theorem sFs_at (g : List Bool) (r : Nat → Option Nat) (i : Nat → Int32) {k : Nat} (hk : k < g.length) : (sFs g r i)[k]? = some (if g.getD k false then va_rf (r k) else .int (i k)) := by
  simp [sFs, hk]
theorem sFs_seti {g : List Bool} {k : Nat} (hg : g[k]? = some false) (r : Nat → Option Nat) (i : Nat → Int32) (x : Int32) : (sFs g r i).set k (.int x) = sFs g r (fun j => if j = k then x else i j) := by
  have hk : k < g.length := (List.getElem?_eq_some_iff.mp hg).1
  apply List.ext_getElem?
  intro j
  by_cases hj : j = k
  · subst hj
    rw [List.getElem?_set_self (by rw [sFs_len]; exact hk), sFs_at g r _ hk]
    simp [List.getD, hg]
  · rw [List.getElem?_set_ne (fun q => hj q.symm)]
    by_cases hl : j < g.length
    · rw [sFs_at g r _ hl, sFs_at g r _ hl]
      simp [hj]
    · rw [List.getElem?_eq_none (by rw [sFs_len]; omega), List.getElem?_eq_none (by rw [sFs_len]; omega)]
theorem sFs_setr {g : List Bool} {k : Nat} (hg : g[k]? = some true) (r : Nat → Option Nat) (i : Nat → Int32) (x : Option Nat) : (sFs g r i).set k (va_rf x) = sFs g (fun j => if j = k then x else r j) i := by
  have hk : k < g.length := (List.getElem?_eq_some_iff.mp hg).1
  apply List.ext_getElem?
  intro j
  by_cases hj : j = k
  · subst hj
    rw [List.getElem?_set_self (by rw [sFs_len]; exact hk), sFs_at g _ i hk]
    simp [List.getD, hg]
  · rw [List.getElem?_set_ne (fun q => hj q.symm)]
    by_cases hl : j < g.length
    · rw [sFs_at g _ i hl, sFs_at g _ i hl]
      simp [hj]
    · rw [List.getElem?_eq_none (by rw [sFs_len]; omega), List.getElem?_eq_none (by rw [sFs_len]; omega)]
