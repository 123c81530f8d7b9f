/-! PURE: who reads whom (E v u: v reads u), what isn't ringed (Acc), what a work finds, and the run of the least ready ones. -/
def gN (E : Nat → Nat → Prop) (v : Nat) : Prop := Acc (fun u w => E w u) v
theorem gN_mk {E : Nat → Nat → Prop} {v : Nat} (h : ∀ u, E v u → gN E u) : gN E v := Acc.intro v h
theorem gN_down {E : Nat → Nat → Prop} {v u : Nat} (h : gN E v) (hu : E v u) : gN E u := Acc.inv h hu
theorem gN_ind {E : Nat → Nat → Prop} {P : Nat → Prop} {v : Nat} (h : gN E v) (hp : ∀ v, (∀ u, E v u → gN E u) → (∀ u, E v u → P u) → P v) : P v := by
  unfold gN at h
  induction h with
  | intro v h1 ih => exact hp v h1 ih
/-- a set that holds the touched ones and with a node all its readers -/
def gUp (E : Nat → Nat → Prop) (T F : Nat → Prop) : Prop := (∀ v, T v → F v) ∧ ∀ v u, E v u → F u → F v
/-- what a work finds: the least such set -/
def gF (E : Nat → Nat → Prop) (T : Nat → Prop) (v : Nat) : Prop := ∀ F : Nat → Prop, gUp E T F → F v
theorem gF_up (E : Nat → Nat → Prop) (T : Nat → Prop) : gUp E T (gF E T) := ⟨fun v hv F hF => hF.1 v hv, fun v u hvu hu F hF => hF.2 v u hvu (hu F hF)⟩
theorem gF_le {E : Nat → Nat → Prop} {T F : Nat → Prop} (h : gUp E T F) {v : Nat} (hv : gF E T v) : F v := hv F h
/-- where nothing touched is read, ringed stays what it was -/
theorem gN_old {E O : Nat → Nat → Prop} {T : Nat → Prop} (hE : ∀ v, ¬ T v → ∀ u, E v u ↔ O v u) {v : Nat} (hv : ¬ gF E T v) : gN E v ↔ gN O v := by
  have hdn : ∀ v, ¬ gF E T v → ∀ u, E v u → ¬ gF E T u := fun v hv u hu h => hv ((gF_up E T).2 v u hu h)
  have hT : ∀ v, ¬ gF E T v → ¬ T v := fun v hv h => hv ((gF_up E T).1 v h)
  constructor
  · intro h
    revert hv
    refine gN_ind (P := fun v => ¬ gF E T v → gN O v) h ?_
    intro v _ ih hv
    exact gN_mk fun u hu => ih u ((hE v (hT v hv) u).mpr hu) (hdn v hv u ((hE v (hT v hv) u).mpr hu))
  · intro h
    revert hv
    refine gN_ind (P := fun v => ¬ gF E T v → gN E v) h ?_
    intro v _ ih hv
    exact gN_mk fun u hu => ih u ((hE v (hT v hv) u).mp hu) (hdn v hv u hu)
/-- x may be worked out behind those of p -/
def gC (E : Nat → Nat → Prop) (F : Nat → Prop) (p : List Nat) (x : Nat) : Prop := F x ∧ gN E x ∧ x ∉ p ∧ ∀ u, E x u → F u → gN E u → u ∈ p
/-- l is the run: always the least that may be, until none may -/
def gR (E : Nat → Nat → Prop) (F : Nat → Prop) (l : List Nat) : Prop :=
  (∀ k x, l[k]? = some x → gC E F (l.take k) x ∧ ∀ y, gC E F (l.take k) y → x ≤ y) ∧ ∀ x, ¬ gC E F l x
theorem gR_take {E : Nat → Nat → Prop} {F : Nat → Prop} {l1 l2 : List Nat} (h1 : gR E F l1) (h2 : gR E F l2) : ∀ k, k ≤ l1.length → l2.take k = l1.take k := by
  intro k
  induction k with
  | zero => intro _; simp
  | succ k ih =>
    intro hk
    have e := ih (by omega)
    have hx : l1[k]? = some l1[k] := List.getElem?_eq_getElem (by omega)
    obtain ⟨c1, m1⟩ := h1.1 k _ hx
    rw [← e] at c1
    by_cases hl : k < l2.length
    · have hy : l2[k]? = some l2[k] := List.getElem?_eq_getElem hl
      obtain ⟨c2, m2⟩ := h2.1 k _ hy
      have a1 := m2 _ c1
      rw [e] at c2
      have a2 := m1 _ c2
      have ee : l2[k] = l1[k] := by omega
      rw [List.take_add_one, List.take_add_one, e, hx, hy, ee]
    · have hall : l2.take k = l2 := List.take_of_length_le (by omega)
      rw [hall] at c1
      exact absurd c1 (h2.2 _)
theorem gR_eq {E : Nat → Nat → Prop} {F : Nat → Prop} {l1 l2 : List Nat} (h1 : gR E F l1) (h2 : gR E F l2) : l1 = l2 := by
  have a := gR_take h1 h2 l1.length (Nat.le_refl _)
  have b := gR_take h2 h1 l2.length (Nat.le_refl _)
  rw [List.take_length] at a b
  have hle : l1.length ≤ l2.length := by
    have := congrArg List.length a
    rw [List.length_take] at this
    omega
  have hle2 : l2.length ≤ l1.length := by
    have := congrArg List.length b
    rw [List.length_take] at this
    omega
  rw [← a]
  exact List.take_of_length_le (by omega)
theorem gR_mem {E : Nat → Nat → Prop} {F : Nat → Prop} {l : List Nat} (h : gR E F l) {x : Nat} : x ∈ l ↔ F x ∧ gN E x := by
  constructor
  · intro hx
    obtain ⟨k, hk⟩ := List.getElem?_of_mem hx
    obtain ⟨c1, -⟩ := h.1 k x hk
    exact ⟨c1.1, c1.2.1⟩
  · rintro ⟨hF, hN⟩
    revert hF
    refine gN_ind (P := fun x => F x → x ∈ l) hN ?_
    intro v h1 ih hF
    by_cases hv : v ∈ l
    · exact hv
    · exact absurd ⟨hF, gN_mk h1, hv, fun u hu hFu _ => ih u hu hFu⟩ (h.2 v)
theorem gR_nodup {E : Nat → Nat → Prop} {F : Nat → Prop} {l : List Nat} (h : gR E F l) : ∀ i j x : Nat, l[i]? = some x → l[j]? = some x → i = j := by
  have key : ∀ i j x : Nat, i < j → l[i]? = some x → l[j]? = some x → False := by
    intro i j x hij hi hj
    obtain ⟨c1, -⟩ := h.1 j x hj
    refine c1.2.2.1 (List.mem_of_getElem? (i := i) ?_)
    rw [List.getElem?_take, if_pos hij]
    exact hi
  intro i j x hi hj
  rcases Nat.lt_trichotomy i j with q | q | q
  · exact (key i j x q hi hj).elim
  · exact q
  · exact (key j i x q hj hi).elim
