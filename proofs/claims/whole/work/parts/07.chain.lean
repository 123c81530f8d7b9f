/-! PURE: a chain with links both ways, by places: first is its head, each one's next and previous stand where the list has them -/
def chI (rf : Nat → Nat → Option Nat) (fP fN : Nat) (first : Option Nat) (l : List Nat) : Prop :=
  first = l[0]? ∧ ∀ i k : Nat, l[i]? = some k → rf k fN = l[i + 1]? ∧ rf k fP = (if i = 0 then none else l[i - 1]?)
theorem nd_ij {l : List Nat} (h : l.Nodup) {i j x : Nat} (hi : l[i]? = some x) (hj : l[j]? = some x) : i = j :=
  (List.getElem?_inj (List.getElem?_eq_some_iff.mp hi).1 h).mp (hi.trans hj.symm)
theorem chI_push {rf rf' : Nat → Nat → Option Nat} {fP fN : Nat} {first : Option Nat} {l : List Nat} {k : Nat} (h : chI rf fP fN first l) (hnd : l.Nodup) (hn : rf' k fN = first) (hp : rf' k fP = none)
    (h1 : ∀ j ∈ l, rf' j fN = rf j fN) (h2 : ∀ j ∈ l, rf' j fP = if first = some j then some k else rf j fP) : chI rf' fP fN (some k) (k :: l) := by
  obtain ⟨hf, hl⟩ := h
  refine ⟨rfl, fun i j hj => ?_⟩
  cases i with
  | zero =>
    have e : k = j := by simpa using hj
    subst e
    exact ⟨by rw [hn, hf]; simp, by rw [hp]; simp⟩
  | succ i =>
    have hj' : l[i]? = some j := by simpa using hj
    obtain ⟨a1, a2⟩ := hl i j hj'
    have hm := List.mem_of_getElem? hj'
    refine ⟨by rw [h1 j hm, a1]; simp, ?_⟩
    rw [h2 j hm, if_neg (Nat.succ_ne_zero i)]
    by_cases e : i = 0
    · subst e
      rw [if_pos (by rw [hf]; exact hj')]
      simp
    · rw [if_neg (fun z => e (nd_ij hnd hj' (by rw [← hf]; exact z))), a2, if_neg e]
      obtain ⟨i', rfl⟩ := Nat.exists_eq_succ_of_ne_zero e
      simp
theorem chI_del {rf rf' : Nat → Nat → Option Nat} {fP fN : Nat} {first : Option Nat} {l : List Nat} {j k : Nat} (h : chI rf fP fN first l) (hnd : l.Nodup) (hj : l[j]? = some k)
    (hN : ∀ x ∈ l, x ≠ k → rf' x fN = if rf k fP = some x then rf k fN else rf x fN) (hP : ∀ x ∈ l, x ≠ k → rf' x fP = if rf k fN = some x then rf k fP else rf x fP) :
    chI rf' fP fN (if rf k fP = none then rf k fN else first) (l.eraseIdx j) := by
  obtain ⟨hf, hl⟩ := h
  obtain ⟨kN, kP⟩ := hl j k hj
  have hjl : j < l.length := (List.getElem?_eq_some_iff.mp hj).1
  constructor
  · rw [List.getElem?_eraseIdx]
    by_cases e : j = 0
    · subst e
      rw [if_pos rfl] at kP
      rw [if_pos kP, kN]
      simp
    · rw [if_neg e] at kP
      have hne : ¬ rf k fP = none := by
        rw [kP, List.getElem?_eq_getElem (show j - 1 < l.length by omega)]
        exact fun z => by cases z
      rw [if_neg hne, if_pos (by omega), hf]
  · intro i x hx
    rw [List.getElem?_eraseIdx] at hx
    rw [List.getElem?_eraseIdx, List.getElem?_eraseIdx]
    by_cases hij : i < j
    · rw [if_pos hij] at hx
      obtain ⟨a1, a2⟩ := hl i x hx
      have hxk : x ≠ k := fun z => by subst z; have := nd_ij hnd hx hj; omega
      have hm := List.mem_of_getElem? hx
      rw [hN x hm hxk, hP x hm hxk]
      constructor
      · by_cases e : i + 1 = j
        · rw [if_pos (by rw [kP, if_neg (by omega), show j - 1 = i by omega]; exact hx), kN, if_neg (by omega), e]
        · rw [if_neg, a1, if_pos (by omega)]
          rw [kP]
          intro z
          by_cases e0 : j = 0
          · omega
          · rw [if_neg e0] at z
            have := nd_ij hnd hx z
            omega
      · rw [if_neg, a2]
        · by_cases e0 : i = 0
          · rw [if_pos e0, if_pos e0]
          · rw [if_neg e0, if_neg e0, if_pos (by omega)]
        · rw [kN]
          intro z
          have := nd_ij hnd hx z
          omega
    · rw [if_neg hij] at hx
      obtain ⟨a1, a2⟩ := hl (i + 1) x hx
      have hxk : x ≠ k := fun z => by subst z; have := nd_ij hnd hx hj; omega
      have hm := List.mem_of_getElem? hx
      rw [hN x hm hxk, hP x hm hxk]
      constructor
      · rw [if_neg, a1, if_neg (by omega)]
        rw [kP]
        intro z
        by_cases e0 : j = 0
        · rw [if_pos e0] at z; cases z
        · rw [if_neg e0] at z
          have := nd_ij hnd hx z
          omega
      · by_cases e : i = j
        · subst e
          rw [if_pos (by rw [kN]; exact hx), kP]
          by_cases e0 : i = 0
          · rw [if_pos e0, if_pos e0]
          · rw [if_neg e0, if_neg e0, if_pos (by omega)]
        · rw [if_neg, a2, if_neg (by omega), if_neg (by omega), if_neg (by omega)]
          · rw [show i + 1 - 1 = i - 1 + 1 by omega]
          · rw [kN]
            intro z
            have := nd_ij hnd hx z
            omega
theorem chI_keep {rf rf' : Nat → Nat → Option Nat} {fP fN : Nat} {first : Option Nat} {l : List Nat} (h : chI rf fP fN first l) (hk : ∀ x ∈ l, rf' x fN = rf x fN ∧ rf' x fP = rf x fP) : chI rf' fP fN first l := by
  refine ⟨h.1, fun i k hi => ?_⟩
  obtain ⟨a, b⟩ := hk k (List.mem_of_getElem? hi)
  rw [a, b]
  exact h.2 i k hi
