/-! PURE: a heap in a row of numbers, with one place on the move -/
def hp_ok (v : Nat → Nat) (n : Nat) : Prop := ∀ i, 0 < i → i < n → v ((i - 1) / 2) ≤ v i
def hp_set (v : Nat → Nat) (n x : Nat) : Prop := ∃ i, i < n ∧ v i = x
def hp_inj (v : Nat → Nat) (n : Nat) : Prop := ∀ i j, i < n → j < n → v i = v j → i = j
def hp_sw (v : Nat → Nat) (p q : Nat) : Nat → Nat := fun i => if i = p then v q else if i = q then v p else v i
def hp_up (v : Nat → Nat) (n p : Nat) : Prop := p < n ∧ (∀ i, 0 < i → i < n → i ≠ p → v ((i - 1) / 2) ≤ v i) ∧ ∀ i, 0 < i → i < n → (i - 1) / 2 = p → 0 < p → v ((p - 1) / 2) ≤ v i
def hp_dn (v : Nat → Nat) (n p : Nat) : Prop := (∀ i, 0 < i → i < n → (i - 1) / 2 ≠ p → v ((i - 1) / 2) ≤ v i) ∧ ∀ i, 0 < i → i < n → (i - 1) / 2 = p → 0 < p → v ((p - 1) / 2) ≤ v i
theorem hp_sw_p (v : Nat → Nat) (p q : Nat) : hp_sw v p q p = v q := by simp [hp_sw]
theorem hp_sw_q (v : Nat → Nat) (p q : Nat) : hp_sw v p q q = v p := by
  unfold hp_sw
  by_cases h : q = p
  · subst h; simp
  · simp [h]
theorem hp_sw_o (v : Nat → Nat) {p q i : Nat} (h1 : i ≠ p) (h2 : i ≠ q) : hp_sw v p q i = v i := by simp [hp_sw, h1, h2]
theorem hp_up_step {v : Nat → Nat} {n p : Nat} (h : hp_up v n p) (hp : 0 < p) (hlt : v p < v ((p - 1) / 2)) : hp_up (hp_sw v p ((p - 1) / 2)) n ((p - 1) / 2) := by
  obtain ⟨hpn, h1, h2⟩ := h
  have hq : (p - 1) / 2 < p := by omega
  refine ⟨by omega, fun i hi hin hne => ?_, fun i hi hin hpar hq0 => ?_⟩
  · by_cases e : i = p
    · subst e
      rw [hp_sw_p, hp_sw_q]
      omega
    · rw [hp_sw_o v e hne]
      by_cases e1 : (i - 1) / 2 = p
      · rw [e1, hp_sw_p]
        exact h2 i hi hin e1 hp
      · by_cases e2 : (i - 1) / 2 = (p - 1) / 2
        · rw [e2, hp_sw_q]
          have := h1 i hi hin e
          rw [e2] at this
          omega
        · rw [hp_sw_o v e1 e2]
          exact h1 i hi hin e
  · rw [hp_sw_o v (i := ((p - 1) / 2 - 1) / 2) (by omega) (by omega)]
    have hq1 := h1 ((p - 1) / 2) hq0 (by omega) (by omega)
    by_cases e : i = p
    · subst e
      rw [hp_sw_p]
      exact hq1
    · rw [hp_sw_o v e (by omega)]
      have := h1 i hi hin e
      rw [hpar] at this
      omega
theorem hp_up_end {v : Nat → Nat} {n p : Nat} (h : hp_up v n p) (hp : p = 0 ∨ v ((p - 1) / 2) ≤ v p) : hp_ok v n := by
  intro i hi hin
  by_cases e : i = p
  · subst e
    rcases hp with h0 | h0
    · omega
    · exact h0
  · exact h.2.1 i hi hin e
theorem hp_up_start {v w : Nat → Nat} {n : Nat} (h : hp_ok v n) (hw : ∀ i, i < n → w i = v i) : hp_up w (n + 1) n := by
  refine ⟨by omega, fun i hi hin hne => ?_, fun i hi hin hpar hp => by omega⟩
  rw [hw i (by omega), hw ((i - 1) / 2) (by omega)]
  exact h i hi (by omega)
theorem hp_dn_step {v : Nat → Nat} {n p b : Nat} (h : hp_dn v n p) (hb : b < n) (hbp : b = 2 * p + 1 ∨ b = 2 * p + 2) (hmin : ∀ i, 0 < i → i < n → (i - 1) / 2 = p → v b ≤ v i) (hlt : v b < v p) : hp_dn (hp_sw v p b) n b := by
  obtain ⟨h1, h2⟩ := h
  refine ⟨fun i hi hin hne => ?_, fun i hi hin hpar hb0 => ?_⟩
  · by_cases e : (i - 1) / 2 = p
    · rw [e, hp_sw_p]
      by_cases e2 : i = b
      · subst e2
        rw [hp_sw_q]
        omega
      · rw [hp_sw_o v (by omega) e2]
        exact hmin i hi hin e
    · rw [hp_sw_o v e hne]
      by_cases e2 : i = b
      · exfalso
        rcases hbp with q | q <;> omega
      · by_cases e3 : i = p
        · subst e3
          rw [hp_sw_p]
          exact h2 b (by omega) hb (by rcases hbp with q | q <;> omega) hi
        · rw [hp_sw_o v e3 e2]
          exact h1 i hi hin e
  · have hpb : (b - 1) / 2 = p := by rcases hbp with q | q <;> omega
    rw [hpb, hp_sw_p, hp_sw_o v (by omega) (by omega)]
    have := h1 i hi hin (by omega)
    rw [hpar] at this
    exact this
theorem hp_dn_end {v : Nat → Nat} {n p : Nat} (h : hp_dn v n p) (hp : ∀ i, 0 < i → i < n → (i - 1) / 2 = p → v p ≤ v i) : hp_ok v n := by
  intro i hi hin
  by_cases e : (i - 1) / 2 = p
  · rw [e]; exact hp i hi hin e
  · exact h.1 i hi hin e
theorem hp_dn_start {v w : Nat → Nat} {n : Nat} (h : hp_ok v (n + 1)) (hw : ∀ i, 0 < i → i < n → w i = v i) : hp_dn w n 0 := by
  refine ⟨fun i hi hin hne => ?_, fun i hi hin hpar hp => by omega⟩
  rw [hw i hi hin, hw ((i - 1) / 2) (by omega) (by omega)]
  exact h i hi (by omega)
theorem hp_least {v : Nat → Nat} {n : Nat} (h : hp_ok v n) : ∀ i, i < n → v 0 ≤ v i := by
  intro i
  induction i using Nat.strongRecOn with
  | _ i ih =>
    intro hin
    by_cases e : i = 0
    · subst e; omega
    · have h1 := h i (by omega) hin
      have h2 := ih ((i - 1) / 2) (by omega) (by omega)
      omega
theorem hp_sw_set {v : Nat → Nat} {n p q : Nat} (hp : p < n) (hq : q < n) (x : Nat) : hp_set (hp_sw v p q) n x ↔ hp_set v n x := by
  constructor
  · rintro ⟨i, hi, hx⟩
    by_cases e : i = p
    · subst e; rw [hp_sw_p] at hx; exact ⟨q, hq, hx⟩
    · by_cases e2 : i = q
      · subst e2; rw [hp_sw_q] at hx; exact ⟨p, hp, hx⟩
      · rw [hp_sw_o v e e2] at hx; exact ⟨i, hi, hx⟩
  · rintro ⟨i, hi, hx⟩
    by_cases e : i = p
    · subst e; exact ⟨q, hq, by rw [hp_sw_q]; exact hx⟩
    · by_cases e2 : i = q
      · subst e2; exact ⟨p, hp, by rw [hp_sw_p]; exact hx⟩
      · exact ⟨i, hi, by rw [hp_sw_o v e e2]; exact hx⟩
theorem hp_sw_inj {v : Nat → Nat} {n p q : Nat} (hp : p < n) (hq : q < n) (h : hp_inj v n) : hp_inj (hp_sw v p q) n := by
  have key : ∀ i, ∃ j, hp_sw v p q i = v j ∧ (i < n → j < n) ∧ (∀ i' j', hp_sw v p q i' = v j' → True) ∧ ((i = p ∧ j = q) ∨ (i ≠ p ∧ i = q ∧ j = p) ∨ (i ≠ p ∧ i ≠ q ∧ j = i)) := by
    intro i
    by_cases e : i = p
    · subst e; exact ⟨q, hp_sw_p v i q, fun _ => hq, fun _ _ _ => trivial, Or.inl ⟨rfl, rfl⟩⟩
    · by_cases e2 : i = q
      · subst e2; exact ⟨p, hp_sw_q v p i, fun _ => hp, fun _ _ _ => trivial, Or.inr (Or.inl ⟨e, rfl, rfl⟩)⟩
      · exact ⟨i, hp_sw_o v e e2, fun h => h, fun _ _ _ => trivial, Or.inr (Or.inr ⟨e, e2, rfl⟩)⟩
  intro i j hi hj hij
  obtain ⟨i', a1, a2, -, a3⟩ := key i
  obtain ⟨j', b1, b2, -, b3⟩ := key j
  have e := h i' j' (a2 hi) (b2 hj) (by rw [← a1, ← b1]; exact hij)
  omega
