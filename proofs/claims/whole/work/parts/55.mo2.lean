/-! the reference between calls -/
def MoX (lb nb : Nat) (E : Nat → Nat → Prop) (T Rg : Nat → Prop) (wl : List Nat) (rc : Nat) (cn : Nat → Nat) (nA : Nat → Nat → Nat) (fb : Nat → Nat → Bool) : Prop :=
  (cn 1 ≤ lb) ∧ (cn 4 ≤ nb) ∧ (∀ x, x < cn 4 → nA 2 x < 16384) ∧ (∀ x y, x < cn 4 → y < cn 4 → nA 2 x = nA 2 y → x = y) ∧ (∀ k, k < cn 1 → nA 0 k < cn 4 ∧ nA 1 k < cn 4) ∧ (∀ j k, j < cn 1 → k < cn 1 → nA 0 j = nA 0 k → nA 1 j = nA 1 k → j = k) ∧ (∀ v u, E v u ↔ ∃ k, k < cn 1 ∧ nA 2 (nA 0 k) = v ∧ nA 2 (nA 1 k) = u) ∧ (∀ v, T v ↔ ∃ x, x < cn 4 ∧ nA 2 x = v ∧ fb 3 x = true) ∧ (∀ v, Rg v ↔ ∃ x, x < cn 4 ∧ nA 2 x = v ∧ fb 4 x = true) ∧ (∀ x, cn 4 ≤ x → fb 3 x = false ∧ fb 4 x = false) ∧ (cn 10 = wl.length) ∧ (wl.length ≤ 1024) ∧ (∀ i, i < cn 10 → wl[i]? = some (nA 7 i)) ∧ (cn 12 = rc)
theorem MoX.hl {lb nb : Nat} {E : Nat → Nat → Prop} {T Rg : Nat → Prop} {wl : List Nat} {rc : Nat} {cn : Nat → Nat} {nA : Nat → Nat → Nat} {fb : Nat → Nat → Bool} (h : MoX lb nb E T Rg wl rc cn nA fb) : cn 1 ≤ lb := h.1
theorem MoX.hn {lb nb : Nat} {E : Nat → Nat → Prop} {T Rg : Nat → Prop} {wl : List Nat} {rc : Nat} {cn : Nat → Nat} {nA : Nat → Nat → Nat} {fb : Nat → Nat → Bool} (h : MoX lb nb E T Rg wl rc cn nA fb) : cn 4 ≤ nb := h.2.1
theorem MoX.nu9 {lb nb : Nat} {E : Nat → Nat → Prop} {T Rg : Nat → Prop} {wl : List Nat} {rc : Nat} {cn : Nat → Nat} {nA : Nat → Nat → Nat} {fb : Nat → Nat → Bool} (h : MoX lb nb E T Rg wl rc cn nA fb) : ∀ x, x < cn 4 → nA 2 x < 16384 := h.2.2.1
theorem MoX.nui {lb nb : Nat} {E : Nat → Nat → Prop} {T Rg : Nat → Prop} {wl : List Nat} {rc : Nat} {cn : Nat → Nat} {nA : Nat → Nat → Nat} {fb : Nat → Nat → Bool} (h : MoX lb nb E T Rg wl rc cn nA fb) : ∀ x y, x < cn 4 → y < cn 4 → nA 2 x = nA 2 y → x = y := h.2.2.2.1
theorem MoX.lk {lb nb : Nat} {E : Nat → Nat → Prop} {T Rg : Nat → Prop} {wl : List Nat} {rc : Nat} {cn : Nat → Nat} {nA : Nat → Nat → Nat} {fb : Nat → Nat → Bool} (h : MoX lb nb E T Rg wl rc cn nA fb) : ∀ k, k < cn 1 → nA 0 k < cn 4 ∧ nA 1 k < cn 4 := h.2.2.2.2.1
theorem MoX.lki {lb nb : Nat} {E : Nat → Nat → Prop} {T Rg : Nat → Prop} {wl : List Nat} {rc : Nat} {cn : Nat → Nat} {nA : Nat → Nat → Nat} {fb : Nat → Nat → Bool} (h : MoX lb nb E T Rg wl rc cn nA fb) : ∀ j k, j < cn 1 → k < cn 1 → nA 0 j = nA 0 k → nA 1 j = nA 1 k → j = k := h.2.2.2.2.2.1
theorem MoX.hE {lb nb : Nat} {E : Nat → Nat → Prop} {T Rg : Nat → Prop} {wl : List Nat} {rc : Nat} {cn : Nat → Nat} {nA : Nat → Nat → Nat} {fb : Nat → Nat → Bool} (h : MoX lb nb E T Rg wl rc cn nA fb) : ∀ v u, E v u ↔ ∃ k, k < cn 1 ∧ nA 2 (nA 0 k) = v ∧ nA 2 (nA 1 k) = u := h.2.2.2.2.2.2.1
theorem MoX.hT {lb nb : Nat} {E : Nat → Nat → Prop} {T Rg : Nat → Prop} {wl : List Nat} {rc : Nat} {cn : Nat → Nat} {nA : Nat → Nat → Nat} {fb : Nat → Nat → Bool} (h : MoX lb nb E T Rg wl rc cn nA fb) : ∀ v, T v ↔ ∃ x, x < cn 4 ∧ nA 2 x = v ∧ fb 3 x = true := h.2.2.2.2.2.2.2.1
theorem MoX.hR {lb nb : Nat} {E : Nat → Nat → Prop} {T Rg : Nat → Prop} {wl : List Nat} {rc : Nat} {cn : Nat → Nat} {nA : Nat → Nat → Nat} {fb : Nat → Nat → Bool} (h : MoX lb nb E T Rg wl rc cn nA fb) : ∀ v, Rg v ↔ ∃ x, x < cn 4 ∧ nA 2 x = v ∧ fb 4 x = true := h.2.2.2.2.2.2.2.2.1
theorem MoX.hz {lb nb : Nat} {E : Nat → Nat → Prop} {T Rg : Nat → Prop} {wl : List Nat} {rc : Nat} {cn : Nat → Nat} {nA : Nat → Nat → Nat} {fb : Nat → Nat → Bool} (h : MoX lb nb E T Rg wl rc cn nA fb) : ∀ x, cn 4 ≤ x → fb 3 x = false ∧ fb 4 x = false := h.2.2.2.2.2.2.2.2.2.1
theorem MoX.hm {lb nb : Nat} {E : Nat → Nat → Prop} {T Rg : Nat → Prop} {wl : List Nat} {rc : Nat} {cn : Nat → Nat} {nA : Nat → Nat → Nat} {fb : Nat → Nat → Bool} (h : MoX lb nb E T Rg wl rc cn nA fb) : cn 10 = wl.length := h.2.2.2.2.2.2.2.2.2.2.1
theorem MoX.hm9 {lb nb : Nat} {E : Nat → Nat → Prop} {T Rg : Nat → Prop} {wl : List Nat} {rc : Nat} {cn : Nat → Nat} {nA : Nat → Nat → Nat} {fb : Nat → Nat → Bool} (h : MoX lb nb E T Rg wl rc cn nA fb) : wl.length ≤ 1024 := h.2.2.2.2.2.2.2.2.2.2.2.1
theorem MoX.hw {lb nb : Nat} {E : Nat → Nat → Prop} {T Rg : Nat → Prop} {wl : List Nat} {rc : Nat} {cn : Nat → Nat} {nA : Nat → Nat → Nat} {fb : Nat → Nat → Bool} (h : MoX lb nb E T Rg wl rc cn nA fb) : ∀ i, i < cn 10 → wl[i]? = some (nA 7 i) := h.2.2.2.2.2.2.2.2.2.2.2.2.1
theorem MoX.hf {lb nb : Nat} {E : Nat → Nat → Prop} {T Rg : Nat → Prop} {wl : List Nat} {rc : Nat} {cn : Nat → Nat} {nA : Nat → Nat → Nat} {fb : Nat → Nat → Bool} (h : MoX lb nb E T Rg wl rc cn nA fb) : cn 12 = rc := h.2.2.2.2.2.2.2.2.2.2.2.2.2
def Mo (S : sS) (m0 mm : Nat) (E : Nat → Nat → Prop) (T Rg : Nat → Prop) (wl : List Nat) (rc : Nat) : Prop := ∃ ar cn nA fb, Mw S.1 S.2.1 m0 ar ∧ Mi S.2.2.1 m0 ar cn nA fb ∧ MoX mm (2 * mm) E T Rg wl rc cn nA fb
section MOXS
variable {lb nb : Nat} {E : Nat → Nat → Prop} {T Rg : Nat → Prop} {wl : List Nat} {rc : Nat} {cn : Nat → Nat} {nA : Nat → Nat → Nat} {fb : Nat → Nat → Bool}
theorem MoX_mono (h : MoX lb nb E T Rg wl rc cn nA fb) {lb' nb' : Nat} (h1 : lb ≤ lb') (h2 : nb ≤ nb') : MoX lb' nb' E T Rg wl rc cn nA fb :=
  ⟨Nat.le_trans h.hl h1, Nat.le_trans h.hn h2, h.nu9, h.nui, h.lk, h.lki, h.hE, h.hT, h.hR, h.hz, h.hm, h.hm9, h.hw, h.hf⟩
theorem MoX_new (h : MoX lb nb E T Rg wl rc cn nA fb) {v : Nat} (hv : v < 16384) (hno : ∀ k, k < cn 4 → nA 2 k ≠ v) : MoX lb (nb + 1) E T Rg wl rc (va_up cn 4 (cn 4 + 1)) (up2 nA 2 (cn 4) v) fb := by
  have c1 : va_up cn 4 (cn 4 + 1) 1 = cn 1 := va_up_ne _ _ (by decide)
  have c4 : va_up cn 4 (cn 4 + 1) 4 = cn 4 + 1 := va_up_self _ _ _
  have c10 : va_up cn 4 (cn 4 + 1) 10 = cn 10 := va_up_ne _ _ (by decide)
  have c12 : va_up cn 4 (cn 4 + 1) 12 = cn 12 := va_up_ne _ _ (by decide)
  have q : ∀ i x, i ≠ 2 → up2 nA 2 (cn 4) v i x = nA i x := fun i x hi => by rw [up2_off _ _ hi]
  have q2 : ∀ x, x < cn 4 → up2 nA 2 (cn 4) v 2 x = nA 2 x := fun x hx => up2_ne _ _ (by omega)
  have q3 : up2 nA 2 (cn 4) v 2 (cn 4) = v := up2_self _ _ _ _
  refine ⟨by rw [c1]; exact h.hl, by rw [c4]; exact Nat.succ_le_succ h.hn, fun x hx => ?_, fun x y hx hy e => ?_, fun k hk => ?_, fun j k hj hk e1 e2 => ?_, fun a b => ?_, fun a => ?_, fun a => ?_, fun x hx => ?_, by rw [c10]; exact h.hm, h.hm9, fun i hi => ?_, by rw [c12]; exact h.hf⟩
  · rw [c4] at hx
    by_cases e : x = cn 4
    · rw [e, q3]; exact hv
    · rw [q2 x (by omega)]; exact h.nu9 x (by omega)
  · rw [c4] at hx hy
    by_cases e1 : x = cn 4
    · by_cases e2 : y = cn 4
      · omega
      · rw [e1, q3, q2 y (by omega)] at e; exact absurd e.symm (hno y (by omega))
    · by_cases e2 : y = cn 4
      · rw [e2, q3, q2 x (by omega)] at e; exact absurd e (hno x (by omega))
      · rw [q2 x (by omega), q2 y (by omega)] at e; exact h.nui x y (by omega) (by omega) e
  · rw [c1] at hk
    rw [c4, q 0 k (by decide), q 1 k (by decide)]
    have := h.lk k hk
    omega
  · rw [c1] at hj hk
    rw [q 0 j (by decide), q 0 k (by decide)] at e1
    rw [q 1 j (by decide), q 1 k (by decide)] at e2
    exact h.lki j k hj hk e1 e2
  · rw [h.hE, c1]
    constructor
    · rintro ⟨k, hk, e1, e2⟩
      have := h.lk k hk
      exact ⟨k, hk, by rw [q 0 k (by decide), q2 _ this.1]; exact e1, by rw [q 1 k (by decide), q2 _ this.2]; exact e2⟩
    · rintro ⟨k, hk, e1, e2⟩
      have := h.lk k hk
      rw [q 0 k (by decide), q2 _ this.1] at e1
      rw [q 1 k (by decide), q2 _ this.2] at e2
      exact ⟨k, hk, e1, e2⟩
  · rw [h.hT, c4]
    constructor
    · rintro ⟨x, hx, e1, e2⟩; exact ⟨x, by omega, by rw [q2 x hx]; exact e1, e2⟩
    · rintro ⟨x, hx, e1, e2⟩
      by_cases e : x = cn 4
      · rw [(h.hz x (by omega)).1] at e2; cases e2
      · rw [q2 x (by omega)] at e1; exact ⟨x, by omega, e1, e2⟩
  · rw [h.hR, c4]
    constructor
    · rintro ⟨x, hx, e1, e2⟩; exact ⟨x, by omega, by rw [q2 x hx]; exact e1, e2⟩
    · rintro ⟨x, hx, e1, e2⟩
      by_cases e : x = cn 4
      · rw [(h.hz x (by omega)).2] at e2; cases e2
      · rw [q2 x (by omega)] at e1; exact ⟨x, by omega, e1, e2⟩
  · rw [c4] at hx; exact h.hz x (by omega)
  · rw [c10] at hi
    rw [q 7 i (by decide)]; exact h.hw i hi
theorem MoX_touch (h : MoX lb nb E T Rg wl rc cn nA fb) {x : Nat} (hx : x < cn 4) : MoX lb nb E (fun a => T a ∨ a = nA 2 x) Rg wl rc cn nA (up2 fb 3 x true) := by
  refine ⟨h.hl, h.hn, h.nu9, h.nui, h.lk, h.lki, h.hE, fun a => ?_, fun a => ?_, fun y hy => ?_, h.hm, h.hm9, h.hw, h.hf⟩
  · dsimp only
    rw [h.hT]
    constructor
    · rintro (⟨y, hy, e1, e2⟩ | e)
      · refine ⟨y, hy, e1, ?_⟩
        by_cases q : y = x
        · rw [q, up2_self]
        · rw [up2_ne _ _ q]; exact e2
      · exact ⟨x, hx, e.symm, up2_self _ _ _ _⟩
    · rintro ⟨y, hy, e1, e2⟩
      by_cases q : y = x
      · right; rw [← e1, q]
      · rw [up2_ne _ _ q] at e2; exact Or.inl ⟨y, hy, e1, e2⟩
  · rw [h.hR, up2_off _ _ (by decide)]
  · rw [up2_ne _ _ (by omega), up2_off _ _ (by decide)]; exact h.hz y hy
theorem MoX_link (h : MoX lb nb E T Rg wl rc cn nA fb) {x y : Nat} (hx : x < cn 4) (hy : y < cn 4) (hno : ∀ k, k < cn 1 → ¬ (nA 0 k = x ∧ nA 1 k = y)) : MoX (lb + 1) nb (fun a b => E a b ∨ (a = nA 2 x ∧ b = nA 2 y)) T Rg wl rc (va_up cn 1 (cn 1 + 1)) (up2 (up2 nA 0 (cn 1) x) 1 (cn 1) y) fb := by
  have c1 : va_up cn 1 (cn 1 + 1) 1 = cn 1 + 1 := va_up_self _ _ _
  have c4 : va_up cn 1 (cn 1 + 1) 4 = cn 4 := va_up_ne _ _ (by decide)
  have c10 : va_up cn 1 (cn 1 + 1) 10 = cn 10 := va_up_ne _ _ (by decide)
  have c12 : va_up cn 1 (cn 1 + 1) 12 = cn 12 := va_up_ne _ _ (by decide)
  have q : ∀ i k, i ≠ 0 → i ≠ 1 → up2 (up2 nA 0 (cn 1) x) 1 (cn 1) y i k = nA i k := fun i k h0 h1 => by rw [up2_off _ _ h1, up2_off _ _ h0]
  have q0 : ∀ k, up2 (up2 nA 0 (cn 1) x) 1 (cn 1) y 0 k = if k = cn 1 then x else nA 0 k := by
    intro k
    rw [up2_off _ _ (by decide)]
    by_cases e : k = cn 1
    · rw [e, up2_self, if_pos rfl]
    · rw [up2_ne _ _ e, if_neg e]
  have q1 : ∀ k, up2 (up2 nA 0 (cn 1) x) 1 (cn 1) y 1 k = if k = cn 1 then y else nA 1 k := by
    intro k
    by_cases e : k = cn 1
    · rw [e, up2_self, if_pos rfl]
    · rw [up2_ne _ _ e, up2_off _ _ (by decide), if_neg e]
  refine ⟨by rw [c1]; exact Nat.succ_le_succ h.hl, by rw [c4]; exact h.hn, fun z hz => ?_, fun z z' hz hz' e => ?_, fun k hk => ?_, fun j k hj hk e1 e2 => ?_, fun a b => ?_, fun a => ?_, fun a => ?_, fun z hz => ?_, by rw [c10]; exact h.hm, h.hm9, fun i hi => ?_, by rw [c12]; exact h.hf⟩
  · rw [c4] at hz; rw [q 2 z (by decide) (by decide)]; exact h.nu9 z hz
  · rw [c4] at hz hz'; rw [q 2 z (by decide) (by decide), q 2 z' (by decide) (by decide)] at e; exact h.nui z z' hz hz' e
  · rw [c1] at hk
    rw [c4, q0, q1]
    by_cases e : k = cn 1
    · rw [if_pos e, if_pos e]; exact ⟨hx, hy⟩
    · rw [if_neg e, if_neg e]; exact h.lk k (by omega)
  · rw [c1] at hj hk
    rw [q0, q0] at e1
    rw [q1, q1] at e2
    by_cases z1 : j = cn 1
    · by_cases z2 : k = cn 1
      · omega
      · rw [if_pos z1, if_neg z2] at e1 e2; exact absurd ⟨e1.symm, e2.symm⟩ (hno k (by omega))
    · by_cases z2 : k = cn 1
      · rw [if_neg z1, if_pos z2] at e1 e2; exact absurd ⟨e1, e2⟩ (hno j (by omega))
      · rw [if_neg z1, if_neg z2] at e1 e2; exact h.lki j k (by omega) (by omega) e1 e2
  · dsimp only
    rw [h.hE, c1]
    constructor
    · rintro (⟨k, hk, e1, e2⟩ | ⟨e1, e2⟩)
      · refine ⟨k, by omega, ?_, ?_⟩
        · rw [q0, if_neg (by omega), q 2 _ (by decide) (by decide)]; exact e1
        · rw [q1, if_neg (by omega), q 2 _ (by decide) (by decide)]; exact e2
      · refine ⟨cn 1, by omega, ?_, ?_⟩
        · rw [q0, if_pos rfl, q 2 _ (by decide) (by decide)]; exact e1.symm
        · rw [q1, if_pos rfl, q 2 _ (by decide) (by decide)]; exact e2.symm
    · rintro ⟨k, hk, e1, e2⟩
      rw [q0, q 2 _ (by decide) (by decide)] at e1
      rw [q1, q 2 _ (by decide) (by decide)] at e2
      by_cases e : k = cn 1
      · rw [if_pos e] at e1 e2; exact Or.inr ⟨e1.symm, e2.symm⟩
      · rw [if_neg e] at e1 e2; exact Or.inl ⟨k, by omega, e1, e2⟩
  · rw [h.hT, c4]
    constructor
    · rintro ⟨z, hz, e1, e2⟩; exact ⟨z, hz, by rw [q 2 _ (by decide) (by decide)]; exact e1, e2⟩
    · rintro ⟨z, hz, e1, e2⟩; rw [q 2 _ (by decide) (by decide)] at e1; exact ⟨z, hz, e1, e2⟩
  · rw [h.hR, c4]
    constructor
    · rintro ⟨z, hz, e1, e2⟩; exact ⟨z, hz, by rw [q 2 _ (by decide) (by decide)]; exact e1, e2⟩
    · rintro ⟨z, hz, e1, e2⟩; rw [q 2 _ (by decide) (by decide)] at e1; exact ⟨z, hz, e1, e2⟩
  · rw [c4] at hz; exact h.hz z hz
  · rw [c10] at hi; rw [q 7 _ (by decide) (by decide)]; exact h.hw i hi
theorem MoX_cut (h : MoX lb nb E T Rg wl rc cn nA fb) {k : Nat} (hk : k < cn 1) : MoX lb nb (fun a b => E a b ∧ ¬ (a = nA 2 (nA 0 k) ∧ b = nA 2 (nA 1 k))) T Rg wl rc (va_up cn 1 (cn 1 - 1)) (cutA nA k (cn 1 - 1)) fb := by
  have c1 : va_up cn 1 (cn 1 - 1) 1 = cn 1 - 1 := va_up_self _ _ _
  have c4 : va_up cn 1 (cn 1 - 1) 4 = cn 4 := va_up_ne _ _ (by decide)
  have c10 : va_up cn 1 (cn 1 - 1) 10 = cn 10 := va_up_ne _ _ (by decide)
  have c12 : va_up cn 1 (cn 1 - 1) 12 = cn 12 := va_up_ne _ _ (by decide)
  have q : ∀ i x, i ≠ 0 → i ≠ 1 → cutA nA k (cn 1 - 1) i x = nA i x := fun i x h0 h1 => if_neg (fun z => z.1.elim h0 h1)
  have q0 : ∀ i, i = 0 ∨ i = 1 → ∀ j, j < cn 1 - 1 → cutA nA k (cn 1 - 1) i j = nA i (if k ≤ j then j + 1 else j) := by
    intro i hi j hj
    unfold cutA
    by_cases e : k ≤ j
    · rw [if_pos ⟨hi, e, hj⟩, if_pos e]
    · rw [if_neg (fun z => e z.2.1), if_neg e]
  have b1 : ∀ j, j < cn 1 - 1 → (if k ≤ j then j + 1 else j) < cn 1 ∧ (if k ≤ j then j + 1 else j) ≠ k := by
    intro j hj
    split <;> omega
  refine ⟨by rw [c1]; exact Nat.le_trans (Nat.sub_le _ _) h.hl, by rw [c4]; exact h.hn, fun z hz => ?_, fun z z' hz hz' e => ?_, fun j hj => ?_, fun i j hi hj e1 e2 => ?_, fun a b => ?_, fun a => ?_, fun a => ?_, fun z hz => ?_, by rw [c10]; exact h.hm, h.hm9, fun i hi => ?_, by rw [c12]; exact h.hf⟩
  · rw [c4] at hz; rw [q 2 z (by decide) (by decide)]; exact h.nu9 z hz
  · rw [c4] at hz hz'; rw [q 2 z (by decide) (by decide), q 2 z' (by decide) (by decide)] at e; exact h.nui z z' hz hz' e
  · rw [c1] at hj
    rw [c4, q0 0 (Or.inl rfl) j hj, q0 1 (Or.inr rfl) j hj]
    exact h.lk _ (b1 j hj).1
  · rw [c1] at hi hj
    rw [q0 0 (Or.inl rfl) i hi, q0 0 (Or.inl rfl) j hj] at e1
    rw [q0 1 (Or.inr rfl) i hi, q0 1 (Or.inr rfl) j hj] at e2
    have := h.lki _ _ (b1 i hi).1 (b1 j hj).1 e1 e2
    split at this <;> split at this <;> omega
  · dsimp only
    rw [h.hE, c1]
    constructor
    · rintro ⟨⟨j, hj, e1, e2⟩, hne⟩
      have hjk : j ≠ k := fun z => hne ⟨by rw [← e1, z], by rw [← e2, z]⟩
      have hex : ∃ i, i < cn 1 - 1 ∧ (if k ≤ i then i + 1 else i) = j := by
        by_cases z : j < k
        · exact ⟨j, by omega, if_neg (by omega)⟩
        · exact ⟨j - 1, by omega, by rw [if_pos (by omega)]; omega⟩
      obtain ⟨i, hi, ei⟩ := hex
      refine ⟨i, hi, ?_, ?_⟩
      · rw [q0 0 (Or.inl rfl) i hi, ei, q 2 _ (by decide) (by decide)]; exact e1
      · rw [q0 1 (Or.inr rfl) i hi, ei, q 2 _ (by decide) (by decide)]; exact e2
    · rintro ⟨i, hi, e1, e2⟩
      rw [q0 0 (Or.inl rfl) i hi, q 2 _ (by decide) (by decide)] at e1
      rw [q0 1 (Or.inr rfl) i hi, q 2 _ (by decide) (by decide)] at e2
      obtain ⟨p1, p2⟩ := b1 i hi
      refine ⟨⟨_, p1, e1, e2⟩, fun z => p2 ?_⟩
      have l1 := h.lk _ p1
      have l2 := h.lk k hk
      exact h.lki _ _ p1 hk (h.nui _ _ l1.1 l2.1 (e1.trans z.1)) (h.nui _ _ l1.2 l2.2 (e2.trans z.2))
  · rw [h.hT, c4]
    constructor
    · rintro ⟨z, hz, e1, e2⟩; exact ⟨z, hz, by rw [q 2 _ (by decide) (by decide)]; exact e1, e2⟩
    · rintro ⟨z, hz, e1, e2⟩; rw [q 2 _ (by decide) (by decide)] at e1; exact ⟨z, hz, e1, e2⟩
  · rw [h.hR, c4]
    constructor
    · rintro ⟨z, hz, e1, e2⟩; exact ⟨z, hz, by rw [q 2 _ (by decide) (by decide)]; exact e1, e2⟩
    · rintro ⟨z, hz, e1, e2⟩; rw [q 2 _ (by decide) (by decide)] at e1; exact ⟨z, hz, e1, e2⟩
  · rw [c4] at hz; exact h.hz z hz
  · rw [c10] at hi; rw [q 7 _ (by decide) (by decide)]; exact h.hw i hi
theorem MoX_ext (h : MoX lb nb E T Rg wl rc cn nA fb) {E' : Nat → Nat → Prop} {T' : Nat → Prop} (hE : ∀ a b, E' a b ↔ E a b) (hT : ∀ a, T' a ↔ T a) : MoX lb nb E' T' Rg wl rc cn nA fb :=
  ⟨h.hl, h.hn, h.nu9, h.nui, h.lk, h.lki, fun a b => (hE a b).trans (h.hE a b), fun a => (hT a).trans (h.hT a), h.hR, h.hz, h.hm, h.hm9, h.hw, h.hf⟩
end MOXS
/-- place, in these words -/
theorem place_step {S u : sS} {m0 : Nat} {ar : Nat → Nat} {lb nb : Nat} {E : Nat → Nat → Prop} {T Rg : Nat → Prop} {wl : List Nat} {rc : Nat} {cn : Nat → Nat} {nA : Nat → Nat → Nat} {fb : Nat → Nat → Bool} {v : Nat} {x : Int32} (hi : Mi S.2.2.1 m0 ar cn nA fb) (h : MoX lb nb E T Rg wl rc cn nA fb) (hv : v < 16384) (hP : PlaceP S m0 ar cn nA fb v x u) :
    ∃ it' cn' nA' k, u = (S.1, S.2.1, it', S.2.2.2) ∧ Mi it' m0 ar cn' nA' fb ∧ MoX lb (nb + 1) E T Rg wl rc cn' nA' fb ∧ k < cn' 4 ∧ nA' 2 k = v ∧ x = nI k ∧ it' m0 0 = S.2.2.1 m0 0 ∧ cn 4 ≤ cn' 4 ∧ (∀ y, y < cn 4 → nA' 2 y = nA 2 y) ∧ cn' 1 = cn 1 ∧ (∀ y, nA' 0 y = nA 0 y ∧ nA' 1 y = nA 1 y) := by
  rcases hP with ⟨k, hk, e1, e2, rfl⟩ | ⟨hno, e2, it', hu, hi', hz⟩
  · exact ⟨_, cn, nA, k, rfl, hi, MoX_mono h (Nat.le_refl _) (Nat.le_succ _), hk, e1, e2, rfl, Nat.le_refl _, fun _ _ => rfl, rfl, fun _ => ⟨rfl, rfl⟩⟩
  · refine ⟨it', _, _, cn 4, hu, hi', MoX_new h hv hno, ?_, up2_self _ _ _ _, e2, hz, ?_, fun y hy => up2_ne _ _ (by omega), va_up_ne _ _ (by decide), fun y => ⟨by rw [up2_off _ _ (by decide)], by rw [up2_off _ _ (by decide)]⟩⟩
    · rw [va_up_self]; exact Nat.lt_succ_self _
    · rw [va_up_self]; exact Nat.le_succ _
theorem nu_ex {E : Nat → Nat → Prop} {T Rg : Nat → Prop} {lb nb : Nat} {wl : List Nat} {rc : Nat} {cn : Nat → Nat} {nA : Nat → Nat → Nat} {fb : Nat → Nat → Bool} (h : MoX lb nb E T Rg wl rc cn nA fb) {x y : Nat} (hx : x < cn 4) (hy : y < cn 4) : E (nA 2 x) (nA 2 y) ↔ ∃ k, k < cn 1 ∧ nA 0 k = x ∧ nA 1 k = y := by
  rw [h.hE]
  constructor
  · rintro ⟨k, hk, e1, e2⟩
    have := h.lk k hk
    exact ⟨k, hk, h.nui _ _ this.1 hx e1, h.nui _ _ this.2 hy e2⟩
  · rintro ⟨k, hk, e1, e2⟩; exact ⟨k, hk, by rw [e1], by rw [e2]⟩
