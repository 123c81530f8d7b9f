/-- the lengths that a row may have while it holds at most 1024 numbers -/
abbrev pw (c : Nat) : Prop := c = 16 ∨ c = 32 ∨ c = 64 ∨ c = 128 ∨ c = 256 ∨ c = 512 ∨ c = 1024
/-! the object's world: four Numbers (0 touched, 1 found, 2 worked, 3 the heap's), the table, nodes and links -/
def Mz (S : sS) (h0 tb pa q : Nat) (na : Nat → Nat) (nd : Nat → Option Nat) (rd sr : Nat → List (Nat × Nat)) (nr nc nn : Nat → Nat) (nf : Nat → Nat → Nat) : Prop :=
  Hd S h0 tb (na 0) (na 1) (na 2) q ∧ (S.1 q = some (.inl 6) ∧ S.2.1 q 0 = some (na 3)) ∧ Gr9 S tb pa nd rd sr ∧ (∀ i, i < 4 → Nm S (na i) (nr i) (nc i) (nn i) (nf i)) ∧ (∀ i j, i < 4 → j < 4 → na i = na j → i = j) ∧ ∀ i j, i < 4 → j < 4 → nr i = nr j → i = j
/-- a number of a node's, by the node's number -/
def fl (S : sS) (nd : Nat → Option Nat) (i v : Nat) : Int32 := match nd v with
  | some a => S.2.2.1 a i
  | none => 0
theorem fl_at {S : sS} {nd : Nat → Option Nat} {i v a : Nat} (h : nd v = some a) : fl S nd i v = S.2.2.1 a i := by rw [fl, h]
theorem fl_no {S : sS} {nd : Nat → Option Nat} {i v : Nat} (h : nd v = none) : fl S nd i v = 0 := by rw [fl, h]
theorem Nm_fl {S : sS} {a r cap n b i : Nat} {f : Nat → Nat} {x : Int32} (h : Nm S a r cap n f) (ha : a ≠ b) (hr : r ≠ b) : Nm (S.1, S.2.1, up2 S.2.2.1 b i x, S.2.2.2) a r cap n f := by
  obtain ⟨ka, hrow, kr, hn, hle, h16, hcap, hf⟩ := h
  exact ⟨ka, hrow, kr, by show up2 S.2.2.1 b i x a 1 = nI n; rw [up2_off _ _ ha]; exact hn, hle, h16, hcap, fun j hj => by show up2 S.2.2.1 b i x r j = nI (f j); rw [up2_off _ _ hr]; exact hf j hj⟩
theorem Mz_flag {S : sS} {h0 tb pa q : Nat} {na : Nat → Nat} {nd : Nat → Option Nat} {rd sr : Nat → List (Nat × Nat)} {nr nc nn : Nat → Nat} {nf : Nat → Nat → Nat} (h : Mz S h0 tb pa q na nd rd sr nr nc nn nf) {v a i : Nat} (hv : nd v = some a) (hi : 5 ≤ i) (x : Int32) :
    Mz (S.1, S.2.1, up2 S.2.2.1 a i x, S.2.2.2) h0 tb pa q na nd rd sr nr nc nn nf ∧ ∀ j w, fl (S.1, S.2.1, up2 S.2.2.1 a i x, S.2.2.2) nd j w = if w = v ∧ j = i then x else fl S nd j w := by
  obtain ⟨h1, h2, h3, h4, h5⟩ := h
  have ka := (h3.nk hv).2.1
  refine ⟨⟨h1, h2, Gr9_it h3 ⟨by omega, by omega, by omega⟩, fun k hk => ?_, h5⟩, fun j w => ?_⟩
  · have hN := h4 k hk
    exact Nm_fl hN (sk_d hN.1 ka (by decide)) (sk_d hN.2.2.1 ka (fun z => by cases z))
  · cases hw : nd w with
    | none =>
      rw [fl_no hw, fl_no hw, if_neg]
      rintro ⟨e, -⟩
      rw [e, hv] at hw; cases hw
    | some b =>
      rw [fl_at hw, fl_at hw]
      show up2 S.2.2.1 a i x b j = _
      by_cases e : w = v
      · have eb : b = a := by rw [e, hv] at hw; exact (Option.some.inj hw).symm
        rw [eb, e]
        by_cases ej : j = i
        · rw [ej, up2_self, if_pos ⟨rfl, rfl⟩]
        · rw [up2_ne _ _ ej, if_neg (fun z => ej z.2)]
      · have hb : b ≠ a := fun z => e (h3.inj (by rw [z] at hw; exact hw) hv)
        rw [up2_off _ _ hb, if_neg (fun z => e z.1)]
theorem Mz_num {S u : sS} {h0 tb pa q : Nat} {na : Nat → Nat} {nd : Nat → Option Nat} {rd sr : Nat → List (Nat × Nat)} {nr nc nn : Nat → Nat} {nf : Nat → Nat → Nat} (h : Mz S h0 tb pa q na nd rd sr nr nc nn nf) {i r' c' n' : Nat} {f' : Nat → Nat} (hi : i < 4) (hN : Nm u (na i) r' c' n' f') (hF : sFr S u (fun z => z = na i ∨ z = nr i)) (hr : r' = nr i ∨ S.1 r' = none) :
    Mz u h0 tb pa q na nd rd sr (va_up nr i r') (va_up nc i c') (va_up nn i n') (va_up nf i f') ∧ (∀ j w, fl u nd j w = fl S nd j w) ∧ ∀ j, u.2.2.1 h0 j = S.2.2.1 h0 j := by
  obtain ⟨h1, h2, h3, h4, h5, h6⟩ := h
  have hNi := h4 i hi
  have hP : ∀ {b c : Nat}, S.1 b = some (.inl c) → c ≠ 5 → ¬ (b = na i ∨ b = nr i) := by
    intro b c hb hc z
    rcases z with z | z
    · rw [z, hNi.1] at hb; exact hc (Sum.inl.inj (Option.some.inj hb)).symm
    · rw [z, hNi.2.2.1] at hb; cases hb
  have hne : ∀ k, k < 4 → k ≠ i → ¬ (na k = na i ∨ na k = nr i) ∧ ¬ (nr k = na i ∨ nr k = nr i) := by
    intro k hk hki
    have hNk := h4 k hk
    refine ⟨fun z => ?_, fun z => ?_⟩
    · rcases z with z | z
      · exact hki (h5 k i hk hi z)
      · have := hNk.1; rw [z, hNi.2.2.1] at this; cases this
    · rcases z with z | z
      · have := hNk.2.2.1; rw [z, hNi.1] at this; cases this
      · exact hki (h6 k i hk hi z)
  refine ⟨⟨Hd_fr h1 hF (hP h1.1 (by decide)), ?_, ?_, fun k hk => ?_, h5, fun k j hk hj e => ?_⟩, fun j w => ?_, fun j => ?_⟩
  · obtain ⟨a1, a2⟩ := hF q (sk_nn h2.1)
    exact ⟨by rw [a1]; exact h2.1, by rw [(a2 (hP h2.1 (by decide))).1]; exact h2.2⟩
  · refine Gr9_fr h3 hF (fun b k hb hk z => ?_)
    rcases z with z | z
    · rw [z, hNi.1] at hb; rw [← Option.some.inj hb] at hk; cases hk
    · rw [z, hNi.2.2.1] at hb; rw [← Option.some.inj hb] at hk; cases hk
  · by_cases e : k = i
    · rw [e, va_up_self, va_up_self, va_up_self, va_up_self]; exact hN
    · rw [va_up_ne _ _ e, va_up_ne _ _ e, va_up_ne _ _ e, va_up_ne _ _ e]
      exact Nm_keep (h4 k hk) hF (hne k hk e).1 (hne k hk e).2
  · have fr9 : ∀ k, k < 4 → k ≠ i → nr k ≠ r' := by
      intro k hk hki z
      rcases hr with y | y
      · exact hki (h6 k i hk hi (z.trans y))
      · have := (h4 k hk).2.2.1; rw [z, y] at this; cases this
    by_cases e1 : k = i
    · by_cases e2 : j = i
      · omega
      · rw [e1, va_up_self, va_up_ne _ _ e2] at e; exact absurd e.symm (fr9 j hj e2)
    · by_cases e2 : j = i
      · rw [e2, va_up_self, va_up_ne _ _ e1] at e; exact absurd e (fr9 k hk e1)
      · rw [va_up_ne _ _ e1, va_up_ne _ _ e2] at e; exact h6 k j hk hj e
  · cases hw : nd w with
    | none => rw [fl_no hw, fl_no hw]
    | some b =>
      have kb := (h3.nk hw).2.1
      rw [fl_at hw, fl_at hw, ((hF b (sk_nn kb)).2 (hP kb (by decide))).2.1]
  · rw [((hF h0 (sk_nn h1.1)).2 (hP h1.1 (by decide))).2.1]
/-- add to a row of the four -/
theorem Mz_add {S u : sS} {h0 tb pa q : Nat} {na : Nat → Nat} {nd : Nat → Option Nat} {rd sr : Nat → List (Nat × Nat)} {nr nc nn : Nat → Nat} {nf : Nat → Nat → Nat} (h : Mz S h0 tb pa q na nd rd sr nr nc nn nf) {i v : Nat} (hi : i < 4) (hA : AddP S (na i) (nr i) (nc i) (nn i) (nf i) v u) :
    ∃ r', Mz u h0 tb pa q na nd rd sr (va_up nr i r') (va_up nc i (if nn i < nc i then nc i else 2 * nn i)) (va_up nn i (nn i + 1)) (va_up nf i (fun k => if k = nn i then v else nf i k)) ∧ (∀ j w, fl u nd j w = fl S nd j w) ∧ ∀ j, u.2.2.1 h0 j = S.2.2.1 h0 j := by
  obtain ⟨r', c', a1, a2, a3, a4, -⟩ := hA
  subst a4
  exact ⟨r', Mz_num h hi a1 a2 a3⟩
theorem Mz_empty {S : sS} {h0 tb pa q : Nat} {na : Nat → Nat} {nd : Nat → Option Nat} {rd sr : Nat → List (Nat × Nat)} {nr nc nn : Nat → Nat} {nf : Nat → Nat → Nat} (h : Mz S h0 tb pa q na nd rd sr nr nc nn nf) {i : Nat} (hi : i < 4) :
    Mz (S.1, S.2.1, up2 S.2.2.1 (na i) 1 0, S.2.2.2) h0 tb pa q na nd rd sr nr nc (va_up nn i 0) nf ∧ (∀ j w, fl (S.1, S.2.1, up2 S.2.2.1 (na i) 1 0, S.2.2.2) nd j w = fl S nd j w) ∧ ∀ j, up2 S.2.2.1 (na i) 1 0 h0 j = S.2.2.1 h0 j := by
  obtain ⟨ka, hrow, kr, hn, hle, h16, hcap, hf⟩ := h.2.2.2.1 i hi
  have hN : Nm (S.1, S.2.1, up2 S.2.2.1 (na i) 1 0, S.2.2.2) (na i) (nr i) (nc i) 0 (nf i) := ⟨ka, hrow, kr, up2_self _ _ _ _, Nat.zero_le _, h16, hcap, fun k hk => absurd hk (Nat.not_lt_zero k)⟩
  have hF : sFr S (S.1, S.2.1, up2 S.2.2.1 (na i) 1 0, S.2.2.2) (fun z => z = na i ∨ z = nr i) := fun b hb => ⟨rfl, fun hn9 => ⟨rfl, by show up2 S.2.2.1 (na i) 1 0 b = _; rw [up2_off _ _ (fun z => hn9 (Or.inl z))], rfl⟩⟩
  have := Mz_num h hi hN hF (Or.inl rfl)
  rw [va_up_same (f := nr) (k := i) rfl, va_up_same (f := nc) (k := i) rfl, va_up_same (f := nf) (k := i) rfl] at this
  exact this
theorem hp_set_push {f g : Nat → Nat} {n v : Nat} (hg : ∀ i, i < n → g i = f i) (hv : g n = v) (x : Nat) : hp_set g (n + 1) x ↔ hp_set f n x ∨ x = v := by
  constructor
  · rintro ⟨i, hi, e⟩
    by_cases z : i = n
    · rw [z, hv] at e; exact Or.inr e.symm
    · exact Or.inl ⟨i, by omega, by rw [← hg i (by omega)]; exact e⟩
  · rintro (⟨i, hi, e⟩ | e)
    · exact ⟨i, by omega, by rw [hg i hi]; exact e⟩
    · exact ⟨n, by omega, by rw [hv, e]⟩
theorem hp_inj_push {f g : Nat → Nat} {n v : Nat} (h : hp_inj f n) (hg : ∀ i, i < n → g i = f i) (hv : g n = v) (hs : ¬ hp_set f n v) : hp_inj g (n + 1) := by
  intro i j hi hj e
  by_cases z1 : i = n
  · by_cases z2 : j = n
    · omega
    · rw [z1, hv, hg j (by omega)] at e; exact absurd ⟨j, by omega, e.symm⟩ hs
  · by_cases z2 : j = n
    · rw [z2, hv, hg i (by omega)] at e; exact absurd ⟨i, by omega, e⟩ hs
    · rw [hg i (by omega), hg j (by omega)] at e; exact h i j (by omega) (by omega) e
