/-! the graph of nodes and links in the store: node v at nd v; rd v: its links to what it reads, with the numbers read; sr v: the links of its readers, with their numbers -/
def gkk : sK → Bool
  | .inl c => c == 1 || c == 2 || c == 3 || c == 4
  | .inr tn => tn.1 == 1 || tn.1 == 2
def Gr9 (S : sS) (tb pa : Nat) (nd : Nat → Option Nat) (rd sr : Nat → List (Nat × Nat)) : Prop :=
  Tb S tb pa nd ∧
  (∀ v a, nd v = some a → chI S.2.1 2 3 (S.2.1 a 1) ((rd v).map Prod.fst) ∧ S.2.2.1 a 3 = nI (rd v).length ∧ chI S.2.1 4 5 (S.2.1 a 2) ((sr v).map Prod.fst) ∧ S.2.2.1 a 4 = nI (sr v).length) ∧
  (∀ v, ((rd v).map Prod.fst).Nodup ∧ ((sr v).map Prod.fst).Nodup ∧ ((rd v).map Prod.snd).Nodup ∧ (nd v = none → rd v = [] ∧ sr v = [])) ∧
  (∀ v k u, (k, u) ∈ rd v → S.1 k = some (.inl 4) ∧ (∃ a, nd v = some a ∧ S.2.1 k 0 = some a) ∧ (∃ b, nd u = some b ∧ S.2.1 k 1 = some b) ∧ (k, v) ∈ sr u) ∧
  ∀ u k v, (k, v) ∈ sr u → (k, u) ∈ rd v
/-- who reads whom -/
def rE (rd : Nat → List (Nat × Nat)) (v u : Nat) : Prop := ∃ k, (k, u) ∈ rd v
theorem Tb_dep {S u : sS} {tb pa : Nat} {nd : Nat → Option Nat} (h : Tb S tb pa nd) (hg : ∀ b k, S.1 b = some k → gkk k = true → u.1 b = S.1 b ∧ u.2.1 b = S.2.1 b) (hi : ∀ v a, nd v = some a → u.2.2.1 a 0 = S.2.2.1 a 0) : Tb u tb pa nd := by
  obtain ⟨kt, ht, kp, hpgs, hdi, hnd⟩ := h
  have pg : ∀ i g, i < 128 → S.2.1 pa i = some g → u.2.1 g = S.2.1 g := by
    intro i g hi9 hg9
    rcases hpgs i hi9 with ⟨z1, -⟩ | ⟨g2, r9, z1, z2, -⟩
    · rw [z1] at hg9; cases hg9
    · have e : g2 = g := Option.some.inj (z1.symm.trans hg9)
      rw [← e]; exact (hg g2 _ z2 rfl).2
  have ep := (hg pa _ kp rfl).2
  refine ⟨by rw [(hg tb _ kt rfl).1]; exact kt, by rw [(hg tb _ kt rfl).2]; exact ht, by rw [(hg pa _ kp rfl).1]; exact kp, fun i hi9 => ?_, fun i i' g g' r9 h1 h2 h3 h4 h5 h6 => ?_, fun n a hn => ?_⟩
  · rcases hpgs i hi9 with ⟨z1, z2⟩ | ⟨g, r9, z1, z2, z3, z4, z5⟩
    · exact Or.inl ⟨by rw [ep]; exact z1, z2⟩
    · refine Or.inr ⟨g, r9, by rw [ep]; exact z1, by rw [(hg g _ z2 rfl).1]; exact z2, by rw [(hg g _ z2 rfl).2]; exact z3, by rw [(hg r9 _ z4 rfl).1]; exact z4, fun j hj => ?_⟩
      rw [(hg r9 _ z4 rfl).2]; exact z5 j hj
  · rw [ep] at h3 h4
    rw [pg i g h1 h3] at h5
    rw [pg i' g' h2 h4] at h6
    exact hdi i i' g g' r9 h1 h2 h3 h4 h5 h6
  · obtain ⟨b1, b2, b3⟩ := hnd n a hn
    exact ⟨b1, by rw [(hg a _ b2 rfl).1]; exact b2, by rw [hi n a hn]; exact b3⟩
theorem Gr9.nk {S : sS} {tb pa : Nat} {nd : Nat → Option Nat} {rd sr : Nat → List (Nat × Nat)} (h : Gr9 S tb pa nd rd sr) {v a : Nat} (hv : nd v = some a) : v < 16384 ∧ S.1 a = some (.inl 3) ∧ S.2.2.1 a 0 = nI v := h.1.2.2.2.2.2 v a hv
theorem Gr9.inj {S : sS} {tb pa : Nat} {nd : Nat → Option Nat} {rd sr : Nat → List (Nat × Nat)} (h : Gr9 S tb pa nd rd sr) {v w a : Nat} (hv : nd v = some a) (hw : nd w = some a) : v = w := by
  obtain ⟨a1, -, a3⟩ := h.nk hv
  obtain ⟨b1, -, b3⟩ := h.nk hw
  exact (nI_eq (by omega) (by omega)).mp (a3.symm.trans b3)
/-- the graph stands on its own cells alone -/
theorem Gr9_dep {S u : sS} {tb pa : Nat} {nd : Nat → Option Nat} {rd sr : Nat → List (Nat × Nat)} (h : Gr9 S tb pa nd rd sr) (hg : ∀ b k, S.1 b = some k → gkk k = true → u.1 b = S.1 b ∧ u.2.1 b = S.2.1 b) (hi : ∀ v a, nd v = some a → ∀ i, i = 0 ∨ i = 3 ∨ i = 4 → u.2.2.1 a i = S.2.2.1 a i) : Gr9 u tb pa nd rd sr := by
  have h' := h
  obtain ⟨hT, hc, hn, hr, hs⟩ := h'
  refine ⟨Tb_dep hT hg (fun v a hv => hi v a hv 0 (Or.inl rfl)), fun v a hv => ?_, hn, fun v k w hk => ?_, hs⟩
  · obtain ⟨c1, c2, c3, c4⟩ := hc v a hv
    have ea := (hg a _ (h.nk hv).2.1 rfl).2
    refine ⟨?_, by rw [hi v a hv 3 (Or.inr (Or.inl rfl))]; exact c2, ?_, by rw [hi v a hv 4 (Or.inr (Or.inr rfl))]; exact c4⟩
    · rw [ea]
      refine chI_keep c1 (fun x hx => ?_)
      obtain ⟨⟨k, w⟩, hm, e⟩ := List.mem_map.mp hx
      have kx := (hr v k w hm).1
      have e2 : k = x := e
      rw [e2] at kx
      rw [(hg x _ kx rfl).2]; exact ⟨rfl, rfl⟩
    · rw [ea]
      refine chI_keep c3 (fun x hx => ?_)
      obtain ⟨⟨k, w⟩, hm, e⟩ := List.mem_map.mp hx
      have kx := (hr w k v (hs v k w hm)).1
      have e2 : k = x := e
      rw [e2] at kx
      rw [(hg x _ kx rfl).2]; exact ⟨rfl, rfl⟩
  · obtain ⟨d1, ⟨a, d2, d3⟩, ⟨b, d4, d5⟩, d6⟩ := hr v k w hk
    have ek := hg k _ d1 rfl
    exact ⟨by rw [ek.1]; exact d1, ⟨a, d2, by rw [ek.2]; exact d3⟩, ⟨b, d4, by rw [ek.2]; exact d5⟩, d6⟩
theorem Gr9_fr {S u : sS} {tb pa : Nat} {nd : Nat → Option Nat} {rd sr : Nat → List (Nat × Nat)} {P : Nat → Prop} (h : Gr9 S tb pa nd rd sr) (hF : sFr S u P) (hP : ∀ b k, S.1 b = some k → gkk k = true → ¬ P b) : Gr9 u tb pa nd rd sr := by
  refine Gr9_dep h (fun b k hb hk => ?_) (fun v a hv i hi => ?_)
  · obtain ⟨a1, a2⟩ := hF b (sk_nn hb)
    exact ⟨a1, (a2 (hP b k hb hk)).1⟩
  · have ka := (h.nk hv).2.1
    obtain ⟨a1, a2⟩ := hF a (sk_nn ka)
    rw [(a2 (hP a _ ka rfl)).2.1]
/-- a flag of a node, or a number of another cell, changed -/
theorem Gr9_it {S : sS} {tb pa : Nat} {nd : Nat → Option Nat} {rd sr : Nat → List (Nat × Nat)} (h : Gr9 S tb pa nd rd sr) {a i : Nat} {x : Int32} (hi : i ≠ 0 ∧ i ≠ 3 ∧ i ≠ 4) : Gr9 (S.1, S.2.1, up2 S.2.2.1 a i x, S.2.2.2) tb pa nd rd sr :=
  Gr9_dep h (fun b k hb hk => ⟨rfl, rfl⟩) (fun v b hv j hj => by
    show up2 S.2.2.1 a i x b j = S.2.2.1 b j
    rw [up2_ne _ _ (by omega)])
