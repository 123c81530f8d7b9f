/-- what is found so far: n numbers f -/
def Fnd (S : sS) (h0 tb pa q : Nat) (na : Nat → Nat) (nd : Nat → Option Nat) (rd sr : Nat → List (Nat × Nat)) (nr nc nn : Nat → Nat) (nf : Nat → Nat → Nat) (r c n : Nat) (f : Nat → Nat) : Prop :=
  Mz S h0 tb pa q na nd rd sr (va_up nr 1 r) (va_up nc 1 c) (va_up nn 1 n) (va_up nf 1 f) ∧ hp_inj f n ∧ (∀ i, i < n → nd (f i) ≠ none) ∧ (∀ v, (hp_set f n v → fl S nd 7 v = 1) ∧ (¬ hp_set f n v → fl S nd 7 v = 0)) ∧ pw c
/-- at most m nodes were named -/
def fewN (nd : Nat → Option Nat) (m : Nat) : Prop := ∃ L : List Nat, L.length ≤ m ∧ ∀ v, nd v ≠ none → v ∈ L
theorem few_le {nd : Nat → Option Nat} {m n : Nat} {f : Nat → Nat} (h : fewN nd m) (hi : hp_inj f n) (hn : ∀ i, i < n → nd (f i) ≠ none) : n ≤ m := by
  obtain ⟨L, hL, hm⟩ := h
  have h1 : ((List.range n).map f).Nodup := by
    rw [List.nodup_iff_pairwise_ne, List.pairwise_iff_getElem]
    intro i j h1 h2 hij e
    have h1' : i < n := by simpa using h1
    have h2' : j < n := by simpa using h2
    have e' : f i = f j := by simpa using e
    have := hi i j h1' h2' e'
    omega
  have h2 : ((List.range n).map f) ⊆ L := by
    intro x hx
    obtain ⟨i, hi9, e⟩ := List.mem_map.mp hx
    rw [← e]
    exact hm _ (hn i (List.mem_range.mp hi9))
  have h3 := List.Nodup.length_le_of_subset h1 h2
  simp at h3
  omega
theorem inj_room {nd : Nat → Option Nat} {m n x : Nat} {f : Nat → Nat} (h : fewN nd m) (hi : hp_inj f n) (hn : ∀ i, i < n → nd (f i) ≠ none) (hx : nd x ≠ none) (hs : ¬ hp_set f n x) : n + 1 ≤ m := by
  refine few_le (f := fun k => if k = n then x else f k) h (hp_inj_push hi (fun i hi => if_neg (by omega)) (if_pos rfl) hs) (fun i hi => ?_)
  by_cases e : i = n
  · rw [if_pos e]; exact hx
  · rw [if_neg e]; exact hn i (by omega)
theorem Fnd_room {S : sS} {h0 tb pa q : Nat} {na : Nat → Nat} {nd : Nat → Option Nat} {rd sr : Nat → List (Nat × Nat)} {nr nc nn : Nat → Nat} {nf : Nat → Nat → Nat} {r c n : Nat} {f : Nat → Nat} (h : Fnd S h0 tb pa q na nd rd sr nr nc nn nf r c n f) (hL : fewN nd 1024) {w a : Nat} (hw : nd w = some a) (z : S.2.2.1 a 7 = 0) : n + 1 ≤ 1024 := by
  obtain ⟨hZ, hinj, hnd, h7, hc⟩ := h
  refine inj_room hL hinj hnd (by rw [hw]; exact fun y => by cases y) (fun y => ?_)
  have := (h7 w).1 y
  rw [fl_at hw, z] at this; cases this
theorem Fnd_mark {S u : sS} {h0 tb pa q : Nat} {na : Nat → Nat} {nd : Nat → Option Nat} {rd sr : Nat → List (Nat × Nat)} {nr nc nn : Nat → Nat} {nf : Nat → Nat → Nat} {r c n : Nat} {f : Nat → Nat} (h : Fnd S h0 tb pa q na nd rd sr nr nc nn nf r c n f) (hL : fewN nd 1024) {w a : Nat} (hw : nd w = some a) (hm : MarkFoundP S a (na 1) r c n f w u) :
    ∃ r' c' n' f', Fnd u h0 tb pa q na nd rd sr nr nc nn nf r' c' n' f' ∧ (∀ v, hp_set f' n' v ↔ hp_set f n v ∨ v = w) ∧ (n ≤ n' ∧ ∀ i, i < n → f' i = f i) ∧ (∀ j v, j ≠ 7 → fl u nd j v = fl S nd j v) ∧ (∀ j, u.2.2.1 h0 j = S.2.2.1 h0 j) ∧ c / 16 + (if S.2.2.1 a 7 = 0 ∧ ¬ n < c then 1 else 0) ≤ c' / 16 ∧ 2 * c + (if S.2.2.1 a 7 = 0 ∧ ¬ n < c then 2 * n else 0) ≤ 2 * c' := by
  obtain ⟨hZ, hinj, hnd, h7, hc⟩ := h
  have hNm := hZ.2.2.2.1 1 (by decide)
  simp only [va_up_self] at hNm
  have hle := hNm.2.2.2.2.1
  have h16 := hNm.2.2.2.2.2.1
  have e7 : S.2.2.1 a 7 = fl S nd 7 w := (fl_at hw).symm
  rcases hm with ⟨z, rfl⟩ | ⟨z, hA⟩
  · have hin : hp_set f n w := Classical.byContradiction fun y => z (by rw [e7]; exact (h7 w).2 y)
    refine ⟨r, c, n, f, ⟨hZ, hinj, hnd, h7, hc⟩, fun v => ⟨Or.inl, fun y => y.elim id (fun y => by rw [y]; exact hin)⟩, ⟨Nat.le_refl _, fun _ _ => rfl⟩, fun _ _ _ => rfl, fun _ => rfl, ?_, ?_⟩
    · rw [if_neg (fun y => z y.1)]; exact Nat.le_refl _
    · rw [if_neg (fun y => z y.1)]; exact Nat.le_refl _
  · have hout : ¬ hp_set f n w := fun y => by have := (h7 w).1 y; rw [← e7, z] at this; cases this
    obtain ⟨hZ2, f2⟩ := Mz_flag hZ hw (i := 7) (by decide) 1
    have hA2 : AddP (S.1, S.2.1, up2 S.2.2.1 a 7 1, S.2.2.2) (na 1) (va_up nr 1 r 1) (va_up nc 1 c 1) (va_up nn 1 n 1) (va_up nf 1 f 1) w u := by simp only [va_up_self]; exact hA
    obtain ⟨r', hZ3, f3, g3⟩ := Mz_add hZ2 (i := 1) (by decide) hA2
    simp only [va_up_self, bx_uu] at hZ3
    have hg : ∀ i, i < n → (fun k => if k = n then w else f k) i = f i := fun i hi => if_neg (by omega)
    have hgn : (fun k => if k = n then w else f k) n = w := if_pos rfl
    have hinj2 := hp_inj_push hinj hg hgn hout
    have hnd2 : ∀ i, i < n + 1 → nd ((fun k => if k = n then w else f k) i) ≠ none := by
      intro i hi
      by_cases e : i = n
      · rw [e, hgn, hw]; exact fun y => by cases y
      · rw [hg i (by omega)]; exact hnd i (by omega)
    have hle2 := few_le hL hinj2 hnd2
    have hset := hp_set_push hg hgn
    have efl : ∀ j v, fl u nd j v = if v = w ∧ j = 7 then 1 else fl S nd j v := fun j v => by rw [f3, f2]
    have hha : h0 ≠ a := sk_d hZ.1.1 (hZ.2.2.1.nk hw).2.1 (by decide)
    refine ⟨r', _, n + 1, _, ⟨hZ3, hinj2, hnd2, fun v => ⟨fun hs => ?_, fun hs => ?_⟩, ?_⟩, hset, ⟨by omega, hg⟩, fun j v hj => ?_, fun j => ?_, ?_, ?_⟩
    · rw [efl]
      by_cases e : v = w
      · rw [if_pos ⟨e, rfl⟩]
      · rw [if_neg (fun y => e y.1)]
        exact (h7 v).1 (((hset v).mp hs).elim id (fun y => absurd y e))
    · have e : v ≠ w := fun y => hs ((hset v).mpr (Or.inr y))
      rw [efl, if_neg (fun y => e y.1)]
      exact (h7 v).2 (fun y => hs ((hset v).mpr (Or.inl y)))
    · split <;> omega
    · rw [efl, if_neg (fun y => hj y.2)]
    · rw [g3]
      show up2 S.2.2.1 a 7 1 h0 j = _
      rw [up2_off _ _ hha]
    · by_cases e : n < c
      · rw [if_neg (fun y => y.2 e), if_pos e]; omega
      · rw [if_pos ⟨z, e⟩, if_neg e]; omega
    · by_cases e : n < c
      · rw [if_neg (fun y => y.2 e), if_pos e]; omega
      · rw [if_pos ⟨z, e⟩, if_neg e]; omega
/-- a place of a list of pairs -/
theorem ml_at {l : List (Nat × Nat)} {j k : Nat} (h : (l.map Prod.fst)[j]? = some k) : ∃ w, l[j]? = some (k, w) := by
  rw [List.getElem?_map] at h
  cases hz : l[j]? with
  | none => rw [hz] at h; cases h
  | some x =>
    rw [hz] at h
    have e : x.1 = k := Option.some.inj h
    exact ⟨x.2, by rw [← e]⟩
