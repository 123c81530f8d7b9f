/-! two stores side by side: a call with the first one -/
def sJ (S1 S2 : sS) : sS := (fun a => match S1.1 a with | some k => some k | none => S2.1 a, fun a => match S1.1 a with | some _ => S1.2.1 a | none => S2.2.1 a, fun a => match S1.1 a with | some _ => S1.2.2.1 a | none => S2.2.2.1 a, fun a => match S1.1 a with | some _ => S1.2.2.2 a | none => S2.2.2.2 a)
def sDj (S1 S2 : sS) : Prop := ∀ a, S1.1 a ≠ none → S2.1 a = none
theorem sMk_J {sg : Nat → List Bool} {tk : Nat → Nat} {dA : Nat → ClassId} (S1 S2 : sS) (a : Nat) : sMk sg tk dA (sJ S1 S2) a = match S1.1 a with | some _ => sMk sg tk dA S1 a | none => sMk sg tk dA S2 a := by
  unfold sMk sJ
  cases h : S1.1 a with
  | none => simp [h]
  | some k => cases k <;> simp [h]
theorem sD_nd {A : Nat → Prop} {ws : va_W} (h : va_D A ws) : (ws.map Prod.fst).Nodup := by
  rw [List.nodup_iff_pairwise_ne, List.pairwise_iff_getElem]
  intro i j hi hj hij e
  have hi' : i < ws.length := by simpa using hi
  have hj' : j < ws.length := by simpa using hj
  have e1 : ws[i].1 = ws[j].1 := by simpa using e
  have := h.1 i j _ _ (List.getElem?_eq_getElem hi') (List.getElem?_eq_getElem hj') e1
  omega
theorem sD_of {A : Nat → Prop} {ws : va_W} (h : (ws.map Prod.fst).Nodup) (hA : ∀ q ∈ ws, A q.1) : va_D A ws := by
  refine ⟨fun i j p q hi hj e => ?_, fun k q hk => hA q (List.mem_of_getElem? hk)⟩
  have hi' := (List.getElem?_eq_some_iff.mp hi).1
  have e1 : (ws.map Prod.fst)[i]? = (ws.map Prod.fst)[j]? := by rw [List.getElem?_map, List.getElem?_map, hi, hj]; simp [e]
  exact (List.getElem?_inj (by simpa using hi') h).mp e1
theorem sG_mem {M : sM} {ws : va_W} (h : sG M ws) {a : Nat} {x : va_E} : (a, x) ∈ ws ↔ M a = some x := by
  rw [h a x]
  constructor
  · intro hm
    obtain ⟨k, hk⟩ := List.getElem?_of_mem hm
    exact ⟨k, hk⟩
  · rintro ⟨k, hk⟩
    exact List.mem_of_getElem? hk
theorem sG_of {M : sM} {ws : va_W} (h : ∀ a x, (a, x) ∈ ws ↔ M a = some x) : sG M ws := fun a x => by
  rw [← h a x]
  constructor
  · intro hm
    obtain ⟨k, hk⟩ := List.getElem?_of_mem hm
    exact ⟨k, hk⟩
  · rintro ⟨k, hk⟩
    exact List.mem_of_getElem? hk
theorem sJ_1 {S1 S2 : sS} {a : Nat} (h : S1.1 a ≠ none) : (sJ S1 S2).1 a = S1.1 a := by
  unfold sJ
  cases hk : S1.1 a with
  | none => exact absurd hk h
  | some k => simp [hk]
theorem sJ_pre {sg : Nat → List Bool} {tk : Nat → Nat} {D : va_G} {dA : Nat → ClassId} {cl : List vw_C} {tys : List (ClassId × FieldType)} {A : Nat → Prop} {H0 H : Heap} {s : State} {S1 S2 : sS} {locs : List Loc} {av : List Value} (h : sW sg tk D dA cl A H0 (sJ S1 S2) H locs) (hK : va_K D cl tys s) (hX : sKx s) :
    ∀ U : State, U.heap = H → s.WarmedH U.vm → va_Pc av (sP sg tk D dA cl tys S1 H.size) av.toArray U := by
  obtain ⟨-, ws, hG, hP, hD, -⟩ := h
  intro U hU hW
  refine ⟨rfl, by rw [hU], ⟨ws.filter (fun q => (S1.1 q.1).isSome), sG_of fun a x => ?_, fun k q hk => ?_, sD_of ?_ (fun _ _ => trivial)⟩, va_K.moved hW.alike hK, sKx_warm hW hX⟩
  · rw [List.mem_filter, sG_mem hG, sMk_J]
    cases hk : S1.1 a with
    | none => simp [sMk, hk]
    | some k => simp
  · obtain ⟨j, hj⟩ := List.getElem?_of_mem (List.mem_filter.mp (List.mem_of_getElem? hk)).1
    rw [hU]
    exact hP j q hj
  · exact (sD_nd hD).sublist ((List.filter_sublist).map _)
theorem sJ_free {sg : Nat → List Bool} {tk : Nat → Nat} {D : va_G} {dA : Nat → ClassId} {cl : List vw_C} {A : Nat → Prop} {H0 H : Heap} {S1 S2 : sS} {locs : List Loc} (h : sW sg tk D dA cl A H0 (sJ S1 S2) H locs) : ∀ q, sA S1 H.size q → A q := by
  intro q hq
  rcases hq with hq | hq
  · exact h.free q (Or.inl (by rw [sJ_1 hq]; exact hq))
  · exact h.free q (Or.inr hq)
theorem sJ_post {sg : Nat → List Bool} {tk : Nat → Nat} {D : va_G} {dA : Nat → ClassId} {cl : List vw_C} {A : Nat → Prop} {H0 H H1 : Heap} {t : State} {S1 S2 u : sS} {locs locs1 : List Loc} (h : sW sg tk D dA cl A H0 (sJ S1 S2) H locs) (hd : sDj S1 S2) (hB : sB sg tk D dA cl S1 H.size u t) (ht : t.heap = H1)
    (hk : ∀ q : Nat, q < H.size → ¬ sA S1 H.size q → H1[q]? = H[q]?) (hS1 : va_S A H0 H1 locs1) : sW sg tk D dA cl A H0 (sJ u S2) H1 locs1 ∧ sDj u S2 := by
  have hf := sJ_free h
  obtain ⟨hA, ws, hG, hP, hD, hS⟩ := h
  obtain ⟨w1, hG1, hP1, hD1⟩ := hB
  have hat : ∀ q ∈ ws, q.1 < H.size := fun q hq => by
    obtain ⟨j, hj⟩ := List.getElem?_of_mem hq
    exact (hP j q hj).lt
  have h2lt : ∀ a, S2.1 a ≠ none → S1.1 a = none → a < H.size := fun a ha h1 => by
    obtain ⟨x, hx⟩ := sMk_ex (sg := sg) (tk := tk) (dA := dA) ha
    exact hat (a, x) ((sG_mem hG).mpr (by rw [sMk_J, h1]; exact hx))
  have hdj : sDj u S2 := by
    intro a ha
    cases h2 : S2.1 a with
    | none => rfl
    | some k =>
      have h2' : S2.1 a ≠ none := by rw [h2]; exact fun z => by cases z
      have h1 : S1.1 a = none := by
        cases h1 : S1.1 a with
        | none => rfl
        | some k1 =>
          have := hd a (by rw [h1]; exact fun z => by cases z)
          exact absurd this h2'
      obtain ⟨x, hx⟩ := sMk_ex (sg := sg) (tk := tk) (dA := dA) ha
      obtain ⟨j, hj⟩ := (hG1 a x).mp hx
      rcases hD1.2 j _ hj with z | z
      · exact absurd h1 z
      · have := h2lt a h2' h1
        have z' : H.size ≤ a := z
        omega
  refine ⟨⟨hA, w1 ++ ws.filter (fun q => (S1.1 q.1).isNone), sG_of fun a x => ?_, fun k q hq => ?_, sD_of ?_ ?_, hS1⟩, hdj⟩
  · rw [List.mem_append, sG_mem hG1, List.mem_filter, sG_mem hG, sMk_J, sMk_J]
    cases hu : u.1 a with
    | none =>
      have e1 : sMk sg tk dA u a = none := by simp [sMk, hu]
      rw [e1]
      cases h1 : S1.1 a with
      | none => simp
      | some k =>
        have h2 : S2.1 a = none := hd a (by rw [h1]; exact fun z => by cases z)
        simp [sMk, h2]
    | some k =>
      have h2 : S2.1 a = none := hdj a (by rw [hu]; exact fun z => by cases z)
      cases h1 : S1.1 a with
      | none => simp [sMk, h2]
      | some k => simp
  · rcases List.mem_append.mp (List.mem_of_getElem? hq) with hm | hm
    · obtain ⟨j, hj⟩ := List.getElem?_of_mem hm
      rw [← ht]
      exact hP1 j q hj
    · obtain ⟨hm1, hm2⟩ := List.mem_filter.mp hm
      obtain ⟨j, hj⟩ := List.getElem?_of_mem hm1
      refine (hP j q hj).kept (hk q.1 (hat q hm1) ?_)
      rintro (z | z)
      · exact z (by simpa using hm2)
      · have := hat q hm1
        omega
  · rw [List.map_append, List.nodup_append]
    refine ⟨sD_nd hD1, (sD_nd hD).sublist ((List.filter_sublist).map _), fun x hx y hy e => ?_⟩
    subst e
    obtain ⟨q, hq, e1⟩ := List.mem_map.mp hx
    obtain ⟨r, hr, e2⟩ := List.mem_map.mp hy
    obtain ⟨hm1, hm2⟩ := List.mem_filter.mp hr
    obtain ⟨j, hj⟩ := List.getElem?_of_mem hq
    rcases hD1.2 j q hj with z | z
    · rw [e1, ← e2] at z
      exact z (by simpa using hm2)
    · have := hat r hm1
      omega
  · intro q hq
    rcases List.mem_append.mp hq with hm | hm
    · obtain ⟨j, hj⟩ := List.getElem?_of_mem hm
      exact hf _ (hD1.2 j q hj)
    · obtain ⟨j, hj⟩ := List.getElem?_of_mem (List.mem_filter.mp hm).1
      exact hD.2 j q hj
