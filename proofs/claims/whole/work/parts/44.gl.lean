/-! the graph when a node is made, when a link is fastened, when it is loosened -/
/-- one direction of the chains: the chain of node v begins at its field ff, its length stands in fc -/
def chs (S : sS) (nd : Nat → Option Nat) (R : Nat → List (Nat × Nat)) (ff fc fp fn : Nat) : Prop := ∀ v a, nd v = some a → chI S.2.1 fp fn (S.2.1 a ff) ((R v).map Prod.fst) ∧ S.2.2.1 a fc = nI (R v).length
def lkd (S : sS) (R : Nat → List (Nat × Nat)) : Prop := ∀ v j, j ∈ (R v).map Prod.fst → S.1 j = some (.inl 4)
def ndk (S : sS) (nd : Nat → Option Nat) : Prop := (∀ v a, nd v = some a → S.1 a = some (.inl 3)) ∧ ∀ v w a, nd v = some a → nd w = some a → v = w
/-- no link in two chains -/
def dsj (R : Nat → List (Nat × Nat)) : Prop := ∀ v w j, j ∈ (R v).map Prod.fst → j ∈ (R w).map Prod.fst → v = w
theorem ch_first {rf : Nat → Nat → Option Nat} {fp fn : Nat} {first : Option Nat} {l : List Nat} (h : chI rf fp fn first l) {y : Nat} (hy : first = some y) : y ∈ l := List.mem_of_getElem? (h.1.symm.trans hy)
theorem ch_mem {rf : Nat → Nat → Option Nat} {fp fn : Nat} {first : Option Nat} {l : List Nat} (h : chI rf fp fn first l) {k y : Nat} (hk : k ∈ l) (hy : rf k fn = some y ∨ rf k fp = some y) : y ∈ l := by
  obtain ⟨i, hi⟩ := List.getElem?_of_mem hk
  obtain ⟨a, b⟩ := h.2 i k hi
  rcases hy with z | z
  · exact List.mem_of_getElem? (a.symm.trans z)
  · rw [b] at z
    by_cases e : i = 0
    · rw [if_pos e] at z; cases z
    · rw [if_neg e] at z; exact List.mem_of_getElem? z
theorem er_map {α β : Type} (f : α → β) (l : List α) (i : Nat) : (l.eraseIdx i).map f = (l.map f).eraseIdx i := by
  apply List.ext_getElem?
  intro j
  rw [List.getElem?_map, List.getElem?_eraseIdx, List.getElem?_eraseIdx]
  split <;> simp
theorem half_join {S u : sS} {nd : Nat → Option Nat} {R : Nat → List (Nat × Nat)} {ff fc fp fn v k a x : Nat} (hC : chs S nd R ff fc fp fn) (hlk : lkd S R) (hnk : ndk S nd) (hds : dsj R) (hnd : ((R v).map Prod.fst).Nodup) (hv : nd v = some a) (hk4 : S.1 k = some (.inl 4)) (hkn : ∀ w, k ∉ (R w).map Prod.fst) (hkp : S.2.1 k fp = none) (hpn : fp ≠ fn) (hfn : ff ≠ fn) (hJ : JoinP S k a ff fc fp fn u) :
    chs u nd (va_up R v ((k, x) :: R v)) ff fc fp fn := by
  obtain ⟨j1, j2, j3, j4⟩ := hJ
  have ka := hnk.1 v a hv
  obtain ⟨hch, hct⟩ := hC v a hv
  have nk_ne : ∀ {b c : Nat}, S.1 b = some (.inl 3) → S.1 c = some (.inl 4) → b ≠ c := fun hb hc => sk_d hb hc (by decide)
  have hfl : ∀ y, S.2.1 a ff = some y → y ∈ (R v).map Prod.fst := fun y hy => ch_first hch hy
  intro w aw hw
  by_cases e : w = v
  · subst e
    have ea : aw = a := Option.some.inj (hw.symm.trans hv)
    subst ea
    rw [va_up_self]
    constructor
    · have e1 : u.2.1 aw ff = some k := by rw [j4, if_pos ⟨rfl, rfl⟩]
      rw [e1, List.map_cons]
      have hka : k ≠ aw := (nk_ne ka hk4).symm
      refine chI_push hch hnd ?_ ?_ (fun j hj => ?_) (fun j hj => ?_)
      · rw [j4, if_neg (fun z => hka z.1), if_neg (fun z => hpn z.1.symm), if_pos ⟨rfl, rfl⟩]
      · rw [j4, if_neg (fun z => hka z.1), if_neg (fun z => hkn w (hfl k z.2)), if_neg (fun z => hpn z.2)]; exact hkp
      · have hjk : j ≠ k := fun z => hkn w (by rw [← z]; exact hj)
        rw [j4, if_neg (fun z => nk_ne ka (hlk w j hj) z.1.symm), if_neg (fun z => hpn z.1.symm), if_neg (fun z => hjk z.1)]
      · have hjk : j ≠ k := fun z => hkn w (by rw [← z]; exact hj)
        rw [j4, if_neg (fun z => nk_ne ka (hlk w j hj) z.1.symm)]
        by_cases z : S.2.1 aw ff = some j
        · rw [if_pos ⟨rfl, z⟩, if_pos z]
        · rw [if_neg (fun y => z y.2), if_neg z, if_neg (fun y => hjk y.1)]
    · rw [j3, up2_self, hct, List.length_cons, nI_1]
  · rw [va_up_ne _ _ e]
    have haw : aw ≠ a := fun z => e (hnk.2 w v a (by rw [← z]; exact hw) hv)
    have kaw := hnk.1 w aw hw
    obtain ⟨hcw, hctw⟩ := hC w aw hw
    constructor
    · have e1 : u.2.1 aw ff = S.2.1 aw ff := by
        rw [j4, if_neg (fun z => haw z.1), if_neg (fun z => nk_ne kaw (hlk v aw (hfl aw z.2)) rfl), if_neg (fun z => nk_ne kaw hk4 z.1)]
      rw [e1]
      refine chI_keep hcw (fun j hj => ?_)
      have hjk : j ≠ k := fun z => hkn w (by rw [← z]; exact hj)
      have hja : j ≠ a := (nk_ne ka (hlk w j hj)).symm
      constructor
      · rw [j4, if_neg (fun z => hja z.1), if_neg (fun z => hpn z.1.symm), if_neg (fun z => hjk z.1)]
      · rw [j4, if_neg (fun z => hja z.1), if_neg (fun z => e (hds w v j hj (hfl j z.2))), if_neg (fun z => hjk z.1)]
    · rw [j3, up2_off _ _ haw]; exact hctw
theorem join_other {S u : sS} {nd : Nat → Option Nat} {R Q : Nat → List (Nat × Nat)} {ff fc fp fn gf gc gp gn v k a : Nat} (hC : chs S nd R ff fc fp fn) (hD : chs S nd Q gf gc gp gn) (hlk : lkd S R) (hlq : lkd S Q) (hnk : ndk S nd) (hv : nd v = some a) (hk4 : S.1 k = some (.inl 4)) (hg : gf ≠ ff ∧ gc ≠ fc ∧ gp ≠ fp ∧ gp ≠ fn ∧ gn ≠ fp ∧ gn ≠ fn) (hJ : JoinP S k a ff fc fp fn u) : chs u nd Q gf gc gp gn := by
  obtain ⟨j1, j2, j3, j4⟩ := hJ
  have ka := hnk.1 v a hv
  obtain ⟨hch, -⟩ := hC v a hv
  have nk_ne : ∀ {b c : Nat}, S.1 b = some (.inl 3) → S.1 c = some (.inl 4) → b ≠ c := fun hb hc => sk_d hb hc (by decide)
  have hfl : ∀ y, S.2.1 a ff = some y → y ∈ (R v).map Prod.fst := fun y hy => ch_first hch hy
  intro w aw hw
  have kaw := hnk.1 w aw hw
  obtain ⟨hcw, hctw⟩ := hD w aw hw
  constructor
  · have e1 : u.2.1 aw gf = S.2.1 aw gf := by
      rw [j4, if_neg (fun z => hg.1 z.2), if_neg (fun z => nk_ne kaw (hlk v aw (hfl aw z.2)) rfl), if_neg (fun z => nk_ne kaw hk4 z.1)]
    rw [e1]
    refine chI_keep hcw (fun j hj => ?_)
    have hja : j ≠ a := (nk_ne ka (hlq w j hj)).symm
    constructor
    · rw [j4, if_neg (fun z => hja z.1), if_neg (fun z => hg.2.2.2.2.1 z.1), if_neg (fun z => hg.2.2.2.2.2 z.2)]
    · rw [j4, if_neg (fun z => hja z.1), if_neg (fun z => hg.2.2.1 z.1), if_neg (fun z => hg.2.2.2.1 z.2)]
  · rw [j3, up2_ne _ _ hg.2.1]; exact hctw
theorem half_leave {S u : sS} {nd : Nat → Option Nat} {R : Nat → List (Nat × Nat)} {ff fc fp fn v k a x i : Nat} (hC : chs S nd R ff fc fp fn) (hlk : lkd S R) (hnk : ndk S nd) (hds : dsj R) (hnd : ((R v).map Prod.fst).Nodup) (hv : nd v = some a) (hi : (R v)[i]? = some (k, x)) (hpn : fp ≠ fn) (hff : ff ≠ fp ∧ ff ≠ fn) (hb : ∀ w, (R w).length < 2 ^ 31) (hJ : LeaveP S k a ff fc fp fn u) :
    chs u nd (va_up R v ((R v).eraseIdx i)) ff fc fp fn := by
  obtain ⟨j1, j2, j3, j4⟩ := hJ
  have ka := hnk.1 v a hv
  obtain ⟨hch, hct⟩ := hC v a hv
  have nk_ne : ∀ {b c : Nat}, S.1 b = some (.inl 3) → S.1 c = some (.inl 4) → b ≠ c := fun hb hc => sk_d hb hc (by decide)
  have hki : ((R v).map Prod.fst)[i]? = some k := by rw [List.getElem?_map, hi]; rfl
  have hkm : k ∈ (R v).map Prod.fst := List.mem_of_getElem? hki
  have hil : i < (R v).length := (List.getElem?_eq_some_iff.mp hi).1
  have hN : ∀ y, S.2.1 k fn = some y → y ∈ (R v).map Prod.fst := fun y hy => ch_mem hch hkm (Or.inl hy)
  have hP : ∀ y, S.2.1 k fp = some y → y ∈ (R v).map Prod.fst := fun y hy => ch_mem hch hkm (Or.inr hy)
  intro w aw hw
  by_cases e : w = v
  · subst e
    have ea : aw = a := Option.some.inj (hw.symm.trans hv)
    subst ea
    rw [va_up_self]
    constructor
    · have e1 : u.2.1 aw ff = if S.2.1 k fp = none then S.2.1 k fn else S.2.1 aw ff := by
        rw [j4, if_neg (fun z => hff.1 z.1)]
        by_cases z : S.2.1 k fp = none
        · rw [if_pos z, if_pos z, if_pos ⟨rfl, rfl⟩]
        · rw [if_neg z, if_neg z, if_neg (fun y => hff.2 y.1)]
      rw [e1, er_map]
      refine chI_del hch hnd hki (fun j hj hjk => ?_) (fun j hj hjk => ?_)
      · have hja : j ≠ aw := (nk_ne ka (hlk w j hj)).symm
        rw [j4, if_neg (fun z => hpn z.1.symm)]
        by_cases z : S.2.1 k fp = none
        · rw [if_pos z, if_neg (fun y => hja y.1), if_neg (by rw [z]; exact fun y => by cases y)]
        · rw [if_neg z]
          by_cases y : S.2.1 k fp = some j
          · rw [if_pos ⟨rfl, y⟩, if_pos y]
          · rw [if_neg (fun q => y q.2), if_neg y]
      · have hja : j ≠ aw := (nk_ne ka (hlk w j hj)).symm
        rw [j4]
        by_cases y : S.2.1 k fn = some j
        · rw [if_pos ⟨rfl, y⟩, if_pos y]
        · rw [if_neg (fun q => y q.2), if_neg y]
          by_cases z : S.2.1 k fp = none
          · rw [if_pos z, if_neg (fun y => hja y.1)]
          · rw [if_neg z, if_neg (fun q => hpn q.1)]
    · rw [j3, up2_self, hct, List.length_eraseIdx, if_pos hil]
      have := nI_sub (a := (R w).length) (b := 1) (by omega)
      rw [← this]; rfl
  · rw [va_up_ne _ _ e]
    have haw : aw ≠ a := fun z => e (hnk.2 w v a (by rw [← z]; exact hw) hv)
    have kaw := hnk.1 w aw hw
    obtain ⟨hcw, hctw⟩ := hC w aw hw
    constructor
    · have e1 : u.2.1 aw ff = S.2.1 aw ff := by
        rw [j4, if_neg (fun z => hff.1 z.1)]
        by_cases z : S.2.1 k fp = none
        · rw [if_pos z, if_neg (fun y => haw y.1)]
        · rw [if_neg z, if_neg (fun y => hff.2 y.1)]
      rw [e1]
      refine chI_keep hcw (fun j hj => ?_)
      have hja : j ≠ a := (nk_ne ka (hlk w j hj)).symm
      constructor
      · rw [j4, if_neg (fun z => hpn z.1.symm)]
        by_cases z : S.2.1 k fp = none
        · rw [if_pos z, if_neg (fun y => hja y.1)]
        · rw [if_neg z, if_neg (fun y => e (hds w v j hj (hP j y.2)))]
      · rw [j4, if_neg (fun z => e (hds w v j hj (hN j z.2)))]
        by_cases z : S.2.1 k fp = none
        · rw [if_pos z, if_neg (fun y => hja y.1)]
        · rw [if_neg z, if_neg (fun y => hpn y.1)]
    · rw [j3, up2_off _ _ haw]; exact hctw
theorem leave_other {S u : sS} {nd : Nat → Option Nat} {R Q : Nat → List (Nat × Nat)} {ff fc fp fn gf gc gp gn v k a : Nat} (hC : chs S nd R ff fc fp fn) (hD : chs S nd Q gf gc gp gn) (hlk : lkd S R) (hlq : lkd S Q) (hnk : ndk S nd) (hv : nd v = some a) (hkm : k ∈ (R v).map Prod.fst) (hg : gf ≠ ff ∧ gc ≠ fc ∧ gp ≠ fp ∧ gp ≠ fn ∧ gn ≠ fp ∧ gn ≠ fn) (hJ : LeaveP S k a ff fc fp fn u) : chs u nd Q gf gc gp gn := by
  obtain ⟨j1, j2, j3, j4⟩ := hJ
  have ka := hnk.1 v a hv
  obtain ⟨hch, -⟩ := hC v a hv
  have nk_ne : ∀ {b c : Nat}, S.1 b = some (.inl 3) → S.1 c = some (.inl 4) → b ≠ c := fun hb hc => sk_d hb hc (by decide)
  have hN : ∀ y, S.2.1 k fn = some y → S.1 y = some (.inl 4) := fun y hy => hlk v y (ch_mem hch hkm (Or.inl hy))
  have hP : ∀ y, S.2.1 k fp = some y → S.1 y = some (.inl 4) := fun y hy => hlk v y (ch_mem hch hkm (Or.inr hy))
  intro w aw hw
  have kaw := hnk.1 w aw hw
  obtain ⟨hcw, hctw⟩ := hD w aw hw
  constructor
  · have e1 : u.2.1 aw gf = S.2.1 aw gf := by
      rw [j4, if_neg (fun z => nk_ne kaw (hN aw z.2) rfl)]
      by_cases z : S.2.1 k fp = none
      · rw [if_pos z, if_neg (fun y => hg.1 y.2)]
      · rw [if_neg z, if_neg (fun y => nk_ne kaw (hP aw y.2) rfl)]
    rw [e1]
    refine chI_keep hcw (fun j hj => ?_)
    have hja : j ≠ a := (nk_ne ka (hlq w j hj)).symm
    constructor
    · rw [j4, if_neg (fun z => hg.2.2.2.2.1 z.1)]
      by_cases z : S.2.1 k fp = none
      · rw [if_pos z, if_neg (fun y => hja y.1)]
      · rw [if_neg z, if_neg (fun y => hg.2.2.2.2.2 y.1)]
    · rw [j4, if_neg (fun z => hg.2.2.1 z.1)]
      by_cases z : S.2.1 k fp = none
      · rw [if_pos z, if_neg (fun y => hja y.1)]
      · rw [if_neg z, if_neg (fun y => hg.2.2.2.1 y.1)]
  · rw [j3, up2_ne _ _ hg.2.1]; exact hctw
theorem Tb_dep2 {S u : sS} {tb pa : Nat} {nd : Nat → Option Nat} (h : Tb S tb pa nd) (h1 : ∀ b k, S.1 b = some k → u.1 b = some k) (h2 : ∀ b k, S.1 b = some k → k ≠ .inl 3 → k ≠ .inl 4 → u.2.1 b = S.2.1 b) (hi : ∀ v a, nd v = some a → u.2.2.1 a 0 = S.2.2.1 a 0) : Tb u tb pa nd := by
  obtain ⟨kt, ht, kp, hpgs, hdi, hnd⟩ := h
  have pg : ∀ i g, i < 128 → S.2.1 pa i = some g → u.2.1 g = S.2.1 g := by
    intro i g hi9 hg9
    rcases hpgs i hi9 with ⟨z1, -⟩ | ⟨g2, r9, z1, z2, -⟩
    · rw [z1] at hg9; cases hg9
    · have e : g2 = g := Option.some.inj (z1.symm.trans hg9)
      rw [← e]; exact h2 g2 _ z2 (by decide) (by decide)
  have ep := h2 pa _ kp (fun z => by cases z) (fun z => by cases z)
  have et := h2 tb _ kt (by decide) (by decide)
  refine ⟨h1 _ _ kt, by rw [et]; exact ht, h1 _ _ kp, fun i hi9 => ?_, fun i i' g g' r9 h1 h2 h3 h4 h5 h6 => ?_, fun n a hn => ?_⟩
  · rcases hpgs i hi9 with ⟨z1, z2⟩ | ⟨g, r9, z1, z2, z3, z4, z5⟩
    · exact Or.inl ⟨by rw [ep]; exact z1, z2⟩
    · refine Or.inr ⟨g, r9, by rw [ep]; exact z1, h1 _ _ z2, by rw [h2 g _ z2 (by decide) (by decide)]; exact z3, h1 _ _ z4, fun j hj => ?_⟩
      rw [h2 r9 _ z4 (fun z => by cases z) (fun z => by cases z)]; exact z5 j hj
  · rw [ep] at h3 h4
    rw [pg i g h1 h3] at h5
    rw [pg i' g' h2 h4] at h6
    exact hdi i i' g g' r9 h1 h2 h3 h4 h5 h6
  · obtain ⟨b1, b2, b3⟩ := hnd n a hn
    exact ⟨b1, h1 _ _ b2, by rw [hi n a hn]; exact b3⟩
theorem mem_fs {l : List (Nat × Nat)} {k : Nat} : k ∈ l.map Prod.fst ↔ ∃ u, (k, u) ∈ l := by
  constructor
  · intro h
    obtain ⟨⟨j, w⟩, hm, e⟩ := List.mem_map.mp h
    have e' : j = k := e
    rw [← e']; exact ⟨w, hm⟩
  · rintro ⟨u, h⟩
    exact List.mem_map.mpr ⟨(k, u), h, rfl⟩
section GRP
variable {S : sS} {tb pa : Nat} {nd : Nat → Option Nat} {rd sr : Nat → List (Nat × Nat)}
theorem Gr9.lk1 (h : Gr9 S tb pa nd rd sr) : lkd S rd := fun v j hj => by
  obtain ⟨u, hu⟩ := mem_fs.mp hj
  exact (h.2.2.2.1 v j u hu).1
theorem Gr9.lk2 (h : Gr9 S tb pa nd rd sr) : lkd S sr := fun v j hj => by
  obtain ⟨u, hu⟩ := mem_fs.mp hj
  exact (h.2.2.2.1 u j v (h.2.2.2.2 v j u hu)).1
theorem Gr9.nkk (h : Gr9 S tb pa nd rd sr) : ndk S nd := ⟨fun _ _ hv => (h.nk hv).2.1, fun _ _ _ hv hw => h.inj hv hw⟩
theorem Gr9.ds1 (h : Gr9 S tb pa nd rd sr) : dsj rd := fun v w j hv hw => by
  obtain ⟨x, hx⟩ := mem_fs.mp hv
  obtain ⟨y, hy⟩ := mem_fs.mp hw
  obtain ⟨-, ⟨a, h1, h2⟩, -⟩ := h.2.2.2.1 v j x hx
  obtain ⟨-, ⟨b, h3, h4⟩, -⟩ := h.2.2.2.1 w j y hy
  have e : a = b := Option.some.inj (h2.symm.trans h4)
  subst e
  exact h.inj h1 h3
theorem Gr9.ds2 (h : Gr9 S tb pa nd rd sr) : dsj sr := fun v w j hv hw => by
  obtain ⟨x, hx⟩ := mem_fs.mp hv
  obtain ⟨y, hy⟩ := mem_fs.mp hw
  obtain ⟨-, -, ⟨a, h1, h2⟩, -⟩ := h.2.2.2.1 x j v (h.2.2.2.2 v j x hx)
  obtain ⟨-, -, ⟨b, h3, h4⟩, -⟩ := h.2.2.2.1 y j w (h.2.2.2.2 w j y hy)
  have e : a = b := Option.some.inj (h2.symm.trans h4)
  subst e
  exact h.inj h1 h3
theorem Gr9.c1 (h : Gr9 S tb pa nd rd sr) : chs S nd rd 1 3 2 3 := fun v a hv => ⟨(h.2.1 v a hv).1, (h.2.1 v a hv).2.1⟩
theorem Gr9.c2 (h : Gr9 S tb pa nd rd sr) : chs S nd sr 2 4 4 5 := fun v a hv => ⟨(h.2.1 v a hv).2.2.1, (h.2.1 v a hv).2.2.2⟩
end GRP
theorem join_rf {S u : sS} {k a ff fc fp fn b i : Nat} (hJ : JoinP S k a ff fc fp fn u) (h1 : b ≠ a ∨ i ≠ ff) (h2 : i ≠ fp) (h3 : i ≠ fn) : u.2.1 b i = S.2.1 b i := by
  rw [hJ.2.2.2, if_neg (fun z => h1.elim (fun y => y z.1) (fun y => y z.2)), if_neg (fun z => h2 z.1), if_neg (fun z => h3 z.2)]
theorem leave_rf {S u : sS} {k a ff fc fp fn b i : Nat} (hJ : LeaveP S k a ff fc fp fn u) (h1 : b ≠ a ∨ i ≠ ff) (h2 : i ≠ fp) (h3 : i ≠ fn) : u.2.1 b i = S.2.1 b i := by
  rw [hJ.2.2.2, if_neg (fun z => h2 z.1)]
  by_cases z : S.2.1 k fp = none
  · rw [if_pos z, if_neg (fun z => h1.elim (fun y => y z.1) (fun y => y z.2))]
  · rw [if_neg z, if_neg (fun z => h3 z.1)]
/-- which cells are nodes or links -/
def isNK (S : sS) (b : Nat) : Prop := S.1 b = some (.inl 3) ∨ S.1 b = some (.inl 4)
/-- a link is fastened -/
theorem Gr9_link {S S1 u1 u : sS} {tb pa : Nat} {nd : Nat → Option Nat} {rd sr : Nat → List (Nat × Nat)} {k a b v w : Nat} (h : Gr9 S tb pa nd rd sr) (hv : nd v = some a) (hw : nd w = some b) (hk4 : S.1 k = some (.inl 4)) (hkr : ∀ i, 2 ≤ i → S.2.1 k i = none) (hkn : ∀ x y, (k, y) ∉ rd x) (hno : ¬ rE rd v w)
    (hS1 : S1 = (S.1, up2 (up2 S.2.1 k 0 (some a)) k 1 (some b), S.2.2.1, S.2.2.2)) (hJ1 : JoinP S1 k a 1 3 2 3 u1) (hJ2 : JoinP u1 k b 2 4 4 5 u) :
    Gr9 u tb pa nd (va_up rd v ((k, w) :: rd v)) (va_up sr w ((k, v) :: sr w)) ∧ sFr S u (isNK S) ∧ (∀ x ax i, nd x = some ax → i ≠ 3 → i ≠ 4 → u.2.2.1 ax i = S.2.2.1 ax i) ∧ (∀ i, u.2.2.1 k i = S.2.2.1 k i) ∧ u.1 = S.1 := by
  have ka := (h.nk hv).2.1
  have kb := (h.nk hw).2.1
  have nk_ne : ∀ {b c : Nat}, S.1 b = some (.inl 3) → S.1 c = some (.inl 4) → b ≠ c := fun hb hc => sk_d hb hc (by decide)
  have e1 : S1.1 = S.1 := by rw [hS1]
  have e3 : S1.2.2.1 = S.2.2.1 := by rw [hS1]
  have r1 : ∀ x i, x ≠ k ∨ 2 ≤ i → S1.2.1 x i = S.2.1 x i := by
    intro x i hx
    rw [hS1]
    show up2 (up2 S.2.1 k 0 (some a)) k 1 (some b) x i = _
    rcases hx with hx | hx
    · rw [up2_off _ _ hx, up2_off _ _ hx]
    · rw [up2_ne _ _ (by omega), up2_ne _ _ (by omega)]
  have hkf1 : ∀ x, k ∉ (rd x).map Prod.fst := fun x z => by obtain ⟨y, hy⟩ := mem_fs.mp z; exact hkn x y hy
  have hkf2 : ∀ x, k ∉ (sr x).map Prod.fst := fun x z => by obtain ⟨y, hy⟩ := mem_fs.mp z; exact hkn y x (h.2.2.2.2 x k y hy)
  have hrow : ∀ x, S1.1 x = some (.inl 3) → S1.2.1 x = S.2.1 x := fun x hx => funext fun i => r1 x i (Or.inl (nk_ne (by rw [← e1]; exact hx) hk4))
  have hC1 : chs S1 nd rd 1 3 2 3 := by
    intro x ax hx
    obtain ⟨c1, c2⟩ := h.c1 x ax hx
    have kx := (h.nk hx).2.1
    refine ⟨?_, by rw [e3]; exact c2⟩
    rw [r1 ax 1 (Or.inl (nk_ne kx hk4))]
    exact chI_keep c1 (fun j hj => ⟨r1 j 3 (Or.inr (by decide)), r1 j 2 (Or.inr (by decide))⟩)
  have hC2 : chs S1 nd sr 2 4 4 5 := by
    intro x ax hx
    obtain ⟨c1, c2⟩ := h.c2 x ax hx
    have kx := (h.nk hx).2.1
    refine ⟨?_, by rw [e3]; exact c2⟩
    rw [r1 ax 2 (Or.inr (by decide))]
    exact chI_keep c1 (fun j hj => ⟨r1 j 5 (Or.inr (by decide)), r1 j 4 (Or.inr (by decide))⟩)
  have lk1 : lkd S1 rd := fun x j hj => by rw [e1]; exact h.lk1 x j hj
  have lk2 : lkd S1 sr := fun x j hj => by rw [e1]; exact h.lk2 x j hj
  have nk1 : ndk S1 nd := ⟨fun x ax hx => by rw [e1]; exact h.nkk.1 x ax hx, h.nkk.2⟩
  have f1 := half_join (x := w) hC1 lk1 nk1 h.ds1 (h.2.2.1 v).1 hv (by rw [e1]; exact hk4) hkf1 (by rw [r1 k 2 (Or.inr (by decide))]; exact hkr 2 (by decide)) (by decide) (by decide) hJ1
  have f2 := join_other hC1 hC2 lk1 lk2 nk1 hv (by rw [e1]; exact hk4) (by decide) hJ1
  have eu1 : u1.1 = S.1 := hJ1.1.trans e1
  have lk1' : lkd u1 (va_up rd v ((k, w) :: rd v)) := by
    intro x j hj
    rw [eu1]
    by_cases e : x = v
    · rw [e, va_up_self, List.map_cons, List.mem_cons] at hj
      rcases hj with z | z
      · rw [z]; exact hk4
      · exact h.lk1 v j z
    · rw [va_up_ne _ _ e] at hj; exact h.lk1 x j hj
  have lk2' : lkd u1 sr := fun x j hj => by rw [eu1]; exact h.lk2 x j hj
  have nk2 : ndk u1 nd := ⟨fun x ax hx => by rw [eu1]; exact h.nkk.1 x ax hx, h.nkk.2⟩
  have hfa : ∀ y, S1.2.1 a 1 = some y → S.1 y = some (.inl 4) := fun y hy => h.lk1 v y (ch_first (hC1 v a hv).1 hy)
  have hk4r : u1.2.1 k 4 = none := by
    rw [join_rf hJ1 (Or.inr (by decide)) (by decide) (by decide), r1 k 4 (Or.inr (by decide))]; exact hkr 4 (by decide)
  have g2 := half_join (x := v) f2 lk2' nk2 h.ds2 (h.2.2.1 w).2.1 hw (by rw [eu1]; exact hk4) hkf2 hk4r (by decide) (by decide) hJ2
  have g1 := join_other f2 f1 lk2' lk1' nk2 hw (by rw [eu1]; exact hk4) (by decide) hJ2
  have eu : u.1 = S.1 := hJ2.1.trans eu1
  have hfb : ∀ y, u1.2.1 b 2 = some y → S.1 y = some (.inl 4) := fun y hy => h.lk2 w y (ch_first (f2 w b hw).1 hy)
  have hother : ∀ x, S.1 x ≠ some (.inl 3) → S.1 x ≠ some (.inl 4) → u.2.1 x = S.2.1 x := by
    intro x h3 h4
    funext i
    have hxk : x ≠ k := fun z => h4 (by rw [z]; exact hk4)
    rw [hJ2.2.2.2, if_neg (fun z => h3 (by rw [z.1]; exact kb)), if_neg (fun z => h4 (hfb x z.2)), if_neg (fun z => hxk z.1), hJ1.2.2.2, if_neg (fun z => h3 (by rw [z.1]; exact ka)), if_neg (fun z => h4 (hfa x z.2)), if_neg (fun z => hxk z.1)]
    exact r1 x i (Or.inl hxk)
  have hit : u.2.2.1 = up2 (up2 S.2.2.1 a 3 (S.2.2.1 a 3 + 1)) b 4 (u1.2.2.1 b 4 + 1) := by rw [hJ2.2.2.1, hJ1.2.2.1, e3]
  have hlg : u.2.2.2 = S.2.2.2 := by rw [hJ2.2.1, hJ1.2.1, hS1]
  have hito : ∀ x i, (x ≠ a ∨ i ≠ 3) → (x ≠ b ∨ i ≠ 4) → u.2.2.1 x i = S.2.2.1 x i := by
    intro x i q1 q2
    rw [hit]
    have z2 : up2 (up2 S.2.2.1 a 3 (S.2.2.1 a 3 + 1)) b 4 (u1.2.2.1 b 4 + 1) x i = up2 S.2.2.1 a 3 (S.2.2.1 a 3 + 1) x i := by
      rcases q2 with z | z
      · rw [up2_off _ _ z]
      · rw [up2_ne _ _ z]
    rw [z2]
    rcases q1 with z | z
    · rw [up2_off _ _ z]
    · rw [up2_ne _ _ z]
  have hl01 : ∀ j i, S.1 j = some (.inl 4) → i < 2 → u.2.1 j i = S1.2.1 j i := by
    intro j i hj hi
    rw [join_rf hJ2 (Or.inr (by omega)) (by omega) (by omega), join_rf hJ1 (Or.inl (nk_ne ka hj).symm) (by omega) (by omega)]
  refine ⟨⟨?_, fun x ax hx => ⟨(g1 x ax hx).1, (g1 x ax hx).2, (g2 x ax hx).1, (g2 x ax hx).2⟩, fun x => ?_, fun x j y hj => ?_, fun y j x hj => ?_⟩, fun x hx => ⟨by rw [eu], fun hn => ⟨hother x (fun z => hn (Or.inl z)) (fun z => hn (Or.inr z)), ?_, by rw [hlg]⟩⟩, fun x ax i hx i3 i4 => hito ax i (Or.inr i3) (Or.inr i4), fun i => hito k i (Or.inl (nk_ne ka hk4).symm) (Or.inl (nk_ne kb hk4).symm), eu⟩
  · refine Tb_dep2 h.1 (fun x kx hx => by rw [eu]; exact hx) (fun x kx hx h3 h4 => ?_) (fun x ax hx => hito ax 0 (Or.inr (by decide)) (Or.inr (by decide)))
    exact hother x (by rw [hx]; exact fun z => h3 (Option.some.inj z)) (by rw [hx]; exact fun z => h4 (Option.some.inj z))
  · obtain ⟨n1, n2, n3, n4⟩ := h.2.2.1 x
    refine ⟨?_, ?_, ?_, fun hx => ?_⟩
    · by_cases e : x = v
      · rw [e, va_up_self, List.map_cons, List.nodup_cons]; exact ⟨hkf1 v, (h.2.2.1 v).1⟩
      · rw [va_up_ne _ _ e]; exact n1
    · by_cases e : x = w
      · rw [e, va_up_self, List.map_cons, List.nodup_cons]; exact ⟨hkf2 w, (h.2.2.1 w).2.1⟩
      · rw [va_up_ne _ _ e]; exact n2
    · by_cases e : x = v
      · rw [e, va_up_self, List.map_cons, List.nodup_cons]; exact ⟨fun z => hno (mem_sn.mp z), (h.2.2.1 v).2.2.1⟩
      · rw [va_up_ne _ _ e]; exact n3
    · have exv : x ≠ v := fun z => by rw [z, hv] at hx; cases hx
      have exw : x ≠ w := fun z => by rw [z, hw] at hx; cases hx
      rw [va_up_ne _ _ exv, va_up_ne _ _ exw]; exact n4 hx
  · have old : (j, y) ∈ rd x → u.1 j = some (.inl 4) ∧ (∃ ax, nd x = some ax ∧ u.2.1 j 0 = some ax) ∧ (∃ by', nd y = some by' ∧ u.2.1 j 1 = some by') ∧ (j, x) ∈ va_up sr w ((k, v) :: sr w) y := by
      intro hm
      obtain ⟨d1, ⟨ax, d2, d3⟩, ⟨bx, d4, d5⟩, d6⟩ := h.2.2.2.1 x j y hm
      have hjk : j ≠ k := fun z => hkn x y (by rw [← z]; exact hm)
      refine ⟨by rw [eu]; exact d1, ⟨ax, d2, by rw [hl01 j 0 d1 (by decide), r1 j 0 (Or.inl hjk)]; exact d3⟩, ⟨bx, d4, by rw [hl01 j 1 d1 (by decide), r1 j 1 (Or.inl hjk)]; exact d5⟩, ?_⟩
      by_cases e : y = w
      · rw [e, va_up_self]; rw [e] at d6; exact List.mem_cons_of_mem _ d6
      · rw [va_up_ne _ _ e]; exact d6
    by_cases e : x = v
    · rw [e, va_up_self, List.mem_cons] at hj
      rcases hj with z | z
      · have z1 : j = k := congrArg Prod.fst z
        have z2 : y = w := congrArg Prod.snd z
        rw [z1, z2, e]
        refine ⟨by rw [eu]; exact hk4, ⟨a, hv, ?_⟩, ⟨b, hw, ?_⟩, by rw [va_up_self]; exact List.mem_cons_self⟩
        · rw [hl01 k 0 hk4 (by decide), hS1]
          show up2 (up2 S.2.1 k 0 (some a)) k 1 (some b) k 0 = some a
          rw [up2_ne _ _ (by decide), up2_self]
        · rw [hl01 k 1 hk4 (by decide), hS1]
          show up2 (up2 S.2.1 k 0 (some a)) k 1 (some b) k 1 = some b
          rw [up2_self]
      · rw [e]; rw [e] at old; exact old z
    · rw [va_up_ne _ _ e] at hj; exact old hj
  · have old : (j, x) ∈ sr y → (j, y) ∈ va_up rd v ((k, w) :: rd v) x := by
      intro hm
      have := h.2.2.2.2 y j x hm
      by_cases e : x = v
      · rw [e, va_up_self]; rw [e] at this; exact List.mem_cons_of_mem _ this
      · rw [va_up_ne _ _ e]; exact this
    by_cases e : y = w
    · rw [e, va_up_self, List.mem_cons] at hj
      rcases hj with z | z
      · have z1 : j = k := congrArg Prod.fst z
        have z2 : x = v := congrArg Prod.snd z
        rw [z1, z2, e, va_up_self]; exact List.mem_cons_self
      · rw [← e] at z; exact old z
    · rw [va_up_ne _ _ e] at hj; exact old hj
  · funext i
    refine hito x i (Or.inl fun z => hn (Or.inl (by rw [z]; exact ka))) (Or.inl fun z => hn (Or.inl (by rw [z]; exact kb)))
