/-- a link is loosened -/
theorem Gr9_unlink {S u1 u : sS} {tb pa : Nat} {nd : Nat → Option Nat} {rd sr : Nat → List (Nat × Nat)} {k a b v w i j : Nat} (h : Gr9 S tb pa nd rd sr) (hv : nd v = some a) (hw : nd w = some b) (hi : (rd v)[i]? = some (k, w)) (hj : (sr w)[j]? = some (k, v)) (hb1 : ∀ x, (rd x).length < 2 ^ 31) (hb2 : ∀ x, (sr x).length < 2 ^ 31)
    (hJ1 : LeaveP S k a 1 3 2 3 u1) (hJ2 : LeaveP u1 k b 2 4 4 5 u) :
    Gr9 u tb pa nd (va_up rd v ((rd v).eraseIdx i)) (va_up sr w ((sr w).eraseIdx j)) ∧ sFr S u (isNK S) ∧ (∀ x ax i, nd x = some ax → i ≠ 3 → i ≠ 4 → u.2.2.1 ax i = S.2.2.1 ax i) ∧ u.1 = S.1 ∧ (∀ y, (∃ c, (c, y) ∈ (rd v).eraseIdx i) ↔ rE rd v y ∧ y ≠ w) ∧ ((rd v).eraseIdx i).length + 1 = (rd v).length := by
  have ka := (h.nk hv).2.1
  have kb := (h.nk hw).2.1
  have nk_ne : ∀ {b c : Nat}, S.1 b = some (.inl 3) → S.1 c = some (.inl 4) → b ≠ c := fun hb hc => sk_d hb hc (by decide)
  have hkm : (k, w) ∈ rd v := List.mem_of_getElem? hi
  have hk4 := (h.2.2.2.1 v k w hkm).1
  have hkf1 : k ∈ (rd v).map Prod.fst := mem_fs.mpr ⟨w, hkm⟩
  have hkf2 : k ∈ (sr w).map Prod.fst := mem_fs.mpr ⟨v, List.mem_of_getElem? hj⟩
  have f1 := half_leave h.c1 h.lk1 h.nkk h.ds1 (h.2.2.1 v).1 hv hi (by decide) (by decide) hb1 hJ1
  have f2 := leave_other h.c1 h.c2 h.lk1 h.lk2 h.nkk hv hkf1 (by decide) hJ1
  have eu1 : u1.1 = S.1 := hJ1.1
  have ers : ∀ {l : List (Nat × Nat)} {i : Nat} {x : Nat × Nat}, x ∈ l.eraseIdx i → x ∈ l := fun hx => List.mem_of_mem_eraseIdx hx
  have lk1' : lkd u1 (va_up rd v ((rd v).eraseIdx i)) := by
    intro x c hc
    rw [eu1]
    obtain ⟨y, hy⟩ := mem_fs.mp hc
    by_cases e : x = v
    · rw [e, va_up_self] at hy; exact h.lk1 v c (mem_fs.mpr ⟨y, ers hy⟩)
    · rw [va_up_ne _ _ e] at hy; exact h.lk1 x c (mem_fs.mpr ⟨y, hy⟩)
  have lk2' : lkd u1 sr := fun x j hj => by rw [eu1]; exact h.lk2 x j hj
  have nk2 : ndk u1 nd := ⟨fun x ax hx => by rw [eu1]; exact h.nkk.1 x ax hx, h.nkk.2⟩
  have g2 := half_leave f2 lk2' nk2 h.ds2 (h.2.2.1 w).2.1 hw hj (by decide) (by decide) hb2 hJ2
  have g1 := leave_other f2 f1 lk2' lk1' nk2 hw hkf2 (by decide) hJ2
  have eu : u.1 = S.1 := hJ2.1.trans eu1
  have n1 : ∀ y, S.2.1 k 3 = some y → S.1 y = some (.inl 4) := fun y hy => h.lk1 v y (ch_mem (h.c1 v a hv).1 hkf1 (Or.inl hy))
  have p1 : ∀ y, S.2.1 k 2 = some y → S.1 y = some (.inl 4) := fun y hy => h.lk1 v y (ch_mem (h.c1 v a hv).1 hkf1 (Or.inr hy))
  have n2 : ∀ y, u1.2.1 k 5 = some y → S.1 y = some (.inl 4) := fun y hy => h.lk2 w y (ch_mem (f2 w b hw).1 hkf2 (Or.inl hy))
  have p2 : ∀ y, u1.2.1 k 4 = some y → S.1 y = some (.inl 4) := fun y hy => h.lk2 w y (ch_mem (f2 w b hw).1 hkf2 (Or.inr hy))
  have hother : ∀ x, S.1 x ≠ some (.inl 3) → S.1 x ≠ some (.inl 4) → u.2.1 x = S.2.1 x := by
    intro x h3 h4
    funext c
    have s1 : u1.2.1 x c = S.2.1 x c := by
      rw [hJ1.2.2.2, if_neg (fun z => h4 (n1 x z.2))]
      by_cases z : S.2.1 k 2 = none
      · rw [if_pos z, if_neg (fun y => h3 (by rw [y.1]; exact ka))]
      · rw [if_neg z, if_neg (fun y => h4 (p1 x y.2))]
    rw [← s1, hJ2.2.2.2, if_neg (fun z => h4 (n2 x z.2))]
    by_cases z : u1.2.1 k 4 = none
    · rw [if_pos z, if_neg (fun y => h3 (by rw [y.1]; exact kb))]
    · rw [if_neg z, if_neg (fun y => h4 (p2 x y.2))]
  have hit : u.2.2.1 = up2 (up2 S.2.2.1 a 3 (S.2.2.1 a 3 - 1)) b 4 (u1.2.2.1 b 4 - 1) := by rw [hJ2.2.2.1, hJ1.2.2.1]
  have hlg : u.2.2.2 = S.2.2.2 := by rw [hJ2.2.1, hJ1.2.1]
  have hito : ∀ x c, (x ≠ a ∨ c ≠ 3) → (x ≠ b ∨ c ≠ 4) → u.2.2.1 x c = S.2.2.1 x c := by
    intro x c q1 q2
    rw [hit]
    have z2 : up2 (up2 S.2.2.1 a 3 (S.2.2.1 a 3 - 1)) b 4 (u1.2.2.1 b 4 - 1) x c = up2 S.2.2.1 a 3 (S.2.2.1 a 3 - 1) x c := by
      rcases q2 with z | z
      · rw [up2_off _ _ z]
      · rw [up2_ne _ _ z]
    rw [z2]
    rcases q1 with z | z
    · rw [up2_off _ _ z]
    · rw [up2_ne _ _ z]
  have hl01 : ∀ c i, S.1 c = some (.inl 4) → i < 2 → u.2.1 c i = S.2.1 c i := by
    intro c i hc hi
    rw [leave_rf hJ2 (Or.inr (by omega)) (by omega) (by omega), leave_rf hJ1 (Or.inl (nk_ne ka hc).symm) (by omega) (by omega)]
  have hin : ∀ c y, (c, y) ∈ rd v → ((c, y) ∈ (rd v).eraseIdx i ↔ c ≠ k) := by
    intro c y hm
    obtain ⟨i2, hi2⟩ := List.getElem?_of_mem hm
    rw [List.mem_eraseIdx_iff_getElem?]
    constructor
    · rintro ⟨i3, h3, h4⟩ z
      have q1 : ((rd v).map Prod.fst)[i]? = some k := by rw [List.getElem?_map, hi]; rfl
      have q2 : ((rd v).map Prod.fst)[i3]? = some k := by rw [List.getElem?_map, h4, z]; rfl
      exact h3 (nd_ij (h.2.2.1 v).1 q2 q1)
    · intro z
      refine ⟨i2, fun e => ?_, hi2⟩
      rw [e, hi] at hi2
      exact z (congrArg Prod.fst (Option.some.inj hi2)).symm
  have hin2 : ∀ c y, (c, y) ∈ sr w → ((c, y) ∈ (sr w).eraseIdx j ↔ c ≠ k) := by
    intro c y hm
    obtain ⟨i2, hi2⟩ := List.getElem?_of_mem hm
    rw [List.mem_eraseIdx_iff_getElem?]
    constructor
    · rintro ⟨i3, h3, h4⟩ z
      have q1 : ((sr w).map Prod.fst)[j]? = some k := by rw [List.getElem?_map, hj]; rfl
      have q2 : ((sr w).map Prod.fst)[i3]? = some k := by rw [List.getElem?_map, h4, z]; rfl
      exact h3 (nd_ij (h.2.2.1 w).2.1 q2 q1)
    · intro z
      refine ⟨i2, fun e => ?_, hi2⟩
      rw [e, hj] at hi2
      exact z (congrArg Prod.fst (Option.some.inj hi2)).symm
  have hrdin : ∀ x c y, (c, y) ∈ va_up rd v ((rd v).eraseIdx i) x → (c, y) ∈ rd x ∧ c ≠ k := by
    intro x c y hm
    by_cases e : x = v
    · rw [e, va_up_self] at hm
      rw [e]
      exact ⟨ers hm, (hin c y (ers hm)).mp hm⟩
    · rw [va_up_ne _ _ e] at hm
      exact ⟨hm, fun z => e (h.ds1 x v k (mem_fs.mpr ⟨y, by rw [← z]; exact hm⟩) hkf1)⟩
  have hrdof : ∀ x c y, (c, y) ∈ rd x → c ≠ k → (c, y) ∈ va_up rd v ((rd v).eraseIdx i) x := by
    intro x c y hm hc
    by_cases e : x = v
    · rw [e, va_up_self]; rw [e] at hm; exact (hin c y hm).mpr hc
    · rw [va_up_ne _ _ e]; exact hm
  have hsrin : ∀ x c y, (c, y) ∈ va_up sr w ((sr w).eraseIdx j) x → (c, y) ∈ sr x ∧ c ≠ k := by
    intro x c y hm
    by_cases e : x = w
    · rw [e, va_up_self] at hm
      rw [e]
      exact ⟨ers hm, (hin2 c y (ers hm)).mp hm⟩
    · rw [va_up_ne _ _ e] at hm
      exact ⟨hm, fun z => e (h.ds2 x w k (mem_fs.mpr ⟨y, by rw [← z]; exact hm⟩) hkf2)⟩
  have hsrof : ∀ x c y, (c, y) ∈ sr x → c ≠ k → (c, y) ∈ va_up sr w ((sr w).eraseIdx j) x := by
    intro x c y hm hc
    by_cases e : x = w
    · rw [e, va_up_self]; rw [e] at hm; exact (hin2 c y hm).mpr hc
    · rw [va_up_ne _ _ e]; exact hm
  have hil : i < (rd v).length := (List.getElem?_eq_some_iff.mp hi).1
  refine ⟨⟨?_, fun x ax hx => ⟨(g1 x ax hx).1, (g1 x ax hx).2, (g2 x ax hx).1, (g2 x ax hx).2⟩, fun x => ?_, fun x c y hc => ?_, fun y c x hc => ?_⟩, fun x hx => ⟨by rw [eu], fun hn => ⟨hother x (fun z => hn (Or.inl z)) (fun z => hn (Or.inr z)), ?_, by rw [hlg]⟩⟩, fun x ax i hx i3 i4 => hito ax i (Or.inr i3) (Or.inr i4), eu, fun y => ?_, by rw [List.length_eraseIdx, if_pos hil]; omega⟩
  · refine Tb_dep2 h.1 (fun x kx hx => by rw [eu]; exact hx) (fun x kx hx h3 h4 => ?_) (fun x ax hx => hito ax 0 (Or.inr (by decide)) (Or.inr (by decide)))
    exact hother x (by rw [hx]; exact fun z => h3 (Option.some.inj z)) (by rw [hx]; exact fun z => h4 (Option.some.inj z))
  · obtain ⟨n1, n2, n3, n4⟩ := h.2.2.1 x
    refine ⟨?_, ?_, ?_, fun hx => ?_⟩
    · by_cases e : x = v
      · rw [e, va_up_self, er_map]; exact (h.2.2.1 v).1.sublist (List.eraseIdx_sublist _ _)
      · rw [va_up_ne _ _ e]; exact n1
    · by_cases e : x = w
      · rw [e, va_up_self, er_map]; exact (h.2.2.1 w).2.1.sublist (List.eraseIdx_sublist _ _)
      · rw [va_up_ne _ _ e]; exact n2
    · by_cases e : x = v
      · rw [e, va_up_self, er_map]; exact (h.2.2.1 v).2.2.1.sublist (List.eraseIdx_sublist _ _)
      · rw [va_up_ne _ _ e]; exact n3
    · have exv : x ≠ v := fun z => by rw [z, hv] at hx; cases hx
      have exw : x ≠ w := fun z => by rw [z, hw] at hx; cases hx
      rw [va_up_ne _ _ exv, va_up_ne _ _ exw]; exact n4 hx
  · obtain ⟨hm, hck⟩ := hrdin x c y hc
    obtain ⟨d1, ⟨ax, d2, d3⟩, ⟨bx, d4, d5⟩, d6⟩ := h.2.2.2.1 x c y hm
    exact ⟨by rw [eu]; exact d1, ⟨ax, d2, by rw [hl01 c 0 d1 (by decide)]; exact d3⟩, ⟨bx, d4, by rw [hl01 c 1 d1 (by decide)]; exact d5⟩, hsrof y c x d6 hck⟩
  · obtain ⟨hm, hck⟩ := hsrin y c x hc
    exact hrdof x c y (h.2.2.2.2 y c x hm) hck
  · funext c
    exact hito x c (Or.inl fun z => hn (Or.inl (by rw [z]; exact ka))) (Or.inl fun z => hn (Or.inl (by rw [z]; exact kb)))
  · constructor
    · rintro ⟨c, hc⟩
      have hm := ers hc
      refine ⟨⟨c, hm⟩, fun z => (hin c y hm).mp hc ?_⟩
      rw [z] at hm
      obtain ⟨i2, hi2⟩ := List.getElem?_of_mem hm
      have q1 : ((rd v).map Prod.snd)[i]? = some w := by rw [List.getElem?_map, hi]; rfl
      have q2 : ((rd v).map Prod.snd)[i2]? = some w := by rw [List.getElem?_map, hi2]; rfl
      have e := nd_ij (h.2.2.1 v).2.2.1 q2 q1
      rw [e, hi] at hi2
      exact (congrArg Prod.fst (Option.some.inj hi2)).symm
    · rintro ⟨⟨c, hm⟩, hne⟩
      refine ⟨c, (hin c y hm).mpr fun z => hne ?_⟩
      obtain ⟨i2, hi2⟩ := List.getElem?_of_mem hm
      have q1 : ((rd v).map Prod.fst)[i]? = some k := by rw [List.getElem?_map, hi]; rfl
      have q2 : ((rd v).map Prod.fst)[i2]? = some k := by rw [List.getElem?_map, hi2, z]; rfl
      have e := nd_ij (h.2.2.1 v).1 q2 q1
      rw [e, hi] at hi2
      exact (congrArg Prod.snd (Option.some.inj hi2)).symm
/-- a node is made, or was there -/
theorem Gr9_of {S u : sS} {tb pa j a : Nat} {nd : Nat → Option Nat} {rd sr : Nat → List (Nat × Nat)} (h : Gr9 S tb pa nd rd sr) (hO : OfP S tb pa nd j a u) : Gr9 u tb pa (va_up nd j (some a)) rd sr ∧ (∀ i v, i ≠ 0 → fl u (va_up nd j (some a)) i v = fl S nd i v) ∧ (∀ v b, nd v = some b → va_up nd j (some a) v = some b) := by
  obtain ⟨hT, hor, hF, hnew⟩ := hO
  have keep : ∀ {b c : Nat}, S.1 b = some (.inl c) → u.1 b = some (.inl c) ∧ u.2.1 b = S.2.1 b ∧ u.2.2.1 b = S.2.2.1 b := by
    intro b c hb
    obtain ⟨a1, a2⟩ := hF b (sk_nn hb)
    have hn : ¬ isRA S b := fun ⟨t, n, hk, _⟩ => by rw [hb] at hk; cases hk
    obtain ⟨x1, x2, -⟩ := a2 hn
    exact ⟨by rw [a1]; exact hb, x1, x2⟩
  have hmono : ∀ v b, nd v = some b → va_up nd j (some a) v = some b := by
    intro v b hv
    by_cases e : v = j
    · rw [e, va_up_self]
      rcases hor with z | ⟨z, -⟩
      · rw [e, z] at hv; exact hv
      · rw [e, z] at hv; cases hv
    · rw [va_up_ne _ _ e]; exact hv
  have hcase : ∀ v b, va_up nd j (some a) v = some b → nd v = some b ∨ (v = j ∧ b = a ∧ nd j = none ∧ (∀ k, u.2.1 a k = none) ∧ ∀ k, k ≠ 0 → u.2.2.1 a k = 0) := by
    intro v b hv
    by_cases e : v = j
    · rw [e, va_up_self] at hv
      have e2 : a = b := Option.some.inj hv
      rcases hor with z | ⟨z, -, -, z2, z3⟩
      · left; rw [e, z, e2]
      · right; exact ⟨e, e2.symm, z, z2, z3⟩
    · rw [va_up_ne _ _ e] at hv; exact Or.inl hv
  refine ⟨⟨hT, fun v b hv => ?_, fun v => ?_, fun v k w hk => ?_, h.2.2.2.2⟩, fun i v hi => ?_, hmono⟩
  · rcases hcase v b hv with hv' | ⟨e1, e2, e3, e4, e5⟩
    · obtain ⟨c1, c2, c3, c4⟩ := h.2.1 v b hv'
      obtain ⟨-, x1, x2⟩ := keep (h.nk hv').2.1
      refine ⟨?_, by rw [x2]; exact c2, ?_, by rw [x2]; exact c4⟩
      · rw [x1]
        refine chI_keep c1 (fun x hx => ?_)
        rw [(keep (h.lk1 v x hx)).2.1]; exact ⟨rfl, rfl⟩
      · rw [x1]
        refine chI_keep c3 (fun x hx => ?_)
        rw [(keep (h.lk2 v x hx)).2.1]; exact ⟨rfl, rfl⟩
    · obtain ⟨r1, r2⟩ := (h.2.2.1 j).2.2.2 e3
      rw [e1, e2, r1, r2, e4, e4, e5 3 (by decide), e5 4 (by decide)]
      exact ⟨⟨rfl, fun i k hk => by cases hk⟩, rfl, ⟨rfl, fun i k hk => by cases hk⟩, rfl⟩
  · obtain ⟨n1, n2, n3, n4⟩ := h.2.2.1 v
    refine ⟨n1, n2, n3, fun hv => n4 ?_⟩
    cases hz : nd v with
    | none => rfl
    | some b => rw [hmono v b hz] at hv; cases hv
  · obtain ⟨d1, ⟨b, d2, d3⟩, ⟨b2, d4, d5⟩, d6⟩ := h.2.2.2.1 v k w hk
    obtain ⟨x0, x1, -⟩ := keep d1
    exact ⟨x0, ⟨b, hmono v b d2, by rw [x1]; exact d3⟩, ⟨b2, hmono w b2 d4, by rw [x1]; exact d5⟩, d6⟩
  · cases hv : va_up nd j (some a) v with
    | none =>
      rw [fl_no hv]
      cases hz : nd v with
      | none => rw [fl_no hz]
      | some b => rw [hmono v b hz] at hv; cases hv
    | some b =>
      rw [fl_at hv]
      rcases hcase v b hv with hv' | ⟨e1, e2, e3, e4, e5⟩
      · rw [fl_at hv', (keep (h.nk hv').2.1).2.2]
      · rw [e2, e5 i hi, e1, fl_no e3]
/-- the object's world when nodes, links and the table change -/
theorem Mz_gr {S u : sS} {h0 tb pa q : Nat} {na : Nat → Nat} {nd nd' : Nat → Option Nat} {rd sr rd' sr' : Nat → List (Nat × Nat)} {nr nc nn : Nat → Nat} {nf : Nat → Nat → Nat} (h : Mz S h0 tb pa q na nd rd sr nr nc nn nf) (hF : sFr S u (fun b => isNK S b ∨ isRA S b)) (hG : Gr9 u tb pa nd' rd' sr') :
    Mz u h0 tb pa q na nd' rd' sr' nr nc nn nf ∧ ∀ j, u.2.2.1 h0 j = S.2.2.1 h0 j := by
  obtain ⟨h1, h2, h3, h4, h5⟩ := h
  have hP : ∀ {b c : Nat}, S.1 b = some (.inl c) → c ≠ 3 → c ≠ 4 → ¬ (isNK S b ∨ isRA S b) := by
    intro b c hb c3 c4 z
    rcases z with (z | z) | ⟨t, n, z, -⟩
    · rw [hb] at z; exact c3 (Sum.inl.inj (Option.some.inj z))
    · rw [hb] at z; exact c4 (Sum.inl.inj (Option.some.inj z))
    · rw [hb] at z; cases z
  have hR : ∀ {b n : Nat}, S.1 b = some (.inr (0, n)) → ¬ (isNK S b ∨ isRA S b) := by
    intro b n hb z
    rcases z with (z | z) | ⟨t, n', z, z2⟩
    · rw [hb] at z; cases z
    · rw [hb] at z; cases z
    · rw [hb] at z
      have : t = 0 := (congrArg Prod.fst (Sum.inr.inj (Option.some.inj z))).symm
      omega
  refine ⟨⟨Hd_fr h1 hF (hP h1.1 (by decide) (by decide)), ?_, hG, fun k hk => ?_, h5⟩, fun j => ?_⟩
  · obtain ⟨a1, a2⟩ := hF q (sk_nn h2.1)
    exact ⟨by rw [a1]; exact h2.1, by rw [(a2 (hP h2.1 (by decide) (by decide))).1]; exact h2.2⟩
  · have hN := h4 k hk
    exact Nm_keep hN hF (hP hN.1 (by decide) (by decide)) (hR hN.2.2.1)
  · rw [((hF h0 (sk_nn h1.1)).2 (hP h1.1 (by decide) (by decide))).2.1]
