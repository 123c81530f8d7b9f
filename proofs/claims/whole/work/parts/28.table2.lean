theorem sk_nn {k : sK} {o : Option sK} (h : o = some k) : o ≠ none := fun z => by rw [z] at h; cases h
theorem sk_d {kd : Nat → Option sK} {a b : Nat} {k k2 : sK} (h : kd a = some k) (h2 : kd b = some k2) (hk : k ≠ k2) : a ≠ b := fun z => by
  rw [z, h2] at h
  exact hk (Option.some.inj h).symm
/-- a node made -/
theorem Tb_node {S u : sS} {tb pa j a pg row : Nat} {nd : Nat → Option Nat} (h : Tb S tb pa nd) (hj : j < 16384) (hpg : S.2.1 pa (j / 128) = some pg) (hrow : S.2.1 pg 0 = some row) (kpg : S.1 pg = some (.inl 2)) (krow : S.1 row = some (.inr (2, 128))) (ha : S.1 a = none)
    (hk : ∀ b, b ≠ a → u.1 b = S.1 b) (hka : u.1 a = some (.inl 3)) (hr : ∀ b, b ≠ a → b ≠ row → u.2.1 b = S.2.1 b) (hrr : ∀ k, u.2.1 row k = if k = j % 128 then some a else S.2.1 row k) (hi : ∀ b, b ≠ a → u.2.2.1 b = S.2.2.1 b) (hia : u.2.2.1 a 0 = nI j) : Tb u tb pa (va_up nd j (some a)) := by
  obtain ⟨kt, ht, kp, hpgs, hdi, hnd⟩ := h
  have t1 : tb ≠ a := sk_ne kt ha
  have t2 : tb ≠ row := sk_d kt krow (by decide)
  have p1 : pa ≠ a := sk_ne kp ha
  have p2 : pa ≠ row := sk_d kp krow (by decide)
  refine ⟨by rw [hk tb t1]; exact kt, by rw [hr tb t1 t2]; exact ht, by rw [hk pa p1]; exact kp, fun i hi9 => ?_, fun i i' g g' rw' h1 h2 h3 h4 h5 h6 => ?_, fun n b hb => ?_⟩
  · rcases hpgs i hi9 with ⟨z1, z2⟩ | ⟨g, r9, z1, z2, z3, z4, z5⟩
    · refine Or.inl ⟨by rw [hr pa p1 p2]; exact z1, fun j' hj' => ?_⟩
      rw [va_up_ne _ _ (fun q => ?_)]
      · exact z2 j' hj'
      · have : j / 128 = i := by omega
        rw [this, z1] at hpg; cases hpg
    · have g1 : g ≠ a := sk_ne z2 ha
      have g2 : g ≠ row := sk_d z2 krow (by decide)
      have q1 : r9 ≠ a := sk_ne z4 ha
      refine Or.inr ⟨g, r9, by rw [hr pa p1 p2]; exact z1, by rw [hk g g1]; exact z2, by rw [hr g g1 g2]; exact z3, by rw [hk r9 q1]; exact z4, fun j' hj' => ?_⟩
      by_cases e : r9 = row
      · have ei : i = j / 128 := hdi i (j / 128) g pg row hi9 (by omega) z1 hpg (by rw [← e]; exact z3) hrow
        rw [e, hrr]
        by_cases e2 : j' = j % 128
        · rw [if_pos e2, show 128 * i + j' = j by omega, va_up_self]
        · rw [if_neg e2, va_up_ne _ _ (by omega), ← e]; exact z5 j' hj'
      · have ei : i ≠ j / 128 := fun q => by
          rw [q, hpg] at z1
          have : pg = g := Option.some.inj z1
          rw [← this, hrow] at z3
          exact e (Option.some.inj z3).symm
        rw [hr r9 q1 e, va_up_ne _ _ (by omega)]; exact z5 j' hj'
  · rw [hr pa p1 p2] at h3 h4
    have kk : ∀ (i g : Nat), i < 128 → S.2.1 pa i = some g → u.2.1 g 0 = S.2.1 g 0 := by
      intro i g hi9 hg
      rcases hpgs i hi9 with ⟨z1, -⟩ | ⟨g2, r9, z1, z2, -⟩
      · rw [z1] at hg; cases hg
      · have e : g2 = g := Option.some.inj (z1.symm.trans hg)
        rw [← e, hr g2 (sk_ne z2 ha) (sk_d z2 krow (by decide))]
    rw [kk i g h1 h3] at h5
    rw [kk i' g' h2 h4] at h6
    exact hdi i i' g g' rw' h1 h2 h3 h4 h5 h6
  · by_cases e : n = j
    · rw [e, va_up_self] at hb
      have eb : a = b := Option.some.inj hb
      rw [← eb, e]
      exact ⟨hj, hka, hia⟩
    · rw [va_up_ne _ _ e] at hb
      obtain ⟨b1, b2, b3⟩ := hnd n b hb
      have hba : b ≠ a := sk_ne b2 ha
      exact ⟨b1, by rw [hk b hba]; exact b2, by rw [hi b hba]; exact b3⟩
/-- a page made -/
theorem Tb_page {S u : sS} {tb pa i pg row : Nat} {nd : Nat → Option Nat} (h : Tb S tb pa nd) (hi0 : i < 128) (hno : S.2.1 pa i = none) (kpg : S.1 pg = none) (krow : S.1 row = none) (hne : pg ≠ row)
    (hk : ∀ b, b ≠ pg → b ≠ row → u.1 b = S.1 b) (hkp : u.1 pg = some (.inl 2)) (hkr : u.1 row = some (.inr (2, 128))) (hr : ∀ b, b ≠ pg → b ≠ row → b ≠ pa → u.2.1 b = S.2.1 b) (hrp : u.2.1 pg 0 = some row) (hrr : ∀ k, u.2.1 row k = none) (hpa : ∀ k, u.2.1 pa k = if k = i then some pg else S.2.1 pa k) (hi : ∀ b, b ≠ pg → b ≠ row → u.2.2.1 b = S.2.2.1 b) : Tb u tb pa nd := by
  obtain ⟨kt, ht, kp, hpgs, hdi, hnd⟩ := h
  have ne : ∀ {b : Nat} {k : sK}, S.1 b = some k → b ≠ pg ∧ b ≠ row := fun hb => ⟨sk_ne hb kpg, sk_ne hb krow⟩
  have tpa : tb ≠ pa := sk_d kt kp (by decide)
  have old : ∀ (i' g : Nat), i' < 128 → S.2.1 pa i' = some g → ∃ r9, S.1 g = some (.inl 2) ∧ S.2.1 g 0 = some r9 ∧ S.1 r9 = some (.inr (2, 128)) ∧ u.2.1 g = S.2.1 g := by
    intro i' g hi9 hg
    rcases hpgs i' hi9 with ⟨z1, -⟩ | ⟨g2, r9, z1, z2, z3, z4, -⟩
    · rw [z1] at hg; cases hg
    · have e : g2 = g := Option.some.inj (z1.symm.trans hg)
      subst e
      exact ⟨r9, z2, z3, z4, hr g2 (ne z2).1 (ne z2).2 (sk_d z2 kp (by decide))⟩
  refine ⟨by rw [hk tb (ne kt).1 (ne kt).2]; exact kt, by rw [hr tb (ne kt).1 (ne kt).2 tpa]; exact ht, by rw [hk pa (ne kp).1 (ne kp).2]; exact kp, fun i' hi9 => ?_, fun i1 i2 g g' rw' h1 h2 h3 h4 h5 h6 => ?_, fun n b hb => ?_⟩
  · by_cases e : i' = i
    · refine Or.inr ⟨pg, row, by rw [hpa, if_pos e], hkp, hrp, hkr, fun j' hj' => ?_⟩
      rw [hrr]
      rcases hpgs i' hi9 with ⟨-, z2⟩ | ⟨g, r9, z1, -⟩
      · exact (z2 j' hj').symm
      · rw [e, hno] at z1; cases z1
    · rcases hpgs i' hi9 with ⟨z1, z2⟩ | ⟨g, r9, z1, z2, z3, z4, z5⟩
      · exact Or.inl ⟨by rw [hpa, if_neg e]; exact z1, z2⟩
      · refine Or.inr ⟨g, r9, by rw [hpa, if_neg e]; exact z1, by rw [hk g (ne z2).1 (ne z2).2]; exact z2, by rw [hr g (ne z2).1 (ne z2).2 (sk_d z2 kp (by decide))]; exact z3, by rw [hk r9 (ne z4).1 (ne z4).2]; exact z4, fun j' hj' => ?_⟩
        rw [hr r9 (ne z4).1 (ne z4).2 (sk_d z4 kp (by decide))]; exact z5 j' hj'
  · rw [hpa] at h3 h4
    by_cases e1 : i1 = i
    · by_cases e2 : i2 = i
      · omega
      · rw [if_pos e1] at h3; rw [if_neg e2] at h4
        obtain ⟨r9, z2, z3, z4, z5⟩ := old i2 g' h2 h4
        rw [← Option.some.inj h3, hrp] at h5
        rw [z5, z3] at h6
        have : r9 = row := (Option.some.inj h6).trans (Option.some.inj h5).symm
        exact absurd this (ne z4).2
    · by_cases e2 : i2 = i
      · rw [if_neg e1] at h3; rw [if_pos e2] at h4
        obtain ⟨r9, z2, z3, z4, z5⟩ := old i1 g h1 h3
        rw [← Option.some.inj h4, hrp] at h6
        rw [z5, z3] at h5
        have : r9 = row := (Option.some.inj h5).trans (Option.some.inj h6).symm
        exact absurd this (ne z4).2
      · rw [if_neg e1] at h3; rw [if_neg e2] at h4
        obtain ⟨r9, z2, z3, z4, z5⟩ := old i1 g h1 h3
        obtain ⟨r8, y2, y3, y4, y5⟩ := old i2 g' h2 h4
        rw [z5] at h5
        rw [y5] at h6
        exact hdi i1 i2 g g' rw' h1 h2 h3 h4 h5 h6
  · obtain ⟨b1, b2, b3⟩ := hnd n b hb
    exact ⟨b1, by rw [hk b (ne b2).1 (ne b2).2]; exact b2, by rw [hi b (ne b2).1 (ne b2).2]; exact b3⟩
/-- an array of references -/
def isRA (S : sS) (b : Nat) : Prop := ∃ t n, S.1 b = some (.inr (t, n)) ∧ (t = 1 ∨ t = 2)
/-- what of does: node j stands at a -/
def OfP (S : sS) (tb pa : Nat) (nd : Nat → Option Nat) (j a : Nat) (u : sS) : Prop :=
  Tb u tb pa (va_up nd j (some a)) ∧ (nd j = some a ∨ (nd j = none ∧ S.1 a = none ∧ u.1 a = some (.inl 3) ∧ (∀ k, u.2.1 a k = none) ∧ ∀ k, k ≠ 0 → u.2.2.1 a k = 0)) ∧ sFr S u (isRA S) ∧ ∀ b, S.1 b = none → u.1 b ≠ none → b = a ∨ u.1 b = some (.inl 2) ∨ ∃ n, u.1 b = some (.inr (2, n))
theorem va_up_same {α : Type} {f : Nat → α} {k : Nat} {v : α} (h : f k = v) : va_up f k v = f := by
  funext i
  by_cases e : i = k
  · rw [e, va_up_self, h]
  · rw [va_up_ne _ _ e]
set_option maxHeartbeats 4000000 in
set_option maxRecDepth 100000 in
theorem of_tail {p : Program} {l : Launch} {e : Env} {s : State} {m : MethodId} {args : Array Value} {below : List Frame} {meth : Method} {c : Code} {D : va_G} {dA : Nat → ClassId} {A : Nat → Prop} {Q : State → Prop} (hx : p.tables.exec = Jvm.exec) (hb : c.code = c_T_of) (hml : c.maxLocals = 5) (hown : s.vm.findClass R_T = some m.cls) (hg : ∀ w ∈ gd, w.before args s = true) (hK : va_K D cls (tys dA) s) (hX : sKx s) {mc ms cells slots : Nat} (hcs : cells + 1 ≤ mc ∧ slots + 9 ≤ ms) {S : sS} {tb pa j pg row : Nat} {nd : Nat → Option Nat} {o : Option Value} (h : Tb S tb pa nd) (hj : j < 16384) (hpg : S.2.1 pa (j / 128) = some pg) (hrow : S.2.1 pg 0 = some row) (kpg : S.1 pg = some (.inl 2)) (krow : S.1 row = some (.inr (2, 128)))
    {H : Heap} {locs : List Loc} {ls : Array Slot} (hM : SW D dA A s.heap S H locs) (hl : lc ls 5 [some (va_rf (some tb)), some (.int (nI j)), o, some (va_rf (some pg)), none])
    (kk : ∀ (a : Nat) (u : sS) (H : Heap) (locs : List Loc) (ls : Array Slot), SW D dA A s.heap u H locs → OfP S tb pa nd j a u → W p l e (rmk 2 mc ms) s m args below meth c H locs (cells + 1) (slots + 9) Q (F0 m 70 ls [va_rf (some a)])) : W p l e (rmk 2 mc ms) s m args below meth c H locs cells slots Q (F0 m 31 ls []) := by
  obtain ⟨kd, rf, it, lg⟩ := S
  have h' := h
  obtain ⟨kt, ht, kp, hpgs, hdi, hnd⟩ := h'
  dsimp only at kt ht kp hpgs hdi hnd hpg hrow kpg krow
  have hcont : rf row (j % 128) = nd j := by
    rcases hpgs (j / 128) (by omega) with ⟨z1, -⟩ | ⟨g, r9, z1, z2, z3, z4, z5⟩
    · rw [z1] at hpg; cases hpg
    · have e : g = pg := Option.some.inj (z1.symm.trans hpg)
      subst e
      have e2 : r9 = row := Option.some.inj (z3.symm.trans hrow)
      subst e2
      have := z5 (j % 128) (by omega)
      rw [tb_j] at this; exact this
  refine q_al_n (i := 3) hx hb d_T_of_31 rfl hl rfl ?_
  refine s_getr (C := R_P) (T := F_P) (N := 1) (ci := 2) hx hb hg in_P hown hK hM kpg rfl 0 (by decide) rfl (hg _ kw_122) (fun _ h9 => h9) d_T_of_32 ?_
  rw [hrow]
  refine q_iload_n (i := 1) hx hb d_T_of_35 rfl hl rfl ?_
  refine lv_bipush (v := 127) hx hb d_T_of_36 (by decide) ?_
  refine lv_iand hx hb d_T_of_38 ?_
  rw [nI_pj hj]
  refine s_ald (t := 2) (C := "HangOrder$Node") hx hb hK hM krow rfl rfl (vp_in_nI (by omega) (by omega)) d_T_of_39 ?_
  rw [nI_clamp (by omega), hcont]
  refine q_astore hx hb (_) d_T_of_40 hl (by decide) (fun ls hl => ?_)
  simp only [List.set_cons_succ, List.set_cons_zero] at hl
  refine q_al hx hb d_T_of_42 hl rfl ?_
  refine q_ifnonnull (tgt := 68) hx hb d_T_of_44 (by decide) (fun y3 c3 => ?_) (fun c3 => ?_)
  · refine q_al hx hb d_T_of_68 hl rfl ?_
    rw [c3]
    refine W.widen (k := cells + 1) (n := slots + 9) (by omega) (by omega) ?_
    exact kk y3 _ H locs ls hM ⟨by rw [va_up_same c3]; exact h, Or.inl c3, sFr.rf, fun b h1 h2 => absurd h1 h2⟩
  · refine s_new (C := R_N) (T := F_N) (N := 9) (ci := 3) hx hb hg in_N ft_N ft_N_ok hown (hg _ kw_126) (hg _ kw_127) (hg _ kw_12) hK hM rfl df_N hcs.1 hcs.2 d_T_of_47 (fun a H ha hM => ?_)
    dsimp only [sNew] at hM ha
    have ka : va_up kd a (some (.inl 3)) a = some (.inl 3) := va_up_self _ _ _
    refine lv_dup hx hb d_T_of_50 rfl ?_
    refine q_iload_n (i := 1) hx hb d_T_of_51 rfl hl rfl ?_
    refine s_callv (r_I 1 [.int (nI j)] rfl hx hb hml hown hg (m_N_init l D dA _ _ a (nI j) ka) (hM.pre hK hX) rfl kw_128 kw_129 kw_12 kw_130 (by decide +kernel) ⟨Nat.le_of_ble_eq_true rfl, Nat.le_of_ble_eq_true rfl⟩ rfl rfl hl.sz (by first | exact Nat.le_of_ble_eq_true rfl | simp [rf_cat] | simp [rf_cat, Value.category]) d_T_of_52 ⟨hcs.1, hcs.2⟩ rfl) hM (fun u H locs hp hM => ?_)
    subst hp
    dsimp only at hM
    have n1 : pg ≠ a := sk_ne kpg ha
    have n2 : row ≠ a := sk_ne krow ha
    have kpg2 : va_up kd a (some (.inl 3)) pg = some (.inl 2) := by rw [va_up_ne _ _ n1]; exact kpg
    have krow2 : va_up kd a (some (.inl 3)) row = some (.inr (2, 128)) := by rw [va_up_ne _ _ n2]; exact krow
    have hrow2 : upr rf a (fun _ => none) pg 0 = some row := by rw [upr_off _ _ n1]; exact hrow
    refine q_astore hx hb (some a) d_T_of_55 hl (by decide) (fun ls hl => ?_)
    simp only [List.set_cons_succ, List.set_cons_zero] at hl
    refine q_al_n (i := 3) hx hb d_T_of_57 rfl hl rfl ?_
    refine s_getr (C := R_P) (T := F_P) (N := 1) (ci := 2) hx hb hg in_P hown hK hM kpg2 rfl 0 (by decide) rfl (hg _ kw_122) (fun _ h9 => h9) d_T_of_58 ?_
    rw [hrow2]
    refine q_iload_n (i := 1) hx hb d_T_of_61 rfl hl rfl ?_
    refine lv_bipush (v := 127) hx hb d_T_of_62 (by decide) ?_
    refine lv_iand hx hb d_T_of_64 ?_
    rw [nI_pj hj]
    refine q_al hx hb d_T_of_65 hl rfl ?_
    refine s_ast (t := 2) (ci := 3) (r := (R_N, F_N, 9)) hx hb hK hM krow2 rfl rfl ka rfl (vp_in_nI (by omega) (by omega)) d_T_of_67 (fun H locs hM => ?_)
    rw [nI_clamp (by omega)] at hM
    refine q_al hx hb d_T_of_68 hl rfl ?_
    have hT : Tb (va_up kd a (some (.inl 3)), up2 (upr rf a (fun _ => none)) row (j % 128) (some a), up2 (upr it a (fun _ => 0)) a 0 (nI j), upr lg a (fun _ => 0)) tb pa (va_up nd j (some a)) := by
      refine Tb_node h hj hpg hrow kpg krow ha (fun b hb9 => va_up_ne _ _ hb9) ka (fun b hb9 hb8 => ?_) (fun k => ?_) (fun b hb9 => ?_) (up2_self _ _ _ _)
      · show up2 (upr rf a (fun _ => none)) row (j % 128) (some a) b = rf b
        rw [up2_off _ _ hb8, upr_off _ _ hb9]
      · show up2 (upr rf a (fun _ => none)) row (j % 128) (some a) row k = if k = j % 128 then some a else rf row k
        rw [up2_row, upr_off _ _ n2]
      · show up2 (upr it a (fun _ => 0)) a 0 (nI j) b = it b
        rw [up2_off _ _ hb9, upr_off _ _ hb9]
    refine kk a _ H locs ls hM ⟨hT, Or.inr ⟨c3, ha, ka, fun k => ?_, fun k hk => ?_⟩, fun b hb9 => ?_, fun b h1 h2 => ?_⟩
    · show up2 (upr rf a (fun _ => none)) row (j % 128) (some a) a k = none
      rw [up2_off _ _ (fun z => n2 z.symm), upr_self]
    · show up2 (upr it a (fun _ => 0)) a 0 (nI j) a k = 0
      rw [up2_ne _ _ hk, upr_self]
    · have hba : b ≠ a := fun z => hb9 (by rw [z]; exact ha)
      refine ⟨va_up_ne _ _ hba, fun hn9 => ⟨?_, ?_, ?_⟩⟩
      · show up2 (upr rf a (fun _ => none)) row (j % 128) (some a) b = rf b
        rw [up2_off _ _ (fun z => hn9 (by rw [z]; exact ⟨2, 128, krow, Or.inr rfl⟩)), upr_off _ _ hba]
      · show up2 (upr it a (fun _ => 0)) a 0 (nI j) b = it b
        rw [up2_off _ _ hba, upr_off _ _ hba]
      · show upr lg a (fun _ => 0) b = lg b
        rw [upr_off _ _ hba]
    · by_cases e : b = a
      · exact Or.inl e
      · exact absurd (by show va_up kd a _ b = none; rw [va_up_ne _ _ e]; exact h1) h2
set_option maxHeartbeats 4000000 in
set_option maxRecDepth 100000 in
theorem m_T_ofN (l : Launch) (D : va_G) (dA : Nat → ClassId) (S : sS) (sz : Nat) (tb pa : Nat) (nd : Nat → Option Nat) (j : Nat) (h : Tb S tb pa nd) (hj : j < 16384) :
    cQ l y_T_of c_T_of 5 (some (.object "HangOrder$Node")) (rmk 2 3 138) D dA S sz [.ref tb, .int (nI j)] (fun x u => ∃ a, x = some a ∧ OfP S tb pa nd j a u) (3) (138) := by
  obtain ⟨kd, rf, it, lg⟩ := S
  have h' := h
  obtain ⟨kt, ht, kp, hpgs, hdi, hnd⟩ := h'
  dsimp only at kt ht kp hpgs hdi hnd
  refine s_met (cc := c_T_of) (maxL := 5) (by decide) rfl (by simp [Value.category]) (by simp [lg_sl, Value.category]) ?_
  intro p e s m args below meth c ls hx hb hr hts hown hlocks hin hml hK hX hsz hM hl
  have hg := gd_hts hts
  have hl : lc ls 5 [some (va_rf (some tb)), some (.int (nI j)), none, none, none] := hl
  refine q_iload_n (i := 1) hx hb d_T_of_0 rfl hl rfl ?_
  refine s_calli (r_S 1 [.int (nI j)] rfl hx hb hml hown hg (m_T_pageIndex l D dA _ _ j hj) (hM.pre hK hX) kw_111 kw_112 kw_2 kw_113 (by decide +kernel) ⟨Nat.le_of_ble_eq_true rfl, Nat.le_of_ble_eq_true rfl⟩ rfl rfl hl.sz (by first | exact Nat.le_of_ble_eq_true rfl | simp [rf_cat] | simp [rf_cat, Value.category]) d_T_of_1 ⟨by show 0 + 0 ≤ 3; omega, by show 0 + 0 ≤ 138; omega⟩ rfl) hM (fun r1 u H locs hp hM => ?_)
  obtain ⟨rfl, rfl⟩ := hp
  refine q_istore_n (i := 2) hx hb d_T_of_4 rfl hl (by decide) (fun ls hl => ?_)
  simp only [List.set_cons_succ, List.set_cons_zero] at hl
  refine q_al_n (i := 0) hx hb d_T_of_5 rfl hl rfl ?_
  refine s_getr (C := R_T) (T := F_T) (N := 1) (ci := 1) hx hb hg in_T hown hK hM (by assumption) rfl 0 (by decide) rfl (hg _ kw_33) (fun _ h9 => h9) d_T_of_6 ?_
  rw [ht]
  refine q_iload_n (i := 2) hx hb d_T_of_9 rfl hl rfl ?_
  refine s_ald (t := 1) (C := "HangOrder$Page") hx hb hK hM kp rfl rfl (vp_in_nI (by omega) (by omega)) d_T_of_10 ?_
  rw [nI_clamp (by omega)]
  rcases hpgs (j / 128) (by omega) with ⟨z, -⟩ | ⟨pg, row, z1, kg, hro, kro, hrow⟩
  · rw [z]
    refine q_astore_n (i := 3) hx hb (none) d_T_of_11 rfl hl (by decide) (fun ls hl => ?_)
    simp only [List.set_cons_succ, List.set_cons_zero] at hl
    refine q_al_n (i := 3) hx hb d_T_of_12 rfl hl rfl ?_
    refine q_ifnonnull (tgt := 31) hx hb d_T_of_13 (by decide) (fun pg2 c2 => ?_) (fun c2 => ?_)
    · cases c2
    · refine s_new (C := R_P) (T := F_P) (N := 1) (ci := 2) hx hb hg in_P ft_P ft_P_ok hown (hg _ kw_31) (hg _ kw_114) (hg _ kw_11) hK hM rfl df_P (by show 0 + 0 + 1 ≤ 3; omega) (by show 0 + 0 + 1 ≤ 138; omega) d_T_of_16 (fun pg H hpg hM => ?_)
      dsimp only [sNew] at hM hpg
      have kg : va_up kd pg (some (.inl 2)) pg = some (.inl 2) := va_up_self _ _ _
      refine lv_dup hx hb d_T_of_19 rfl ?_
      refine s_callv (r_IN (host := "HangOrder") 0 [] rfl hx hb hml hown hg (m_P_init l D dA _ _ pg kg) (hM.pre hK hX) rfl (hX.1 _ (List.mem_of_getElem? (i := 4) rfl)) kw_116 kw_11 kw_117 (by decide +kernel) ⟨Nat.le_of_ble_eq_true rfl, Nat.le_of_ble_eq_true rfl⟩ rfl rfl hl.sz (by first | exact Nat.le_of_ble_eq_true rfl | simp [rf_cat] | simp [rf_cat, Value.category]) d_T_of_20 ⟨by show 0 + 0 + 1 + 1 ≤ 3; omega, by show 0 + 0 + 1 + 128 ≤ 138; omega⟩ rfl) hM (fun u H locs hp hM => ?_)
      obtain ⟨row, hr9, rfl⟩ := hp
      dsimp only at hM hr9
      have n1 : pg ≠ row := sk_ne kg hr9
      have hrn : kd row = none := by rw [va_up_ne _ _ (fun z => n1 z.symm)] at hr9; exact hr9
      have ne : ∀ {b : Nat} {k : sK}, kd b = some k → b ≠ pg ∧ b ≠ row := fun hb => ⟨sk_ne hb hpg, sk_ne hb hrn⟩
      have kt2 : va_up (va_up kd pg (some (.inl 2))) row (some (.inr (2, 128))) tb = some (.inl 1) := by rw [va_up_ne _ _ (ne kt).2, va_up_ne _ _ (ne kt).1]; exact kt
      have kp2 : va_up (va_up kd pg (some (.inl 2))) row (some (.inr (2, 128))) pa = some (.inr (1, 128)) := by rw [va_up_ne _ _ (ne kp).2, va_up_ne _ _ (ne kp).1]; exact kp
      have kg2 : va_up (va_up kd pg (some (.inl 2))) row (some (.inr (2, 128))) pg = some (.inl 2) := by rw [va_up_ne _ _ n1, va_up_self]
      have ht2 : up2 (upr (upr rf pg (fun _ => none)) row (fun _ => none)) pg 0 (some row) tb 0 = some pa := by rw [up2_off _ _ (ne kt).1, upr_off _ _ (ne kt).2, upr_off _ _ (ne kt).1]; exact ht
      refine q_astore_n (i := 3) hx hb (some pg) d_T_of_23 rfl hl (by decide) (fun ls hl => ?_)
      simp only [List.set_cons_succ, List.set_cons_zero] at hl
      refine q_al_n (i := 0) hx hb d_T_of_24 rfl hl rfl ?_
      refine s_getr (C := R_T) (T := F_T) (N := 1) (ci := 1) hx hb hg in_T hown hK hM kt2 rfl 0 (by decide) rfl (hg _ kw_33) (fun _ h9 => h9) d_T_of_25 ?_
      rw [ht2]
      refine q_iload_n (i := 2) hx hb d_T_of_28 rfl hl rfl ?_
      refine q_al_n (i := 3) hx hb d_T_of_29 rfl hl rfl ?_
      refine s_ast (t := 1) (ci := 2) (r := (R_P, F_P, 1)) hx hb hK hM kp2 rfl rfl kg2 rfl (vp_in_nI (by omega) (by omega)) d_T_of_30 (fun H locs hM => ?_)
      rw [nI_clamp (by omega)] at hM
      have ppg : pa ≠ pg := (ne kp).1
      have prow : pa ≠ row := (ne kp).2
      have hT : Tb (va_up (va_up kd pg (some (.inl 2))) row (some (.inr (2, 128))), up2 (up2 (upr (upr rf pg (fun _ => none)) row (fun _ => none)) pg 0 (some row)) pa (j / 128) (some pg), upr (upr it pg (fun _ => 0)) row (fun _ => 0), upr (upr lg pg (fun _ => 0)) row (fun _ => 0)) tb pa nd := by
        refine Tb_page h (i := j / 128) (by omega) z hpg hrn n1 (fun b h1 h2 => ?_) kg2 (va_up_self _ _ _) (fun b h1 h2 h3 => ?_) ?_ (fun k => ?_) (fun k => ?_) (fun b h1 h2 => ?_)
        · show va_up (va_up kd pg _) row _ b = kd b
          rw [va_up_ne _ _ h2, va_up_ne _ _ h1]
        · show up2 (up2 (upr (upr rf pg _) row _) pg 0 (some row)) pa (j / 128) (some pg) b = rf b
          rw [up2_off _ _ h3, up2_off _ _ h1, upr_off _ _ h2, upr_off _ _ h1]
        · show up2 (up2 (upr (upr rf pg _) row _) pg 0 (some row)) pa (j / 128) (some pg) pg 0 = some row
          rw [up2_off _ _ (fun y => ppg y.symm), up2_self]
        · show up2 (up2 (upr (upr rf pg _) row _) pg 0 (some row)) pa (j / 128) (some pg) row k = none
          rw [up2_off _ _ (fun y => prow y.symm), up2_off _ _ (fun y => n1 y.symm), upr_self]
        · show up2 (up2 (upr (upr rf pg _) row _) pg 0 (some row)) pa (j / 128) (some pg) pa k = if k = j / 128 then some pg else rf pa k
          rw [up2_row, up2_off _ _ ppg, upr_off _ _ prow, upr_off _ _ ppg]
        · show upr (upr it pg _) row _ b = it b
          rw [upr_off _ _ h2, upr_off _ _ h1]
      refine of_tail hx hb hml hown hg hK hX (mc := 3) (ms := 138) ⟨by omega, by omega⟩ hT hj (up2_self _ _ _ _) ?_ kg2 (va_up_self _ _ _) hM hl ?_
      · show up2 (up2 (upr (upr rf pg _) row _) pg 0 (some row)) pa (j / 128) (some pg) pg 0 = some row
        rw [up2_off _ _ (fun y => ppg y.symm), up2_self]
      · rintro a u H locs ls hM ⟨o1, o2, o3, o4⟩
        refine W.widen (k := 3) (n := 138) (by omega) (by omega) ?_
        have hF0 : sFr (kd, rf, it, lg) (va_up (va_up kd pg (some (.inl 2))) row (some (.inr (2, 128))), up2 (up2 (upr (upr rf pg (fun _ => none)) row (fun _ => none)) pg 0 (some row)) pa (j / 128) (some pg), upr (upr it pg (fun _ => 0)) row (fun _ => 0), upr (upr lg pg (fun _ => 0)) row (fun _ => 0)) (isRA (kd, rf, it, lg)) := by
          intro b hb9
          have b1 : b ≠ pg := fun y => hb9 (by rw [y]; exact hpg)
          have b2 : b ≠ row := fun y => hb9 (by rw [y]; exact hrn)
          refine ⟨by show va_up (va_up kd pg _) row _ b = kd b; rw [va_up_ne _ _ b2, va_up_ne _ _ b1], fun hn9 => ⟨?_, ?_, ?_⟩⟩
          · show up2 (up2 (upr (upr rf pg _) row _) pg 0 (some row)) pa (j / 128) (some pg) b = rf b
            rw [up2_off _ _ (fun y => hn9 (by rw [y]; exact ⟨1, 128, kp, Or.inl rfl⟩)), up2_off _ _ b1, upr_off _ _ b2, upr_off _ _ b1]
          · show upr (upr it pg _) row _ b = it b
            rw [upr_off _ _ b2, upr_off _ _ b1]
          · show upr (upr lg pg _) row _ b = lg b
            rw [upr_off _ _ b2, upr_off _ _ b1]
        refine s_qret (some a) hx hb hr (Or.inl ⟨_, rfl⟩) hM ⟨a, rfl, o1, ?_, hF0.tr o3 (fun b _ q => q) (fun b hb9 q => ?_), fun b h1 h2 => ?_⟩ d_T_of_70 hlocks
        · rcases o2 with q | ⟨q1, q2, q3⟩
          · exact Or.inl q
          · refine Or.inr ⟨q1, ?_, q3⟩
            dsimp only at q2
            by_cases y1 : a = pg
            · rw [y1, kg2] at q2; cases q2
            · by_cases y2 : a = row
              · rw [y2, va_up_self] at q2; cases q2
              · rw [va_up_ne _ _ y2, va_up_ne _ _ y1] at q2; exact q2
        · obtain ⟨t, n, q1, q2⟩ := q
          exact ⟨t, n, by rw [← (hF0 b hb9).1]; exact q1, q2⟩
        · by_cases y1 : b = pg
          · exact Or.inr (Or.inl (by rw [y1]; exact o3.kd kg2))
          · by_cases y2 : b = row
            · exact Or.inr (Or.inr ⟨128, by rw [y2]; exact o3.kd (va_up_self _ _ _)⟩)
            · exact o4 b (by show va_up (va_up kd pg _) row _ b = none; rw [va_up_ne _ _ y2, va_up_ne _ _ y1]; exact h1) h2
  · rw [z1]
    refine q_astore_n (i := 3) hx hb (some pg) d_T_of_11 rfl hl (by decide) (fun ls hl => ?_)
    simp only [List.set_cons_succ, List.set_cons_zero] at hl
    refine q_al_n (i := 3) hx hb d_T_of_12 rfl hl rfl ?_
    refine q_ifnonnull (tgt := 31) hx hb d_T_of_13 (by decide) (fun pg2 c2 => ?_) (fun c2 => ?_)
    · refine of_tail hx hb hml hown hg hK hX (mc := 3) (ms := 138) ⟨by omega, by omega⟩ h hj z1 hro kg kro hM hl ?_
      intro a u H locs ls hM hO
      refine W.widen (k := 3) (n := 138) (by omega) (by omega) ?_
      exact s_qret (some a) hx hb hr (Or.inl ⟨_, rfl⟩) hM ⟨a, rfl, hO⟩ d_T_of_70 hlocks
    · cases c2
