/-! the reference's work, in the document's words -/
theorem W1 {lb nb : Nat} {E : Nat → Nat → Prop} {T Rg : Nat → Prop} {wl : List Nat} {rc : Nat} {cn : Nat → Nat} {nA : Nat → Nat → Nat} {fb : Nat → Nat → Bool} {fb0 : Nat → Nat → Bool} (h : MoX lb nb E T Rg wl rc cn nA fb0) (hS : SpI cn nA fb0 fb) (hc : ∀ j, j < cn 1 → fb 5 (nA 1 j) = true → fb 5 (nA 0 j) = true) : (∀ x, x < cn 4 → (fb 5 x = true ↔ gF E T (nA 2 x))) ∧ ∀ v, gF E T v → ∃ x, x < cn 4 ∧ nA 2 x = v := by
  have hle : ∀ v, gF E T v → ∃ x, x < cn 4 ∧ nA 2 x = v ∧ fb 5 x = true := by
    intro v hv
    refine gF_le (F := fun v => ∃ x, x < cn 4 ∧ nA 2 x = v ∧ fb 5 x = true) ⟨fun v hv => ?_, fun v u hvu hu => ?_⟩ hv
    · obtain ⟨x, hx, e, h3⟩ := (h.hT v).mp hv
      exact ⟨x, hx, e, hS.2.1 x hx h3⟩
    · obtain ⟨k, hk, e1, e2⟩ := (h.hE v u).mp hvu
      obtain ⟨x, hx, e, h5⟩ := hu
      have := h.nui x (nA 1 k) hx (h.lk k hk).2 (e.trans e2.symm)
      rw [this] at h5
      exact ⟨nA 0 k, (h.lk k hk).1, e1, hc k hk h5⟩
  refine ⟨fun x hx => ⟨fun h5 => ?_, fun hv => ?_⟩, fun v hv => by obtain ⟨x, a, b, -⟩ := hle v hv; exact ⟨x, a, b⟩⟩
  · refine hS.2.2 (fun x => gF E T (nA 2 x)) (fun y hy h3 => (gF_up E T).1 _ ((h.hT _).mpr ⟨y, hy, rfl, h3⟩)) (fun k hk hP => (gF_up E T).2 _ _ ((h.hE _ _).mpr ⟨k, hk, rfl, rfl⟩) hP) x hx h5
  · obtain ⟨y, hy, e, h5⟩ := hle _ hv
    rw [← h.nui y x hy hx e]; exact h5
theorem W2 {lb nb : Nat} {E : Nat → Nat → Prop} {T Rg : Nat → Prop} {wl : List Nat} {rc : Nat} {cn : Nat → Nat} {nA : Nat → Nat → Nat} {fb : Nat → Nat → Bool} {fb0 fb1 : Nat → Nat → Bool} (h : MoX lb nb E T Rg wl rc cn nA fb0) (hS : RgI cn nA fb1 fb) (hc : ∀ y, y < cn 4 → fb 4 y = true → ∃ k, k < cn 1 ∧ nA 0 k = y ∧ fb 4 (nA 1 k) = true) : ∀ x, x < cn 4 → (fb 4 x = true ↔ ¬ gN E (nA 2 x)) := by
  have h1 : ∀ v, gN E v → ∀ x, x < cn 4 → nA 2 x = v → fb 4 x = false := by
    intro v hv
    refine gN_ind (P := fun v => ∀ x, x < cn 4 → nA 2 x = v → fb 4 x = false) hv ?_
    intro v _ ih x hx e
    cases hz : fb 4 x with
    | false => rfl
    | true =>
      obtain ⟨k, hk, e1, e2⟩ := hc x hx hz
      have := ih (nA 2 (nA 1 k)) ((h.hE _ _).mpr ⟨k, hk, by rw [e1]; exact e, rfl⟩) _ (h.lk k hk).2 rfl
      rw [this] at e2; cases e2
  intro x hx
  constructor
  · intro h4 hn
    rw [h1 _ hn x hx rfl] at h4; cases h4
  · intro hn
    cases hz : fb 4 x with
    | true => rfl
    | false =>
      refine absurd ?_ hn
      refine hS.2.2 (fun x => gN E (nA 2 x)) (fun y hy hp => gN_mk fun u hu => ?_) x hx hz
      obtain ⟨k, hk, e1, e2⟩ := (h.hE _ _).mp hu
      rw [← e2]
      exact hp k hk (h.nui _ _ (h.lk k hk).1 hy e1)
/-- the reference's run so far -/
def WkI (E : Nat → Nat → Prop) (F : Nat → Prop) (cn : Nat → Nat) (nA : Nat → Nat → Nat) (fb : Nat → Nat → Bool) : Prop :=
  (∀ x, x < cn 4 → (fb 6 x = true ↔ hp_set (nA 7) (cn 10) (nA 2 x))) ∧ ∀ j, j < cn 10 → gC E F ((List.range j).map (nA 7)) (nA 7 j) ∧ ∀ y, gC E F ((List.range j).map (nA 7)) y → nA 7 j ≤ y
theorem Rd_gC {lb nb : Nat} {E : Nat → Nat → Prop} {T Rg : Nat → Prop} {wl : List Nat} {rc : Nat} {cn : Nat → Nat} {nA : Nat → Nat → Nat} {fb : Nat → Nat → Bool} {fb0 : Nat → Nat → Bool} (h : MoX lb nb E T Rg wl rc cn nA fb0) {M : Nat} {wk : Nat → Nat} (w1 : ∀ x, x < cn 4 → (fb 5 x = true ↔ gF E T (nA 2 x))) (w2 : ∀ x, x < cn 4 → (fb 4 x = true ↔ ¬ gN E (nA 2 x))) (w6 : ∀ x, x < cn 4 → (fb 6 x = true ↔ hp_set wk M (nA 2 x))) {x : Nat} (hx : x < cn 4) : Rd cn nA fb (cn 1) x ↔ gC E (gF E T) ((List.range M).map wk) (nA 2 x) := by
  have nf : ∀ {b : Bool}, b = false ↔ ¬ b = true := fun {b} => by cases b <;> simp
  constructor
  · rintro ⟨a1, a2, a3, a4⟩
    refine ⟨(w1 x hx).mp a1, Classical.byContradiction fun z => ?_, fun z => ?_, fun u hu hF hn => ?_⟩
    · rw [(w2 x hx).mpr z] at a2; cases a2
    · rw [(w6 x hx).mpr (lrm_mem.mp z)] at a3; cases a3
    · obtain ⟨k, hk, e1, e2⟩ := (h.hE _ _).mp hu
      have hlk := h.lk k hk
      have ek := h.nui _ _ hlk.1 hx e1
      rw [lrm_mem, ← e2]
      rcases a4 k hk ek with z | z
      · rw [← e2] at hF
        rw [(w1 _ hlk.2).mpr hF] at z; cases z
      · exact (w6 _ hlk.2).mp z
  · rintro ⟨a1, a2, a3, a4⟩
    refine ⟨(w1 x hx).mpr a1, nf.mpr (fun z => (w2 x hx).mp z a2), nf.mpr (fun z => a3 (lrm_mem.mpr ((w6 x hx).mp z))), fun k hk ek => ?_⟩
    have hlk := h.lk k hk
    have hE : E (nA 2 x) (nA 2 (nA 1 k)) := (h.hE _ _).mpr ⟨k, hk, by rw [ek], rfl⟩
    cases hz : fb 5 (nA 1 k) with
    | false => exact Or.inl rfl
    | true => exact Or.inr ((w6 _ hlk.2).mpr (lrm_mem.mp (a4 _ hE ((w1 _ hlk.2).mp hz) (gN_down a2 hE))))
theorem WkI_step {E : Nat → Nat → Prop} {F : Nat → Prop} {cn cn' : Nat → Nat} {nA nA' : Nat → Nat → Nat} {fb fb' : Nat → Nat → Bool} (h : WkI E F cn nA fb) {b : Nat} (hc4 : cn' 4 = cn 4) (hc10 : cn' 10 = cn 10 + 1) (h7 : nA' 7 = fun i => if i = cn 10 then nA 2 b else nA 7 i) (h2 : nA' 2 = nA 2) (h6 : ∀ x, x < cn 4 → (fb' 6 x = true ↔ fb 6 x = true ∨ x = b)) (hnui : ∀ x y, x < cn 4 → y < cn 4 → nA 2 x = nA 2 y → x = y) (hb : b < cn 4)
    (hg : gC E F ((List.range (cn 10)).map (nA 7)) (nA 2 b)) (hl : ∀ y, gC E F ((List.range (cn 10)).map (nA 7)) y → nA 2 b ≤ y) : WkI E F cn' nA' fb' := by
  obtain ⟨w6, w7⟩ := h
  have hset := hp_set_push (f := nA 7) (g := nA' 7) (n := cn 10) (v := nA 2 b) (fun i hi => by rw [h7]; exact if_neg (by omega)) (by rw [h7]; exact if_pos rfl)
  refine ⟨fun x hx => ?_, fun j hj => ?_⟩
  · rw [hc4] at hx
    rw [hc10, h2, hset, h6 x hx, w6 x hx]
    exact ⟨fun z => z.elim Or.inl (fun z => Or.inr (by rw [z])), fun z => z.elim Or.inl (fun z => Or.inr (hnui x b hx hb z))⟩
  · have hmap : ∀ j, j ≤ cn 10 → (List.range j).map (nA' 7) = (List.range j).map (nA 7) := by
      intro j hj
      apply List.ext_getElem?
      intro i
      rw [lrm_at, lrm_at]
      by_cases e : i < j
      · rw [if_pos e, if_pos e, h7]
        show some (if i = cn 10 then _ else _) = _
        rw [if_neg (by omega)]
      · rw [if_neg e, if_neg e]
    rw [hc10] at hj
    rw [hmap j (by omega), h7]
    by_cases e : j = cn 10
    · simp only [e, if_true]; exact ⟨hg, hl⟩
    · simp only [if_neg e]; exact w7 j (by omega)
/-- what the reference's work does -/
def MWorkP (m0 mm : Nat) (E : Nat → Nat → Prop) (T : Nat → Prop) (x : Int32) (u : sS) : Prop :=
  ∃ wl rc, Mo u m0 mm E (fun _ => False) (fun v => ¬ gN E v) wl rc ∧ x = nI wl.length ∧ gR E (gF E T) wl ∧ crd (gF E T) (rc + wl.length)
set_option maxHeartbeats 4000000 in
set_option maxRecDepth 100000 in
theorem wa_loop {p : Program} {l : Launch} {e : Env} {s : State} {m : MethodId} {args : Array Value} {below : List Frame} {meth : Method} {c : Code} {D : va_G} {dA : Nat → ClassId} {A : Nat → Prop} {Q : State → Prop} (hx : p.tables.exec = Jvm.exec) (hb : c.code = c_M_work) (hml : c.maxLocals = 3) (hown : s.vm.findClass R_M = some m.cls) (hg : ∀ w ∈ gd, w.before args s = true) (hK : va_K D cls (tys dA) s) (hX : sKx s) {R9 : Room} {kd : Nat → Option sK} {rf : Nat → Nat → Option Nat} {lg : Nat → Nat → Int64} {m0 : Nat} {ar : Nat → Nat} {nA : Nat → Nat → Nat} {cn0 : Nat → Nat} {fb0 : Nat → Nat → Bool} (hw : Mw kd rf m0 ar) (hN : cn0 4 < 8192)
    (kk : ∀ (it : Nat → Nat → Int32) (fb : Nat → Nat → Bool) (H : Heap) (locs : List Loc) (ls : Array Slot) (o1 o2 : Option Value), SW D dA A s.heap (kd, rf, it, lg) H locs → Mi it m0 ar (va_up cn0 12 (cB (fun y => fb0 5 y && fb0 4 y) (cn0 4))) nA fb → it m0 0 = 0 → (∀ k, k ≠ 3 → k ≠ 6 → fb k = fb0 k) → (∀ y, y < cn0 4 → fb 3 y = false ∧ fb 6 y = false) → (∀ y, cn0 4 ≤ y → fb 3 y = fb0 3 y) → lc ls 3 [some (va_rf (some m0)), o1, o2] → W p l e R9 s m args below meth c H locs 0 0 Q (F0 m 85 ls [])) :
    ∀ (d x : Nat) (it : Nat → Nat → Int32) (fb : Nat → Nat → Bool) (H : Heap) (locs : List Loc) (ls : Array Slot) (o2 : Option Value), x + d = cn0 4 → SW D dA A s.heap (kd, rf, it, lg) H locs → Mi it m0 ar (va_up cn0 12 (cB (fun y => fb0 5 y && fb0 4 y) x)) nA fb → it m0 0 = 0 → (∀ k, k ≠ 3 → k ≠ 6 → fb k = fb0 k) → (∀ y, y < x → fb 3 y = false ∧ fb 6 y = false) → (∀ y, cn0 4 ≤ y → fb 3 y = fb0 3 y) → lc ls 3 [some (va_rf (some m0)), some (.int (nI x)), o2] → W p l e R9 s m args below meth c H locs 0 0 Q (F0 m 25 ls []) := by
  obtain ⟨km, ⟨r0, r1, r2, r3, r4, r5, r6, r7⟩, ⟨k0, k1, k2, k3, k4, k5, k6, k7⟩, hdis⟩ := id hw
  have c4 : ∀ n, va_up cn0 12 n 4 = cn0 4 := fun n => va_up_ne _ _ (by decide)
  have c12 : ∀ n, va_up cn0 12 n 12 = n := fun n => va_up_self _ _ _
  intro d
  induction d with
  | zero =>
    intro x it fb H locs ls o2 hd hM hi hz h1 h2 h3 hl
    have hx0 : x = cn0 4 := by omega
    refine q_iload_n (i := 1) hx hb d_M_work_25 rfl hl rfl ?_
    refine q_al_n (i := 0) hx hb d_M_work_26 rfl hl rfl ?_
    refine s_geti (C := R_M) (T := F_M) (N := 13) (ci := 7) hx hb hg in_M hown hK hM km rfl 4 (by decide) rfl (hg _ kw_459) (fun _ h9 => h9) d_M_work_27 ?_
    rw [hi.N, c4]
    refine n_ge (tgt := 85) hx hb d_M_work_30 (by decide) (by omega) (by omega) (fun c1 => ?_) (fun c1 => ?_)
    · rw [hx0] at hi h2
      exact kk it fb H locs ls _ _ hM hi hz h1 h2 h3 hl
    · omega
  | succ d ih =>
    intro x it fb H locs ls o2 hd hM hi hz h1 h2 h3 hl
    have hx8 : x < 8192 := by omega
    have hcx := cB_le (fun y => fb0 5 y && fb0 4 y) x
    refine q_iload_n (i := 1) hx hb d_M_work_25 rfl hl rfl ?_
    refine q_al_n (i := 0) hx hb d_M_work_26 rfl hl rfl ?_
    refine s_geti (C := R_M) (T := F_M) (N := 13) (ci := 7) hx hb hg in_M hown hK hM km rfl 4 (by decide) rfl (hg _ kw_459) (fun _ h9 => h9) d_M_work_27 ?_
    rw [hi.N, c4]
    refine n_ge (tgt := 85) hx hb d_M_work_30 (by decide) (by omega) (by omega) (fun c1 => ?_) (fun c1 => ?_)
    · omega
    · refine q_al_n (i := 0) hx hb d_M_work_33 rfl hl rfl ?_
      refine s_getr (C := R_M) (T := F_M) (N := 13) (ci := 7) hx hb hg in_M hown hK hM km rfl 9 (by decide) rfl (hg _ kw_464) (fun _ h9 => h9) d_M_work_34 ?_
      rw [r6]
      refine q_iload_n (i := 1) hx hb d_M_work_37 rfl hl rfl ?_
      refine lv_iconst (v := bI false) hx hb d_M_work_38 (by decide) ?_
      refine s_zst (t := 4) hx hb hK hM k6 rfl rfl (bI_nar _) (vp_in_nI hx8 (by omega)) d_M_work_39 (fun H locs hM => ?_)
      rw [nI_clamp (by omega)] at hM
      have hi2 := Mi_b hw hi (i := 6) (by decide) x false
      refine q_al_n (i := 0) hx hb d_M_work_40 rfl hl rfl ?_
      refine s_getr (C := R_M) (T := F_M) (N := 13) (ci := 7) hx hb hg in_M hown hK hM km rfl 6 (by decide) rfl (hg _ kw_461) (fun _ h9 => h9) d_M_work_41 ?_
      rw [r3]
      refine q_iload_n (i := 1) hx hb d_M_work_44 rfl hl rfl ?_
      refine lv_iconst (v := bI false) hx hb d_M_work_45 (by decide) ?_
      refine s_zst (t := 4) hx hb hK hM k3 rfl rfl (bI_nar _) (vp_in_nI hx8 (by omega)) d_M_work_46 (fun H locs hM => ?_)
      rw [nI_clamp (by omega)] at hM
      have hi3 := Mi_b hw hi2 (i := 3) (by decide) x false
      have hz3 : up2 (up2 it (ar 6) x (bI false)) (ar 3) x (bI false) m0 0 = 0 := by rw [up2_off _ _ (fun z => hw.nm (by decide) z.symm), up2_off _ _ (fun z => hw.nm (by decide) z.symm)]; exact hz
      have g1 : ∀ k, k ≠ 3 → k ≠ 6 → up2 (up2 fb 6 x false) 3 x false k = fb0 k := fun k k3 k6 => by rw [up2_off _ _ k3, up2_off _ _ k6]; exact h1 k k3 k6
      have g2 : ∀ y, y < x + 1 → up2 (up2 fb 6 x false) 3 x false 3 y = false ∧ up2 (up2 fb 6 x false) 3 x false 6 y = false := by
        intro y hy
        rw [up2_off (a := 3) _ _ (show (6 : Nat) ≠ 3 by decide)]
        by_cases e : y = x
        · rw [e, up2_self, up2_self]; exact ⟨rfl, rfl⟩
        · refine ⟨?_, ?_⟩
          · rw [up2_ne _ _ e, up2_off _ _ (by decide)]; exact (h2 y (by omega)).1
          · rw [up2_ne _ _ e]; exact (h2 y (by omega)).2
      have g3 : ∀ y, cn0 4 ≤ y → up2 (up2 fb 6 x false) 3 x false 3 y = fb0 3 y := fun y hy => by rw [up2_ne _ _ (by omega), up2_off _ _ (by decide)]; exact h3 y hy
      generalize up2 (up2 it (ar 6) x (bI false)) (ar 3) x (bI false) = it3 at hM hi3 hz3
      generalize up2 (up2 fb 6 x false) 3 x false = fb3 at hi3 g1 g2 g3
      have tail : ∀ b : Bool, b = (fb0 5 x && fb0 4 x) → W p l e R9 s m args below meth c H locs 0 0 Q (F0 m 75 ls [.int (bI b), .int (nI (cB (fun y => fb0 5 y && fb0 4 y) x)), .ref m0]) := by
        intro b hb9
        refine lv_iadd hx hb d_M_work_75 ?_
        have es : nI (cB (fun y => fb0 5 y && fb0 4 y) x) + bI b = nI (cB (fun y => fb0 5 y && fb0 4 y) (x + 1)) := by
          rw [cB_succ]
          show _ = nI (_ + if (fb0 5 x && fb0 4 x) = true then 1 else 0)
          rw [← hb9]
          cases b with
          | true => exact nI_1 _
          | false => show nI _ + 0 = nI (_ + 0); rw [Int32.add_zero, Nat.add_zero]
        rw [es]
        refine s_puti (C := R_M) (T := F_M) (N := 13) (ci := 7) hx hb hg in_M ft_M ft_M_ok fn_M hown hK hM km rfl 12 (by decide) rfl (hg _ kw_467) (fun _ h9 => h9) rfl rfl rfl d_M_work_76 (fun H locs hM => ?_)
        have hi4 := Mi_c hw hi3 12 (cB (fun y => fb0 5 y && fb0 4 y) (x + 1))
        rw [bx_uu] at hi4
        refine q_iinc hx hb (nI (x + 1)) d_M_work_79 hl rfl (nI_1 x) (by decide) (fun ls hl => ?_)
        simp only [List.set_cons_succ, List.set_cons_zero] at hl
        refine lv_goto (tgt := 25) hx hb d_M_work_82 (by decide) ?_
        exact ih (x + 1) _ _ H locs ls _ (by omega) hM hi4 (by rw [up2_ne _ _ (by decide)]; exact hz3) g1 g2 g3 hl
      refine q_al_n (i := 0) hx hb d_M_work_47 rfl hl rfl ?_
      refine lv_dup hx hb d_M_work_48 rfl ?_
      refine s_geti (C := R_M) (T := F_M) (N := 13) (ci := 7) hx hb hg in_M hown hK hM km rfl 12 (by decide) rfl (hg _ kw_467) (fun _ h9 => h9) d_M_work_49 ?_
      rw [hi3.F, c12]
      refine q_al_n (i := 0) hx hb d_M_work_52 rfl hl rfl ?_
      refine s_getr (C := R_M) (T := F_M) (N := 13) (ci := 7) hx hb hg in_M hown hK hM km rfl 8 (by decide) rfl (hg _ kw_463) (fun _ h9 => h9) d_M_work_53 ?_
      rw [r5]
      refine q_iload_n (i := 1) hx hb d_M_work_56 rfl hl rfl ?_
      refine s_zld (t := 4) hx hb hK hM k5 rfl rfl (vp_in_nI hx8 (by omega)) d_M_work_57 ?_
      rw [nI_clamp (by omega), hi3.fl (k := 5) (by decide) (by decide) hx8]
      rw [g1 5 (by decide) (by decide)]
      refine lv_if_eq (tgt := 74) hx hb d_M_work_58 (by decide) (fun c2 => ?_) (fun c2 => ?_)
      · refine lv_iconst (v := bI false) hx hb d_M_work_74 (by decide) ?_
        exact tail false (by rw [(bI_eq _).mp c2]; rfl)
      · refine q_al_n (i := 0) hx hb d_M_work_61 rfl hl rfl ?_
        refine s_getr (C := R_M) (T := F_M) (N := 13) (ci := 7) hx hb hg in_M hown hK hM km rfl 7 (by decide) rfl (hg _ kw_462) (fun _ h9 => h9) d_M_work_62 ?_
        rw [r4]
        refine q_iload_n (i := 1) hx hb d_M_work_65 rfl hl rfl ?_
        refine s_zld (t := 4) hx hb hK hM k4 rfl rfl (vp_in_nI hx8 (by omega)) d_M_work_66 ?_
        rw [nI_clamp (by omega), hi3.fl (k := 4) (by decide) (by decide) hx8]
        rw [g1 4 (by decide) (by decide)]
        refine lv_if_eq (tgt := 74) hx hb d_M_work_67 (by decide) (fun c3 => ?_) (fun c3 => ?_)
        · refine lv_iconst (v := bI false) hx hb d_M_work_74 (by decide) ?_
          exact tail false (by rw [(bI_eq _).mp c3, Bool.and_false])
        · refine lv_iconst (v := bI true) hx hb d_M_work_70 (by decide) ?_
          refine lv_goto (tgt := 75) hx hb d_M_work_71 (by decide) ?_
          exact tail true (by rw [(bI_ne _).mp c2, (bI_ne _).mp c3]; rfl)
set_option maxHeartbeats 4000000 in
set_option maxRecDepth 100000 in
theorem wb_loop {p : Program} {l : Launch} {e : Env} {s : State} {m : MethodId} {args : Array Value} {below : List Frame} {meth : Method} {c : Code} {D : va_G} {dA : Nat → ClassId} {A : Nat → Prop} {Q : State → Prop} (hx : p.tables.exec = Jvm.exec) (hb : c.code = c_M_work) (hml : c.maxLocals = 3) (hown : s.vm.findClass R_M = some m.cls) (hg : ∀ w ∈ gd, w.before args s = true) (hK : va_K D cls (tys dA) s) (hX : sKx s) {R9 : Room} {kd : Nat → Option sK} {rf : Nat → Nat → Option Nat} {lg : Nat → Nat → Int64} {it : Nat → Nat → Int32} {m0 : Nat} {ar cn : Nat → Nat} {nA : Nat → Nat → Nat} {fb : Nat → Nat → Bool} (hw : Mw kd rf m0 ar) (hi : Mi it m0 ar cn nA fb) (hL : cn 1 < 4096) (hN : cn 4 < 8192) (hlk : ∀ k, k < cn 1 → nA 0 k < cn 4 ∧ nA 1 k < cn 4) (hnu : ∀ x, x < cn 4 → nA 2 x < 16384) (hR : 1 ≤ R9.frames ∧ 63 ≤ R9.locals)
    (kk : ∀ (bx : Int32) (H : Heap) (locs : List Loc) (ls : Array Slot) (o2 : Option Value), SW D dA A s.heap (kd, rf, it, lg) H locs → ((∀ y, y < cn 4 → ¬ Rd cn nA fb (cn 1) y) ∧ bx = -1 ∨ ∃ b, b < cn 4 ∧ bx = nI b ∧ Rd cn nA fb (cn 1) b ∧ ∀ y, y < cn 4 → Rd cn nA fb (cn 1) y → nA 2 b ≤ nA 2 y) → lc ls 3 [some (va_rf (some m0)), some (.int bx), o2] → W p l e R9 s m args below meth c H locs 0 0 Q (F0 m 138 ls [])) :
    ∀ (d x : Nat) (bx : Int32) (H : Heap) (locs : List Loc) (ls : Array Slot), x + d = cn 4 → SW D dA A s.heap (kd, rf, it, lg) H locs → ((∀ y, y < x → ¬ Rd cn nA fb (cn 1) y) ∧ bx = -1 ∨ ∃ b, b < x ∧ bx = nI b ∧ Rd cn nA fb (cn 1) b ∧ ∀ y, y < x → Rd cn nA fb (cn 1) y → nA 2 b ≤ nA 2 y) → lc ls 3 [some (va_rf (some m0)), some (.int bx), some (.int (nI x))] → W p l e R9 s m args below meth c H locs 0 0 Q (F0 m 95 ls []) := by
  obtain ⟨km, ⟨r0, r1, r2, r3, r4, r5, r6, r7⟩, ⟨k0, k1, k2, k3, k4, k5, k6, k7⟩, hdis⟩ := id hw
  intro d
  induction d with
  | zero =>
    intro x bx H locs ls hd hM hB hl
    have hx0 : x = cn 4 := by omega
    rw [hx0] at hB
    refine q_iload_n (i := 2) hx hb d_M_work_95 rfl hl rfl ?_
    refine q_al_n (i := 0) hx hb d_M_work_96 rfl hl rfl ?_
    refine s_geti (C := R_M) (T := F_M) (N := 13) (ci := 7) hx hb hg in_M hown hK hM km rfl 4 (by decide) rfl (hg _ kw_459) (fun _ h9 => h9) d_M_work_97 ?_
    rw [hi.N]
    refine n_ge (tgt := 138) hx hb d_M_work_100 (by decide) (by omega) (by omega) (fun c1 => ?_) (fun c1 => ?_)
    · exact kk bx H locs ls _ hM hB hl
    · omega
  | succ d ih =>
    intro x bx H locs ls hd hM hB hl
    have hxN : x < cn 4 := by omega
    have hx8 : x < 8192 := by omega
    have hvx := hnu x hxN
    have nxt : ∀ (bx : Int32) (H : Heap) (locs : List Loc) (ls : Array Slot), SW D dA A s.heap (kd, rf, it, lg) H locs → ((∀ y, y < x + 1 → ¬ Rd cn nA fb (cn 1) y) ∧ bx = -1 ∨ ∃ b, b < x + 1 ∧ bx = nI b ∧ Rd cn nA fb (cn 1) b ∧ ∀ y, y < x + 1 → Rd cn nA fb (cn 1) y → nA 2 b ≤ nA 2 y) → lc ls 3 [some (va_rf (some m0)), some (.int bx), some (.int (nI x))] → W p l e R9 s m args below meth c H locs 0 0 Q (F0 m 132 ls []) := by
      intro bx H locs ls hM hB hl
      refine q_iinc hx hb (nI (x + 1)) d_M_work_132 hl rfl (nI_1 x) (by decide) (fun ls hl => ?_)
      simp only [List.set_cons_succ, List.set_cons_zero] at hl
      refine lv_goto (tgt := 95) hx hb d_M_work_135 (by decide) ?_
      exact ih (x + 1) bx H locs ls (by omega) hM hB hl
    have ask : (∀ b, b < x → Rd cn nA fb (cn 1) b → bx = nI b → nA 2 x < nA 2 b) → W p l e R9 s m args below meth c H locs 0 0 Q (F0 m 122 ls []) := by
      intro hlt
      refine q_al_n (i := 0) hx hb d_M_work_122 rfl hl rfl ?_
      refine q_iload_n (i := 2) hx hb d_M_work_123 rfl hl rfl ?_
      refine s_calli (r_V 1 [.int (nI x)] rfl hx hb hml hown hg (m_M_isReady l D dA _ _ m0 ar cn nA fb x hw hi hL hN hlk hxN) (hM.pre hK hX) (hM.recv hK km (q := cls.getD 7 (R_H, F_H, 7)) rfl) kw_547 kw_549 ks_23 kw_5 kw_550 (by decide +kernel) hR rfl rfl hl.sz (by first | exact Nat.le_of_ble_eq_true rfl | simp [rf_cat] | simp [rf_cat, Value.category]) d_M_work_124 ⟨Nat.zero_le _, Nat.zero_le _⟩ rfl) hM (fun rr u H locs hp3 hM => ?_)
      obtain ⟨rfl, hp3⟩ := hp3
      refine lv_if_eq (tgt := 132) hx hb d_M_work_127 (by decide) (fun c3 => ?_) (fun c3 => ?_)
      · have hnr : ¬ Rd cn nA fb (cn 1) x := by
          rcases hp3 with ⟨e9, -⟩ | ⟨-, z⟩
          · rw [e9] at c3; cases c3
          · exact z
        refine nxt bx H locs ls hM ?_ hl
        rcases hB with ⟨z, e9⟩ | ⟨b, hb9, e9, q1, q2⟩
        · refine Or.inl ⟨fun y hy => ?_, e9⟩
          by_cases e : y = x
          · rw [e]; exact hnr
          · exact z y (by omega)
        · refine Or.inr ⟨b, by omega, e9, q1, fun y hy hy2 => ?_⟩
          by_cases e : y = x
          · rw [e] at hy2; exact absurd hy2 hnr
          · exact q2 y (by omega) hy2
      · have hrd : Rd cn nA fb (cn 1) x := by
          rcases hp3 with ⟨-, z⟩ | ⟨e9, -⟩
          · exact z
          · exact absurd e9 c3
        refine q_iload_n (i := 2) hx hb d_M_work_130 rfl hl rfl ?_
        refine q_istore_n (i := 1) hx hb d_M_work_131 rfl hl (by decide) (fun ls hl => ?_)
        simp only [List.set_cons_succ, List.set_cons_zero] at hl
        refine nxt (nI x) H locs ls hM (Or.inr ⟨x, by omega, rfl, hrd, fun y hy hy2 => ?_⟩) hl
        by_cases e : y = x
        · rw [e]; exact Nat.le_refl _
        · rcases hB with ⟨z, -⟩ | ⟨b, hb9, e9, q1, q2⟩
          · exact absurd hy2 (z y (by omega))
          · have a1 := hlt b hb9 q1 e9
            have a2 := q2 y (by omega) hy2
            omega
    refine q_iload_n (i := 2) hx hb d_M_work_95 rfl hl rfl ?_
    refine q_al_n (i := 0) hx hb d_M_work_96 rfl hl rfl ?_
    refine s_geti (C := R_M) (T := F_M) (N := 13) (ci := 7) hx hb hg in_M hown hK hM km rfl 4 (by decide) rfl (hg _ kw_459) (fun _ h9 => h9) d_M_work_97 ?_
    rw [hi.N]
    refine n_ge (tgt := 138) hx hb d_M_work_100 (by decide) (by omega) (by omega) (fun c1 => ?_) (fun c1 => ?_)
    · omega
    · refine q_iload_n (i := 1) hx hb d_M_work_103 rfl hl rfl ?_
      refine lv_if_lt (tgt := 122) hx hb d_M_work_104 (by decide) (fun c2 => ?_) (fun c2 => ?_)
      · refine ask (fun b hb9 _ e9 => ?_)
        rw [e9] at c2; exact absurd c2 (nI_pos (by omega))
      · rcases hB with ⟨-, e9⟩ | ⟨b, hb9, e9, q1, q2⟩
        · rw [e9] at c2; exact absurd (by decide) c2
        · have hvb := hnu b (by omega)
          have hb8 : b < 8192 := by omega
          subst e9
          refine q_al_n (i := 0) hx hb d_M_work_107 rfl hl rfl ?_
          refine s_getr (C := R_M) (T := F_M) (N := 13) (ci := 7) hx hb hg in_M hown hK hM km rfl 5 (by decide) rfl (hg _ kw_460) (fun _ h9 => h9) d_M_work_108 ?_
          rw [r2]
          refine q_iload_n (i := 2) hx hb d_M_work_111 rfl hl rfl ?_
          refine s_ild (t := 0) hx hb hK hM k2 rfl rfl (vp_in_nI hx8 (by omega)) d_M_work_112 ?_
          rw [nI_clamp (by omega), hi.nu hx8]
          refine q_al_n (i := 0) hx hb d_M_work_113 rfl hl rfl ?_
          refine s_getr (C := R_M) (T := F_M) (N := 13) (ci := 7) hx hb hg in_M hown hK hM km rfl 5 (by decide) rfl (hg _ kw_460) (fun _ h9 => h9) d_M_work_114 ?_
          rw [r2]
          refine q_iload_n (i := 1) hx hb d_M_work_117 rfl hl rfl ?_
          refine s_ild (t := 0) hx hb hK hM k2 rfl rfl (vp_in_nI hb8 (by omega)) d_M_work_118 ?_
          rw [nI_clamp (by omega), hi.nu hb8]
          refine n_ge (tgt := 132) hx hb d_M_work_119 (by decide) (by omega) (by omega) (fun c4 => ?_) (fun c4 => ?_)
          · refine nxt _ H locs ls hM (Or.inr ⟨b, by omega, rfl, q1, fun y hy hy2 => ?_⟩) hl
            by_cases e : y = x
            · rw [e]; exact c4
            · exact q2 y (by omega) hy2
          · refine ask (fun b2 hb2 _ e9 => ?_)
            have := (nI_eq (by omega) (by omega)).mp e9
            rw [← this]; exact c4
set_option maxHeartbeats 4000000 in
set_option maxRecDepth 100000 in
theorem wc_loop {p : Program} {l : Launch} {e : Env} {s : State} {m : MethodId} {args : Array Value} {below : List Frame} {meth : Method} {c : Code} {D : va_G} {dA : Nat → ClassId} {A : Nat → Prop} {Q : State → Prop} (hx : p.tables.exec = Jvm.exec) (hb : c.code = c_M_work) (hml : c.maxLocals = 3) (hown : s.vm.findClass R_M = some m.cls) (hg : ∀ w ∈ gd, w.before args s = true) (hK : va_K D cls (tys dA) s) (hX : sKx s) {R9 : Room} {kd : Nat → Option sK} {rf : Nat → Nat → Option Nat} {lg : Nat → Nat → Int64} {m0 : Nat} {ar : Nat → Nat} {lb nb : Nat} {E : Nat → Nat → Prop} {T Rg : Nat → Prop} {wl : List Nat} {rc : Nat} {cn0 : Nat → Nat} {nA0 : Nat → Nat → Nat} {fb0 fb1 : Nat → Nat → Bool} (hw : Mw kd rf m0 ar) (hX0 : MoX lb nb E T Rg wl rc cn0 nA0 fb0) (hL : cn0 1 < 4096) (hN : cn0 4 < 4096) (w1 : ∀ x, x < cn0 4 → (fb1 5 x = true ↔ gF E T (nA0 2 x))) (w1s : ∀ v, gF E T v → ∃ x, x < cn0 4 ∧ nA0 2 x = v) (w2 : ∀ x, x < cn0 4 → (fb1 4 x = true ↔ ¬ gN E (nA0 2 x))) (hR : 1 ≤ R9.frames ∧ 63 ≤ R9.locals)
    (kk : ∀ (it : Nat → Nat → Int32) (cn : Nat → Nat) (nA : Nat → Nat → Nat) (fb : Nat → Nat → Bool) (H : Heap) (locs : List Loc) (ls : Array Slot) (o1 o2 : Option Value), SW D dA A s.heap (kd, rf, it, lg) H locs → Mi it m0 ar cn nA fb → it m0 0 = 0 → (∀ i, i ≠ 10 → cn i = cn0 i) → (∀ i, i ≠ 7 → nA i = nA0 i) → (∀ k, k ≠ 6 → fb k = fb1 k) → WkI E (gF E T) cn nA fb → (∀ y, ¬ gC E (gF E T) ((List.range (cn 10)).map (nA 7)) y) → cn 10 ≤ cn0 4 → lc ls 3 [some (va_rf (some m0)), o1, o2] → W p l e R9 s m args below meth c H locs 0 0 Q (F0 m 180 ls [])) :
    ∀ (d : Nat) (it : Nat → Nat → Int32) (cn : Nat → Nat) (nA : Nat → Nat → Nat) (fb : Nat → Nat → Bool) (b0 : Nat) (H : Heap) (locs : List Loc) (ls : Array Slot) (o2 : Option Value), cn0 4 < cn 10 + d → b0 < 8192 → SW D dA A s.heap (kd, rf, it, lg) H locs → Mi it m0 ar cn nA fb → it m0 0 = 0 → (∀ i, i ≠ 10 → cn i = cn0 i) → (∀ i, i ≠ 7 → nA i = nA0 i) → (∀ k, k ≠ 6 → fb k = fb1 k) → WkI E (gF E T) cn nA fb → lc ls 3 [some (va_rf (some m0)), some (.int (nI b0)), o2] → W p l e R9 s m args below meth c H locs 0 0 Q (F0 m 87 ls []) := by
  obtain ⟨km, ⟨r0, r1, r2, r3, r4, r5, r6, r7⟩, ⟨k0, k1, k2, k3, k4, k5, k6, k7⟩, hdis⟩ := id hw
  have hMN : ∀ (cn : Nat → Nat) (nA : Nat → Nat → Nat) (fb : Nat → Nat → Bool), WkI E (gF E T) cn nA fb → cn 10 ≤ cn0 4 := by
    intro cn nA fb hWk
    refine inj_le (f := nA0 2) (n := cn0 4) (g := nA 7) (k := cn 10) (fun i j hi hj e => ?_) (fun i hi => ?_)
    · rcases Nat.lt_trichotomy i j with q | q | q
      · exact absurd (lrm_mem.mpr ⟨i, q, e⟩) (hWk.2 j hj).1.2.2.1
      · exact q
      · exact absurd (lrm_mem.mpr ⟨j, q, e.symm⟩) (hWk.2 i hi).1.2.2.1
    · obtain ⟨x, hx9, e⟩ := w1s _ (hWk.2 i hi).1.1
      exact ⟨x, hx9, e⟩
  intro d
  induction d with
  | zero =>
    intro it cn nA fb b0 H locs ls o2 hd hb0 hM hi hz h1 h2 h3 hWk hl
    have := hMN cn nA fb hWk
    omega
  | succ d ih =>
    intro it cn nA fb b0 H locs ls o2 hd hb0 hM hi hz h1 h2 h3 hWk hl
    have hMle := hMN cn nA fb hWk
    have c1 : cn 1 = cn0 1 := h1 1 (by decide)
    have c4 : cn 4 = cn0 4 := h1 4 (by decide)
    have n0 : nA 0 = nA0 0 := h2 0 (by decide)
    have n1 : nA 1 = nA0 1 := h2 1 (by decide)
    have n2 : nA 2 = nA0 2 := h2 2 (by decide)
    have hlk : ∀ k, k < cn 1 → nA 0 k < cn 4 ∧ nA 1 k < cn 4 := fun k hk => by rw [n0, n1, c4]; rw [c1] at hk; exact hX0.lk k hk
    have hnu : ∀ x, x < cn 4 → nA 2 x < 16384 := fun x hx9 => by rw [n2]; rw [c4] at hx9; exact hX0.nu9 x hx9
    have hrg : ∀ x, x < cn 4 → (Rd cn nA fb (cn 1) x ↔ gC E (gF E T) ((List.range (cn 10)).map (nA 7)) (nA 2 x)) := by
      intro x hx9
      have e1 : Rd cn nA fb (cn 1) x ↔ Rd cn0 nA0 fb (cn0 1) x := by unfold Rd; rw [n0, n1, c1]
      rw [e1, n2]
      refine Rd_gC hX0 (fun y hy => by rw [h3 5 (by decide)]; exact w1 y hy) (fun y hy => by rw [h3 4 (by decide)]; exact w2 y hy) (fun y hy => ?_) (by rw [← c4]; exact hx9)
      have := hWk.1 y (by rw [c4]; exact hy)
      rw [n2] at this; exact this
    refine q_iload_n (i := 1) hx hb d_M_work_87 rfl hl rfl ?_
    refine lv_if_lt (tgt := 180) hx hb d_M_work_88 (by decide) (fun c9 => ?_) (fun c9 => ?_)
    · exact absurd c9 (nI_pos (by omega))
    · refine lv_iconst (v := -1) hx hb d_M_work_91 (by decide) ?_
      refine q_istore_n (i := 1) hx hb d_M_work_92 rfl hl (by decide) (fun ls hl => ?_)
      simp only [List.set_cons_succ, List.set_cons_zero] at hl
      refine lv_iconst (v := nI 0) hx hb d_M_work_93 (by decide) ?_
      refine q_istore_n (i := 2) hx hb d_M_work_94 rfl hl (by decide) (fun ls hl => ?_)
      simp only [List.set_cons_succ, List.set_cons_zero] at hl
      refine wb_loop hx hb hml hown hg hK hX hw hi (by omega) (by omega) hlk hnu hR ?_ (cn 4) 0 (-1) H locs ls (by omega) hM (Or.inl ⟨fun y hy => absurd hy (Nat.not_lt_zero y), rfl⟩) hl
      intro bx H locs ls o2 hM hB hl
      refine q_iload_n (i := 1) hx hb d_M_work_138 rfl hl rfl ?_
      refine lv_if_ge (tgt := 145) hx hb d_M_work_139 (by decide) (fun c8 => ?_) (fun c8 => ?_)
      · rcases hB with ⟨-, e9⟩ | ⟨b, hb9, e9, q1, q2⟩
        · rw [e9] at c8; exact absurd c8 (by decide)
        · subst e9
          have hb8 : b < 8192 := by omega
          have hM8 : cn 10 < 8192 := by omega
          refine q_al_n (i := 0) hx hb d_M_work_145 rfl hl rfl ?_
          refine s_getr (C := R_M) (T := F_M) (N := 13) (ci := 7) hx hb hg in_M hown hK hM km rfl 9 (by decide) rfl (hg _ kw_464) (fun _ h9 => h9) d_M_work_146 ?_
          rw [r6]
          refine q_iload_n (i := 1) hx hb d_M_work_149 rfl hl rfl ?_
          refine lv_iconst (v := bI true) hx hb d_M_work_150 (by decide) ?_
          refine s_zst (t := 4) hx hb hK hM k6 rfl rfl (bI_nar _) (vp_in_nI hb8 (by omega)) d_M_work_151 (fun H locs hM => ?_)
          rw [nI_clamp (by omega)] at hM
          have hi2 := Mi_b hw hi (i := 6) (by decide) b true
          refine q_al_n (i := 0) hx hb d_M_work_152 rfl hl rfl ?_
          refine s_getr (C := R_M) (T := F_M) (N := 13) (ci := 7) hx hb hg in_M hown hK hM km rfl 11 (by decide) rfl (hg _ kw_466) (fun _ h9 => h9) d_M_work_153 ?_
          rw [r7]
          refine q_al_n (i := 0) hx hb d_M_work_156 rfl hl rfl ?_
          refine s_geti (C := R_M) (T := F_M) (N := 13) (ci := 7) hx hb hg in_M hown hK hM km rfl 10 (by decide) rfl (hg _ kw_465) (fun _ h9 => h9) d_M_work_157 ?_
          rw [hi2.M]
          refine q_al_n (i := 0) hx hb d_M_work_160 rfl hl rfl ?_
          refine s_getr (C := R_M) (T := F_M) (N := 13) (ci := 7) hx hb hg in_M hown hK hM km rfl 5 (by decide) rfl (hg _ kw_460) (fun _ h9 => h9) d_M_work_161 ?_
          rw [r2]
          refine q_iload_n (i := 1) hx hb d_M_work_164 rfl hl rfl ?_
          refine s_ild (t := 0) hx hb hK hM k2 rfl rfl (vp_in_nI hb8 (by omega)) d_M_work_165 ?_
          rw [nI_clamp (by omega), hi2.nu hb8]
          refine s_ist (t := 0) hx hb hK hM k7 rfl rfl (vp_in_nI hM8 (by omega)) d_M_work_166 (fun H locs hM => ?_)
          rw [nI_clamp (by omega)] at hM
          have hi3 := Mi_n hw hi2 (i := 7) (Or.inr (Or.inr (Or.inr rfl))) (cn 10) (nA 2 b)
          refine q_al_n (i := 0) hx hb d_M_work_167 rfl hl rfl ?_
          refine lv_dup hx hb d_M_work_168 rfl ?_
          refine s_geti (C := R_M) (T := F_M) (N := 13) (ci := 7) hx hb hg in_M hown hK hM km rfl 10 (by decide) rfl (hg _ kw_465) (fun _ h9 => h9) d_M_work_169 ?_
          rw [hi3.M]
          refine lv_iconst (v := 1) hx hb d_M_work_172 (by decide) ?_
          refine lv_iadd hx hb d_M_work_173 ?_
          rw [nI_1]
          refine s_puti (C := R_M) (T := F_M) (N := 13) (ci := 7) hx hb hg in_M ft_M ft_M_ok fn_M hown hK hM km rfl 10 (by decide) rfl (hg _ kw_465) (fun _ h9 => h9) rfl rfl rfl d_M_work_174 (fun H locs hM => ?_)
          have hi4 := Mi_c hw hi3 10 (cn 10 + 1)
          refine lv_goto (tgt := 87) hx hb d_M_work_177 (by decide) ?_
          refine ih _ _ _ _ b H locs ls _ (by rw [va_up_self]; omega) hb8 hM hi4 ?_ (fun i hi9 => by rw [va_up_ne _ _ hi9]; exact h1 i hi9) (fun i hi9 => by rw [up2_off _ _ hi9]; exact h2 i hi9) (fun k hk => by rw [up2_off _ _ hk]; exact h3 k hk) ?_ hl
          · rw [up2_ne _ _ (by decide), up2_off _ _ (fun z => hw.nm (by decide) z.symm), up2_off _ _ (fun z => hw.nm (by decide) z.symm)]; exact hz
          · refine WkI_step hWk (b := b) (va_up_ne _ _ (by decide)) (va_up_self _ _ _) ?_ (up2_off _ _ (by decide)) (fun x hx9 => ?_) (fun x y hx9 hy9 => by rw [n2]; exact hX0.nui x y (by omega) (by omega)) hb9 ((hrg b hb9).mp q1) (fun y hy => ?_)
            · rw [up2_row]
            · by_cases e : x = b
              · rw [e, up2_self]; exact ⟨fun _ => Or.inr rfl, fun _ => rfl⟩
              · rw [up2_ne _ _ e]; exact ⟨Or.inl, fun z => z.elim id (fun z => absurd z e)⟩
            · obtain ⟨x, hx9, ex⟩ := w1s y hy.1
              have hxc : x < cn 4 := by omega
              rw [← ex, ← n2] at hy ⊢
              exact q2 x hxc ((hrg x hxc).mpr hy)
      · rcases hB with ⟨hno, e9⟩ | ⟨b, hb9, e9, -⟩
        · subst e9
          refine lv_goto (tgt := 87) hx hb d_M_work_142 (by decide) ?_
          refine q_iload_n (i := 1) hx hb d_M_work_87 rfl hl rfl ?_
          refine lv_if_lt (tgt := 180) hx hb d_M_work_88 (by decide) (fun c7 => ?_) (fun c7 => ?_)
          · refine kk it cn nA fb H locs ls _ _ hM hi hz h1 h2 h3 hWk (fun y hy => ?_) hMle hl
            obtain ⟨x, hx9, ex⟩ := w1s y hy.1
            have hxc : x < cn 4 := by omega
            rw [← ex, ← n2] at hy
            exact hno x hxc ((hrg x hxc).mpr hy)
          · exact absurd (by decide) c7
        · rw [e9] at c8; exact absurd (nI_pos' (by omega)) c8
set_option maxHeartbeats 4000000 in
set_option maxRecDepth 100000 in
theorem m_M_work (l : Launch) (D : va_G) (dA : Nat → ClassId) (S : sS) (sz : Nat) (m0 mm : Nat) (E : Nat → Nat → Prop) (T Rg : Nat → Prop) (wl : List Nat) (rc : Nat) (hO : Mo S m0 mm E T Rg wl rc) (hmm : mm ≤ 512) :
    cI l y_M_work c_M_work 3 (some .int) (rmk 1 0 0) D dA S sz [.ref m0] (fun x u => MWorkP m0 mm E T x u ∧ u.2.2.1 m0 0 = 0) (0) (0) := by
  obtain ⟨ar, cn, nA, fb, hw, hi, hX1⟩ := hO
  have hl9 := hX1.hl
  have hn9 := hX1.hn
  obtain ⟨kd, rf, it, lg⟩ := S
  obtain ⟨km, ⟨r0, r1, r2, r3, r4, r5, r6, r7⟩, ⟨k0, k1, k2, k3, k4, k5, k6, k7⟩, hdis⟩ := id hw
  dsimp only at km r0 r1 r2 r3 r4 r5 r6 r7 k0 k1 k2 k3 k4 k5 k6 k7 hi hw
  refine s_met (cc := c_M_work) (maxL := 3) (by decide) rfl (by simp [Value.category]) (by simp [lg_sl, Value.category]) ?_
  intro p e s m args below meth c ls hx hb hr hts hown hlocks hin hml hK hX hsz hM hl
  have hg := gd_hts hts
  have hl : lc ls 3 [some (va_rf (some m0)), none, none] := hl
  refine q_al_n (i := 0) hx hb d_M_work_0 rfl hl rfl ?_
  refine lv_iconst (v := 0) hx hb d_M_work_1 (by decide) ?_
  refine s_puti (C := R_M) (T := F_M) (N := 13) (ci := 7) hx hb hg in_M ft_M ft_M_ok fn_M hown hK hM km rfl 0 (by decide) rfl (hg _ kw_455) (fun _ h9 => h9) rfl rfl rfl d_M_work_2 (fun H locs hM => ?_)
  have hi1 := Mi_0 hw hi 0
  have hz1 : up2 it m0 0 0 m0 0 = 0 := up2_self _ _ _ _
  generalize up2 it m0 0 0 = it1 at hM hi1 hz1
  refine q_al_n (i := 0) hx hb d_M_work_5 rfl hl rfl ?_
  refine s_callv (r_V 0 [] rfl hx hb hml hown hg (m_M_spread l D dA _ _ m0 ar cn nA fb hw hi1 (by omega) (by omega) hX1.lk) (hM.pre hK hX) (hM.recv hK km (q := cls.getD 7 (R_H, F_H, 7)) rfl) kw_539 kw_541 ks_21 kw_5 kw_542 (by decide +kernel) ⟨Nat.le_of_ble_eq_true rfl, Nat.le_of_ble_eq_true rfl⟩ rfl rfl hl.sz (by first | exact Nat.le_of_ble_eq_true rfl | simp [rf_cat] | simp [rf_cat, Value.category]) d_M_work_6 ⟨Nat.le_refl _, Nat.le_refl _⟩ rfl) hM (fun u H locs hp hM => ?_)
  obtain ⟨it2, fb2, rfl, hi2, hz2, hS2, hcl2⟩ := hp
  dsimp only at hM hz2
  rw [hz1] at hz2
  refine q_al_n (i := 0) hx hb d_M_work_9 rfl hl rfl ?_
  refine s_callv (r_V 0 [] rfl hx hb hml hown hg (m_M_findRings l D dA _ _ m0 ar cn nA fb2 hw hi2 (by omega) (by omega) hX1.lk) (hM.pre hK hX) (hM.recv hK km (q := cls.getD 7 (R_H, F_H, 7)) rfl) kw_543 kw_545 ks_22 kw_5 kw_546 (by decide +kernel) ⟨Nat.le_of_ble_eq_true rfl, Nat.le_of_ble_eq_true rfl⟩ rfl rfl hl.sz (by first | exact Nat.le_of_ble_eq_true rfl | simp [rf_cat] | simp [rf_cat, Value.category]) d_M_work_10 ⟨Nat.le_refl _, Nat.le_refl _⟩ rfl) hM (fun u H locs hp hM => ?_)
  obtain ⟨it3, fb3, rfl, hi3, hz3, hS3, hcl3⟩ := hp
  dsimp only at hM hz3
  rw [hz2] at hz3
  have e35 : fb3 5 = fb2 5 := hS3.1 5 (by decide)
  obtain ⟨w1, w1s⟩ := W1 hX1 hS2 hcl2
  rw [← e35] at w1
  have w2 := W2 hX1 hS3 hcl3
  refine q_al_n (i := 0) hx hb d_M_work_13 rfl hl rfl ?_
  refine lv_iconst (v := nI 0) hx hb d_M_work_14 (by decide) ?_
  refine s_puti (C := R_M) (T := F_M) (N := 13) (ci := 7) hx hb hg in_M ft_M ft_M_ok fn_M hown hK hM km rfl 10 (by decide) rfl (hg _ kw_465) (fun _ h9 => h9) rfl rfl rfl d_M_work_15 (fun H locs hM => ?_)
  have hi4 := Mi_c hw hi3 10 0
  refine q_al_n (i := 0) hx hb d_M_work_18 rfl hl rfl ?_
  refine lv_iconst (v := nI 0) hx hb d_M_work_19 (by decide) ?_
  refine s_puti (C := R_M) (T := F_M) (N := 13) (ci := 7) hx hb hg in_M ft_M ft_M_ok fn_M hown hK hM km rfl 12 (by decide) rfl (hg _ kw_467) (fun _ h9 => h9) rfl rfl rfl d_M_work_20 (fun H locs hM => ?_)
  have hi5 := Mi_c hw hi4 12 0
  have hz5 : up2 (up2 it3 m0 10 (nI 0)) m0 12 (nI 0) m0 0 = 0 := by rw [up2_ne _ _ (by decide), up2_ne _ _ (by decide)]; exact hz3
  generalize up2 (up2 it3 m0 10 (nI 0)) m0 12 (nI 0) = it5 at hM hi5 hz5
  refine lv_iconst (v := nI 0) hx hb d_M_work_23 (by decide) ?_
  refine q_istore_n (i := 1) hx hb d_M_work_24 rfl hl (by decide) (fun ls hl => ?_)
  simp only [List.set_cons_succ, List.set_cons_zero] at hl
  have d4 : va_up cn 10 0 4 = cn 4 := va_up_ne _ _ (by decide)
  refine wa_loop hx hb hml hown hg hK hX hw (cn0 := va_up cn 10 0) (fb0 := fb3) (nA := nA) (by rw [d4]; omega) ?_ (cn 4) 0 it5 fb3 H locs ls _ (by rw [d4]; omega) hM hi5 hz5 (fun _ _ _ => rfl) (fun y hy => absurd hy (Nat.not_lt_zero y)) (fun _ _ => rfl) hl
  intro it6 fb6 H locs ls o1 o2 hM hi6 hz6 a1 a2 a3 hl
  rw [d4] at hi6 a2 a3
  refine lv_iconst (v := nI 0) hx hb d_M_work_85 (by decide) ?_
  refine q_istore_n (i := 1) hx hb d_M_work_86 rfl hl (by decide) (fun ls hl => ?_)
  simp only [List.set_cons_succ, List.set_cons_zero] at hl
  generalize hcn6 : va_up (va_up cn 10 0) 12 (cB (fun y => fb3 5 y && fb3 4 y) (cn 4)) = cn6 at hi6
  have q10 : cn6 10 = 0 := by rw [← hcn6, va_up_ne _ _ (by decide), va_up_self]
  have q12 : cn6 12 = cB (fun y => fb3 5 y && fb3 4 y) (cn 4) := by rw [← hcn6, va_up_self]
  have qo : ∀ i, i ≠ 10 → i ≠ 12 → cn6 i = cn i := fun i i1 i2 => by rw [← hcn6, va_up_ne _ _ i2, va_up_ne _ _ i1]
  refine wc_loop hx hb hml hown hg hK hX hw (cn0 := va_up cn 12 (cB (fun y => fb3 5 y && fb3 4 y) (cn 4))) (nA0 := nA) (fb0 := fb) (fb1 := fb6) (lb := mm) (nb := 2 * mm) (E := E) (T := T) (Rg := Rg) (wl := wl) (rc := cB (fun y => fb3 5 y && fb3 4 y) (cn 4)) ?_ ?_ ?_ ?_ ?_ ?_ ⟨Nat.le_of_ble_eq_true rfl, Nat.le_of_ble_eq_true rfl⟩ ?_ (cn 4 + 1) it6 cn6 nA fb6 0 H locs ls _ ?_ (by decide) hM hi6 hz6 ?_ (fun _ _ => rfl) (fun _ _ => rfl) ?_ hl
  · have e1 : ∀ i, i ≠ 12 → va_up cn 12 (cB (fun y => fb3 5 y && fb3 4 y) (cn 4)) i = cn i := fun i hi9 => va_up_ne _ _ hi9
    refine ⟨by rw [e1 1 (by decide)]; exact hX1.hl, by rw [e1 4 (by decide)]; exact hX1.hn, ?_, ?_, ?_, ?_, ?_, ?_, ?_, ?_, by rw [e1 10 (by decide)]; exact hX1.hm, hX1.hm9, by rw [e1 10 (by decide)]; exact hX1.hw, va_up_self _ _ _⟩
    · rw [e1 4 (by decide)]; exact hX1.nu9
    · rw [e1 4 (by decide)]; exact hX1.nui
    · rw [e1 1 (by decide), e1 4 (by decide)]; exact hX1.lk
    · rw [e1 1 (by decide)]; exact hX1.lki
    · rw [e1 1 (by decide)]; exact hX1.hE
    · rw [e1 4 (by decide)]; exact hX1.hT
    · rw [e1 4 (by decide)]; exact hX1.hR
    · rw [e1 4 (by decide)]; exact hX1.hz
  · rw [va_up_ne _ _ (by decide)]; omega
  · rw [va_up_ne _ _ (by decide)]; omega
  · rw [va_up_ne _ _ (by decide), a1 5 (by decide) (by decide)]; exact w1
  · rw [va_up_ne _ _ (by decide)]; exact w1s
  · rw [va_up_ne _ _ (by decide), a1 4 (by decide) (by decide)]; exact w2
  · intro it7 cn7 nA7 fb7 H locs ls o1 o2 hM hi7 hz7 b1 b2 b3 hWk hend hle hl
    rw [va_up_ne _ _ (by decide)] at hle
    have c71 : cn7 1 = cn 1 := by rw [b1 1 (by decide), va_up_ne _ _ (by decide)]
    have c74 : cn7 4 = cn 4 := by rw [b1 4 (by decide), va_up_ne _ _ (by decide)]
    have c712 : cn7 12 = cB (fun y => fb3 5 y && fb3 4 y) (cn 4) := by rw [b1 12 (by decide), va_up_self]
    have hrun : gR E (gF E T) ((List.range (cn7 10)).map (nA7 7)) := by
      refine ⟨fun k x hk => ?_, hend⟩
      rw [lrm_at] at hk
      by_cases z : k < cn7 10
      · rw [if_pos z] at hk
        have e9 : nA7 7 k = x := Option.some.inj hk
        rw [lrm_take (by omega), ← e9]
        exact hWk.2 k z
      · rw [if_neg z] at hk; cases hk
    refine q_al_n (i := 0) hx hb d_M_work_180 rfl hl rfl ?_
    refine s_geti (C := R_M) (T := F_M) (N := 13) (ci := 7) hx hb hg in_M hown hK hM km rfl 10 (by decide) rfl (hg _ kw_465) (fun _ h9 => h9) d_M_work_181 ?_
    rw [hi7.M]
    refine s_iret hx hb hr hM ⟨⟨(List.range (cn7 10)).map (nA7 7), cB (fun y => fb3 5 y && fb3 4 y) (cn 4), ⟨ar, cn7, nA7, fb7, hw, hi7, ?_⟩, by simp, hrun, ?_⟩, hz7⟩ d_M_work_184 hlocks
    · refine ⟨by rw [c71]; exact hX1.hl, by rw [c74]; exact hX1.hn, by rw [c74, b2 2 (by decide)]; exact hX1.nu9, by rw [c74, b2 2 (by decide)]; exact hX1.nui, by rw [c71, c74, b2 0 (by decide), b2 1 (by decide)]; exact hX1.lk, by rw [c71, b2 0 (by decide), b2 1 (by decide)]; exact hX1.lki, by rw [c71, b2 0 (by decide), b2 1 (by decide), b2 2 (by decide)]; exact hX1.hE, fun v => ⟨fun z => z.elim, fun ⟨x, hx9, _, h3⟩ => ?_⟩, fun v => ?_, fun x hx9 => ?_, (by simp), (by simp; omega), fun i hi9 => ?_, c712⟩
      · rw [b3 3 (by decide), (a2 x (by omega)).1] at h3; cases h3
      · rw [c74, b2 2 (by decide), b3 4 (by decide), a1 4 (by decide) (by decide)]
        constructor
        · intro hn
          have hx : ∃ x, x < cn 4 ∧ nA 2 x = v := Classical.byContradiction fun z => hn (gN_mk fun u hu => by
            obtain ⟨k, hk, e1, -⟩ := (hX1.hE _ _).mp hu
            exact absurd ⟨nA 0 k, (hX1.lk k hk).1, e1⟩ z)
          obtain ⟨x, hx9, ex⟩ := hx
          exact ⟨x, hx9, ex, (w2 x hx9).mpr (by rw [ex]; exact hn)⟩
        · rintro ⟨x, hx9, ex, h4⟩
          rw [← ex]; exact (w2 x hx9).mp h4
      · rw [c74] at hx9
        rw [b3 3 (by decide), b3 4 (by decide), a3 x hx9, a1 4 (by decide) (by decide), hS3.2.1 x hx9, hS3.1 3 (by decide), hS2.1 3 (by decide), hS2.1 4 (by decide)]
        exact hX1.hz x hx9
      · rw [lrm_at, if_pos hi9]
    · have hnd9 : ((List.range (cn7 10)).map (nA7 7)).Nodup := by
        refine lrm_nodup (fun i j hi9 hj9 e9 => ?_)
        have g := gR_nodup hrun i j (nA7 7 i) (by rw [lrm_at, if_pos hi9]) (by rw [lrm_at, if_pos hj9, e9])
        exact g
      refine ⟨((List.range (cn 4)).filter (fun y => fb3 5 y && fb3 4 y)).map (nA 2) ++ (List.range (cn7 10)).map (nA7 7), List.nodup_append.mpr ⟨?_, hnd9, fun a ha b hb9 e9 => ?_⟩, fun v => ?_, by rw [List.length_append, List.length_map]; rfl⟩
      · rw [List.nodup_iff_pairwise_ne, List.pairwise_map]
        refine (List.nodup_iff_pairwise_ne.mp ((List.nodup_range).filter _)).imp_of_mem (fun {a b} ha hb9 hab e9 => hab ?_)
        exact hX1.nui a b (List.mem_range.mp (List.mem_filter.mp ha).1) (List.mem_range.mp (List.mem_filter.mp hb9).1) e9
      · obtain ⟨x, hx9, ex⟩ := List.mem_map.mp ha
        obtain ⟨hx1, hx2⟩ := List.mem_filter.mp hx9
        rw [Bool.and_eq_true] at hx2
        have h1 := (w2 x (List.mem_range.mp hx1)).mp hx2.2
        rw [← e9] at hb9
        have h2 := (gR_mem hrun).mp hb9
        rw [ex] at h1
        exact h1 h2.2
      · rw [List.mem_append]
        constructor
        · rintro (z | z)
          · obtain ⟨x, hx9, ex⟩ := List.mem_map.mp z
            obtain ⟨hx1, hx2⟩ := List.mem_filter.mp hx9
            rw [Bool.and_eq_true] at hx2
            rw [← ex]; exact (w1 x (List.mem_range.mp hx1)).mp hx2.1
          · exact ((gR_mem hrun).mp z).1
        · intro hv
          by_cases hn : gN E v
          · exact Or.inr ((gR_mem hrun).mpr ⟨hv, hn⟩)
          · obtain ⟨x, hx9, ex⟩ := w1s v hv
            refine Or.inl (List.mem_map.mpr ⟨x, List.mem_filter.mpr ⟨List.mem_range.mpr hx9, ?_⟩, ex⟩)
            rw [Bool.and_eq_true]
            exact ⟨(w1 x hx9).mpr (by rw [ex]; exact hv), (w2 x hx9).mpr (by rw [ex]; exact hn)⟩
  · rw [va_up_ne _ _ (by decide), q10]; omega
  · intro i hi9
    by_cases e : i = 12
    · rw [e, q12, va_up_self]
    · rw [qo i hi9 e, va_up_ne _ _ e]
  · refine ⟨fun x hx9 => ?_, fun j hj => by rw [q10] at hj; exact absurd hj (Nat.not_lt_zero j)⟩
    rw [qo 4 (by decide) (by decide)] at hx9
    rw [(a2 x hx9).2, q10]
    exact ⟨fun z => (by cases z), fun ⟨i, hi9, _⟩ => absurd hi9 (Nat.not_lt_zero i)⟩
