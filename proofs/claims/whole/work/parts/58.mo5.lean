/-! PURE: how many of the first n are so -/
def cB (f : Nat → Bool) (n : Nat) : Nat := ((List.range n).filter f).length
theorem cB_succ (f : Nat → Bool) (n : Nat) : cB f (n + 1) = cB f n + (if f n = true then 1 else 0) := by
  unfold cB
  rw [List.range_succ, List.filter_append, List.length_append]
  by_cases e : f n = true
  · simp [e]
  · simp [e]
theorem cB_le (f : Nat → Bool) (n : Nat) : cB f n ≤ n := by
  have := List.length_filter_le f (List.range n)
  rw [List.length_range] at this
  exact this
theorem cB_up {f g : Nat → Bool} {x : Nat} (hg : ∀ j, j ≠ x → g j = f j) : ∀ n, (n ≤ x → cB g n = cB f n) ∧ (x < n → cB g n + (if f x = true then 1 else 0) = cB f n + (if g x = true then 1 else 0)) := by
  intro n
  induction n with
  | zero => exact ⟨fun _ => rfl, fun h => absurd h (Nat.not_lt_zero x)⟩
  | succ n ih =>
    rw [cB_succ, cB_succ]
    refine ⟨fun h => ?_, fun h => ?_⟩
    · rw [ih.1 (by omega), hg n (by omega)]
    · by_cases e : x = n
      · rw [ih.1 (by omega), e]; omega
      · have := ih.2 (by omega)
        rw [hg n (by omega)]; omega
theorem cB_ext {f g : Nat → Bool} {n : Nat} (h : ∀ j, j < n → g j = f j) : cB g n = cB f n := by
  induction n with
  | zero => rfl
  | succ n ih => rw [cB_succ, cB_succ, ih (fun j hj => h j (by omega)), h n (by omega)]
/-- spread's flags: what is wanted is touched or must be, and all that is touched is wanted -/
def SpI (cn : Nat → Nat) (nA : Nat → Nat → Nat) (fb0 fb : Nat → Nat → Bool) : Prop := (∀ k, k ≠ 5 → fb k = fb0 k) ∧ (∀ x, x < cn 4 → fb0 3 x = true → fb 5 x = true) ∧ ∀ P : Nat → Prop, (∀ x, x < cn 4 → fb0 3 x = true → P x) → (∀ k, k < cn 1 → P (nA 1 k) → P (nA 0 k)) → ∀ x, x < cn 4 → fb 5 x = true → P x
theorem SpI_set {cn : Nat → Nat} {nA : Nat → Nat → Nat} {fb0 fb : Nat → Nat → Bool} (h : SpI cn nA fb0 fb) {k : Nat} (hk : k < cn 1) (hlk : nA 0 k < cn 4 ∧ nA 1 k < cn 4) (ht : fb 5 (nA 1 k) = true) : SpI cn nA fb0 (up2 fb 5 (nA 0 k) true) := by
  obtain ⟨h1, h2, h3⟩ := h
  refine ⟨fun j hj => by rw [up2_off _ _ hj]; exact h1 j hj, fun x hx hx3 => ?_, fun P p1 p2 x hx hx5 => ?_⟩
  · by_cases e : x = nA 0 k
    · rw [e, up2_self]
    · rw [up2_ne _ _ e]; exact h2 x hx hx3
  · by_cases e : x = nA 0 k
    · rw [e]; exact p2 k hk (h3 P p1 p2 _ hlk.2 ht)
    · rw [up2_ne _ _ e] at hx5; exact h3 P p1 p2 x hx hx5
set_option maxHeartbeats 4000000 in
set_option maxRecDepth 100000 in
theorem sp_1 {p : Program} {l : Launch} {e : Env} {s : State} {m : MethodId} {args : Array Value} {below : List Frame} {meth : Method} {c : Code} {D : va_G} {dA : Nat → ClassId} {A : Nat → Prop} {Q : State → Prop} (hx : p.tables.exec = Jvm.exec) (hb : c.code = c_M_spread) (hml : c.maxLocals = 3) (hown : s.vm.findClass R_M = some m.cls) (hg : ∀ w ∈ gd, w.before args s = true) (hK : va_K D cls (tys dA) s) (hX : sKx s) {R9 : Room} {kd : Nat → Option sK} {rf : Nat → Nat → Option Nat} {lg : Nat → Nat → Int64} {m0 : Nat} {ar cn : Nat → Nat} {nA : Nat → Nat → Nat} {fb0 : Nat → Nat → Bool} {z0 : Int32} (hw : Mw kd rf m0 ar) (hN : cn 4 < 8192)
    (kk : ∀ (it : Nat → Nat → Int32) (fb : Nat → Nat → Bool) (H : Heap) (locs : List Loc) (ls : Array Slot) (o1 o2 : Option Value), SW D dA A s.heap (kd, rf, it, lg) H locs → Mi it m0 ar cn nA fb → it m0 0 = z0 → (∀ k, k ≠ 5 → fb k = fb0 k) → (∀ x, x < cn 4 → fb 5 x = fb0 3 x) → lc ls 3 [some (va_rf (some m0)), o1, o2] → W p l e R9 s m args below meth c H locs 0 0 Q (F0 m 28 ls [])) :
    ∀ (d x : Nat) (it : Nat → Nat → Int32) (fb : Nat → Nat → Bool) (H : Heap) (locs : List Loc) (ls : Array Slot) (o2 : Option Value), x + d = cn 4 → SW D dA A s.heap (kd, rf, it, lg) H locs → Mi it m0 ar cn nA fb → it m0 0 = z0 → (∀ k, k ≠ 5 → fb k = fb0 k) → (∀ y, y < x → fb 5 y = fb0 3 y) → lc ls 3 [some (va_rf (some m0)), some (.int (nI x)), o2] → W p l e R9 s m args below meth c H locs 0 0 Q (F0 m 2 ls []) := by
  obtain ⟨km, ⟨r0, r1, r2, r3, r4, r5, r6, r7⟩, ⟨k0, k1, k2, k3, k4, k5, k6, k7⟩, hdis⟩ := id hw
  intro d
  induction d with
  | zero =>
    intro x it fb H locs ls o2 hd hM hi hz h1 h2 hl
    have hx0 : x = cn 4 := by omega
    refine q_iload_n (i := 1) hx hb d_M_spread_2 rfl hl rfl ?_
    refine q_al_n (i := 0) hx hb d_M_spread_3 rfl hl rfl ?_
    refine s_geti (C := R_M) (T := F_M) (N := 13) (ci := 7) hx hb hg in_M hown hK hM km rfl 4 (by decide) rfl (hg _ kw_459) (fun _ h9 => h9) d_M_spread_4 ?_
    rw [hi.N]
    refine n_ge (tgt := 28) hx hb d_M_spread_7 (by decide) (by omega) (by omega) (fun c1 => ?_) (fun c1 => ?_)
    · exact kk it fb H locs ls _ _ hM hi hz h1 (by rw [← hx0]; exact h2) hl
    · omega
  | succ d ih =>
    intro x it fb H locs ls o2 hd hM hi hz h1 h2 hl
    have hx8 : x < 8192 := by omega
    refine q_iload_n (i := 1) hx hb d_M_spread_2 rfl hl rfl ?_
    refine q_al_n (i := 0) hx hb d_M_spread_3 rfl hl rfl ?_
    refine s_geti (C := R_M) (T := F_M) (N := 13) (ci := 7) hx hb hg in_M hown hK hM km rfl 4 (by decide) rfl (hg _ kw_459) (fun _ h9 => h9) d_M_spread_4 ?_
    rw [hi.N]
    refine n_ge (tgt := 28) hx hb d_M_spread_7 (by decide) (by omega) (by omega) (fun c1 => ?_) (fun c1 => ?_)
    · omega
    · refine q_al_n (i := 0) hx hb d_M_spread_10 rfl hl rfl ?_
      refine s_getr (C := R_M) (T := F_M) (N := 13) (ci := 7) hx hb hg in_M hown hK hM km rfl 8 (by decide) rfl (hg _ kw_463) (fun _ h9 => h9) d_M_spread_11 ?_
      rw [r5]
      refine q_iload_n (i := 1) hx hb d_M_spread_14 rfl hl rfl ?_
      refine q_al_n (i := 0) hx hb d_M_spread_15 rfl hl rfl ?_
      refine s_getr (C := R_M) (T := F_M) (N := 13) (ci := 7) hx hb hg in_M hown hK hM km rfl 6 (by decide) rfl (hg _ kw_461) (fun _ h9 => h9) d_M_spread_16 ?_
      rw [r3]
      refine q_iload_n (i := 1) hx hb d_M_spread_19 rfl hl rfl ?_
      refine s_zld (t := 4) hx hb hK hM k3 rfl rfl (vp_in_nI hx8 (by omega)) d_M_spread_20 ?_
      rw [nI_clamp (by omega), hi.fl (k := 3) (by decide) (by decide) hx8]
      refine s_zst (t := 4) hx hb hK hM k5 rfl rfl (bI_nar _) (vp_in_nI hx8 (by omega)) d_M_spread_21 (fun H locs hM => ?_)
      rw [nI_clamp (by omega)] at hM
      have hi2 := Mi_b hw hi (i := 5) (by decide) x (fb 3 x)
      refine q_iinc hx hb (nI (x + 1)) d_M_spread_22 hl rfl (nI_1 x) (by decide) (fun ls hl => ?_)
      simp only [List.set_cons_succ, List.set_cons_zero] at hl
      refine lv_goto (tgt := 2) hx hb d_M_spread_25 (by decide) ?_
      refine ih (x + 1) _ _ H locs ls _ (by omega) hM hi2 ?_ (fun k hk => by rw [up2_off _ _ hk]; exact h1 k hk) (fun y hy => ?_) hl
      · rw [up2_off _ _ (fun z => hw.nm (by decide) z.symm)]; exact hz
      · by_cases e : y = x
        · rw [e, up2_self, h1 3 (by decide)]
        · rw [up2_ne _ _ e]; exact h2 y (by omega)
set_option maxHeartbeats 4000000 in
set_option maxRecDepth 100000 in
theorem sp_in {p : Program} {l : Launch} {e : Env} {s : State} {m : MethodId} {args : Array Value} {below : List Frame} {meth : Method} {c : Code} {D : va_G} {dA : Nat → ClassId} {A : Nat → Prop} {Q : State → Prop} (hx : p.tables.exec = Jvm.exec) (hb : c.code = c_M_spread) (hml : c.maxLocals = 3) (hown : s.vm.findClass R_M = some m.cls) (hg : ∀ w ∈ gd, w.before args s = true) (hK : va_K D cls (tys dA) s) (hX : sKx s) {R9 : Room} {kd : Nat → Option sK} {rf : Nat → Nat → Option Nat} {lg : Nat → Nat → Int64} {m0 : Nat} {ar cn : Nat → Nat} {nA : Nat → Nat → Nat} {fb0 : Nat → Nat → Bool} {z0 : Int32} (hw : Mw kd rf m0 ar) (hL : cn 1 < 4096) (hN : cn 4 < 8192) (hlk : ∀ k, k < cn 1 → nA 0 k < cn 4 ∧ nA 1 k < cn 4) {c0 : Nat}
    (kk : ∀ (it : Nat → Nat → Int32) (fb : Nat → Nat → Bool) (mr : Bool) (H : Heap) (locs : List Loc) (ls : Array Slot) (o2 : Option Value), SW D dA A s.heap (kd, rf, it, lg) H locs → Mi it m0 ar cn nA fb → it m0 0 = z0 → SpI cn nA fb0 fb → c0 ≤ cB (fb 5) (cn 4) → (mr = true → c0 < cB (fb 5) (cn 4)) → (mr = false → ∀ j, j < cn 1 → fb 5 (nA 1 j) = true → fb 5 (nA 0 j) = true) → lc ls 3 [some (va_rf (some m0)), some (.int (bI mr)), o2] → W p l e R9 s m args below meth c H locs 0 0 Q (F0 m 97 ls [])) :
    ∀ (d k : Nat) (it : Nat → Nat → Int32) (fb : Nat → Nat → Bool) (mr : Bool) (H : Heap) (locs : List Loc) (ls : Array Slot), k + d = cn 1 → SW D dA A s.heap (kd, rf, it, lg) H locs → Mi it m0 ar cn nA fb → it m0 0 = z0 → SpI cn nA fb0 fb → c0 ≤ cB (fb 5) (cn 4) → (mr = true → c0 < cB (fb 5) (cn 4)) → (mr = false → ∀ j, j < k → fb 5 (nA 1 j) = true → fb 5 (nA 0 j) = true) → lc ls 3 [some (va_rf (some m0)), some (.int (bI mr)), some (.int (nI k))] → W p l e R9 s m args below meth c H locs 0 0 Q (F0 m 38 ls []) := by
  obtain ⟨km, ⟨r0, r1, r2, r3, r4, r5, r6, r7⟩, ⟨k0, k1, k2, k3, k4, k5, k6, k7⟩, hdis⟩ := id hw
  intro d
  induction d with
  | zero =>
    intro k it fb mr H locs ls hd hM hi hz hS h1 h2 h3 hl
    have hk0 : k = cn 1 := by omega
    refine q_iload_n (i := 2) hx hb d_M_spread_38 rfl hl rfl ?_
    refine q_al_n (i := 0) hx hb d_M_spread_39 rfl hl rfl ?_
    refine s_geti (C := R_M) (T := F_M) (N := 13) (ci := 7) hx hb hg in_M hown hK hM km rfl 1 (by decide) rfl (hg _ kw_456) (fun _ h9 => h9) d_M_spread_40 ?_
    rw [hi.L]
    refine n_ge (tgt := 97) hx hb d_M_spread_43 (by decide) (by omega) (by omega) (fun c1 => ?_) (fun c1 => ?_)
    · exact kk it fb mr H locs ls _ hM hi hz hS h1 h2 (by rw [← hk0]; exact h3) hl
    · omega
  | succ d ih =>
    intro k it fb mr H locs ls hd hM hi hz hS h1 h2 h3 hl
    have hk1 : k < cn 1 := by omega
    have hk4 : k < 4096 := by omega
    obtain ⟨lk0, lk1⟩ := hlk k hk1
    have lk08 : nA 0 k < 8192 := by omega
    have lk18 : nA 1 k < 8192 := by omega
    have nxt : (fb 5 (nA 1 k) = true → fb 5 (nA 0 k) = true) → W p l e R9 s m args below meth c H locs 0 0 Q (F0 m 91 ls []) := by
      intro hcl
      refine q_iinc hx hb (nI (k + 1)) d_M_spread_91 hl rfl (nI_1 k) (by decide) (fun ls hl => ?_)
      simp only [List.set_cons_succ, List.set_cons_zero] at hl
      refine lv_goto (tgt := 38) hx hb d_M_spread_94 (by decide) ?_
      refine ih (k + 1) it fb mr H locs ls (by omega) hM hi hz hS h1 h2 (fun hf j hj => ?_) hl
      by_cases e : j = k
      · rw [e]; exact hcl
      · exact h3 hf j (by omega)
    refine q_iload_n (i := 2) hx hb d_M_spread_38 rfl hl rfl ?_
    refine q_al_n (i := 0) hx hb d_M_spread_39 rfl hl rfl ?_
    refine s_geti (C := R_M) (T := F_M) (N := 13) (ci := 7) hx hb hg in_M hown hK hM km rfl 1 (by decide) rfl (hg _ kw_456) (fun _ h9 => h9) d_M_spread_40 ?_
    rw [hi.L]
    refine n_ge (tgt := 97) hx hb d_M_spread_43 (by decide) (by omega) (by omega) (fun c1 => ?_) (fun c1 => ?_)
    · omega
    · refine q_al_n (i := 0) hx hb d_M_spread_46 rfl hl rfl ?_
      refine s_getr (C := R_M) (T := F_M) (N := 13) (ci := 7) hx hb hg in_M hown hK hM km rfl 8 (by decide) rfl (hg _ kw_463) (fun _ h9 => h9) d_M_spread_47 ?_
      rw [r5]
      refine q_al_n (i := 0) hx hb d_M_spread_50 rfl hl rfl ?_
      refine s_getr (C := R_M) (T := F_M) (N := 13) (ci := 7) hx hb hg in_M hown hK hM km rfl 3 (by decide) rfl (hg _ kw_458) (fun _ h9 => h9) d_M_spread_51 ?_
      rw [r1]
      refine q_iload_n (i := 2) hx hb d_M_spread_54 rfl hl rfl ?_
      refine s_ild (t := 0) hx hb hK hM k1 rfl rfl (vp_in_nI hk4 (by omega)) d_M_spread_55 ?_
      rw [nI_clamp (by omega), hi.to hk4]
      refine s_zld (t := 4) hx hb hK hM k5 rfl rfl (vp_in_nI lk18 (by omega)) d_M_spread_56 ?_
      rw [nI_clamp (by omega), hi.fl (k := 5) (by decide) (by decide) lk18]
      refine lv_if_eq (tgt := 91) hx hb d_M_spread_57 (by decide) (fun c2 => ?_) (fun c2 => ?_)
      · exact nxt (fun z => by rw [(bI_eq _).mp c2] at z; cases z)
      · refine q_al_n (i := 0) hx hb d_M_spread_60 rfl hl rfl ?_
        refine s_getr (C := R_M) (T := F_M) (N := 13) (ci := 7) hx hb hg in_M hown hK hM km rfl 8 (by decide) rfl (hg _ kw_463) (fun _ h9 => h9) d_M_spread_61 ?_
        rw [r5]
        refine q_al_n (i := 0) hx hb d_M_spread_64 rfl hl rfl ?_
        refine s_getr (C := R_M) (T := F_M) (N := 13) (ci := 7) hx hb hg in_M hown hK hM km rfl 2 (by decide) rfl (hg _ kw_457) (fun _ h9 => h9) d_M_spread_65 ?_
        rw [r0]
        refine q_iload_n (i := 2) hx hb d_M_spread_68 rfl hl rfl ?_
        refine s_ild (t := 0) hx hb hK hM k0 rfl rfl (vp_in_nI hk4 (by omega)) d_M_spread_69 ?_
        rw [nI_clamp (by omega), hi.fr hk4]
        refine s_zld (t := 4) hx hb hK hM k5 rfl rfl (vp_in_nI lk08 (by omega)) d_M_spread_70 ?_
        rw [nI_clamp (by omega), hi.fl (k := 5) (by decide) (by decide) lk08]
        refine lv_if_eq (tgt := 77) hx hb d_M_spread_71 (by decide) (fun c3 => ?_) (fun c3 => ?_)
        · refine q_al_n (i := 0) hx hb d_M_spread_77 rfl hl rfl ?_
          refine s_getr (C := R_M) (T := F_M) (N := 13) (ci := 7) hx hb hg in_M hown hK hM km rfl 8 (by decide) rfl (hg _ kw_463) (fun _ h9 => h9) d_M_spread_78 ?_
          rw [r5]
          refine q_al_n (i := 0) hx hb d_M_spread_81 rfl hl rfl ?_
          refine s_getr (C := R_M) (T := F_M) (N := 13) (ci := 7) hx hb hg in_M hown hK hM km rfl 2 (by decide) rfl (hg _ kw_457) (fun _ h9 => h9) d_M_spread_82 ?_
          rw [r0]
          refine q_iload_n (i := 2) hx hb d_M_spread_85 rfl hl rfl ?_
          refine s_ild (t := 0) hx hb hK hM k0 rfl rfl (vp_in_nI hk4 (by omega)) d_M_spread_86 ?_
          rw [nI_clamp (by omega), hi.fr hk4]
          refine lv_iconst (v := bI true) hx hb d_M_spread_87 (by decide) ?_
          refine s_zst (t := 4) hx hb hK hM k5 rfl rfl (bI_nar _) (vp_in_nI lk08 (by omega)) d_M_spread_88 (fun H locs hM => ?_)
          rw [nI_clamp (by omega)] at hM
          have hi2 := Mi_b hw hi (i := 5) (by decide) (nA 0 k) true
          refine lv_iconst (v := bI true) hx hb d_M_spread_89 (by decide) ?_
          refine q_istore_n (i := 1) hx hb d_M_spread_90 rfl hl (by decide) (fun ls hl => ?_)
          simp only [List.set_cons_succ, List.set_cons_zero] at hl
          have hup := (cB_up (f := fb 5) (g := up2 fb 5 (nA 0 k) true 5) (x := nA 0 k) (fun j hj => up2_ne _ _ hj) (cn 4)).2 lk0
          rw [(bI_eq _).mp c3, up2_self] at hup
          simp only [Bool.false_eq_true, if_false, if_true] at hup
          refine q_iinc hx hb (nI (k + 1)) d_M_spread_91 hl rfl (nI_1 k) (by decide) (fun ls hl => ?_)
          simp only [List.set_cons_succ, List.set_cons_zero] at hl
          refine lv_goto (tgt := 38) hx hb d_M_spread_94 (by decide) ?_
          refine ih (k + 1) _ _ true H locs ls (by omega) hM hi2 ?_ (SpI_set hS hk1 ⟨lk0, lk1⟩ ((bI_ne _).mp c2)) (by omega) (fun _ => by omega) (fun hf => by cases hf) hl
          rw [up2_off _ _ (fun z => hw.nm (by decide) z.symm)]; exact hz
        · refine lv_goto (tgt := 91) hx hb d_M_spread_74 (by decide) ?_
          exact nxt (fun _ => (bI_ne _).mp c3)
set_option maxHeartbeats 4000000 in
set_option maxRecDepth 100000 in
theorem sp_out {p : Program} {l : Launch} {e : Env} {s : State} {m : MethodId} {args : Array Value} {below : List Frame} {meth : Method} {c : Code} {D : va_G} {dA : Nat → ClassId} {A : Nat → Prop} {Q : State → Prop} (hx : p.tables.exec = Jvm.exec) (hb : c.code = c_M_spread) (hml : c.maxLocals = 3) (hown : s.vm.findClass R_M = some m.cls) (hg : ∀ w ∈ gd, w.before args s = true) (hK : va_K D cls (tys dA) s) (hX : sKx s) {R9 : Room} {kd : Nat → Option sK} {rf : Nat → Nat → Option Nat} {lg : Nat → Nat → Int64} {m0 : Nat} {ar cn : Nat → Nat} {nA : Nat → Nat → Nat} {fb0 : Nat → Nat → Bool} {z0 : Int32} (hw : Mw kd rf m0 ar) (hL : cn 1 < 4096) (hN : cn 4 < 8192) (hlk : ∀ k, k < cn 1 → nA 0 k < cn 4 ∧ nA 1 k < cn 4)
    (kk : ∀ (it : Nat → Nat → Int32) (fb : Nat → Nat → Bool) (H : Heap) (locs : List Loc) (ls : Array Slot), SW D dA A s.heap (kd, rf, it, lg) H locs → Mi it m0 ar cn nA fb → it m0 0 = z0 → SpI cn nA fb0 fb → (∀ j, j < cn 1 → fb 5 (nA 1 j) = true → fb 5 (nA 0 j) = true) → W p l e R9 s m args below meth c H locs 0 0 Q (F0 m 100 ls [])) :
    ∀ (d : Nat) (it : Nat → Nat → Int32) (fb : Nat → Nat → Bool) (H : Heap) (locs : List Loc) (ls : Array Slot) (o2 : Option Value), cn 4 < cB (fb 5) (cn 4) + d → SW D dA A s.heap (kd, rf, it, lg) H locs → Mi it m0 ar cn nA fb → it m0 0 = z0 → SpI cn nA fb0 fb → lc ls 3 [some (va_rf (some m0)), some (.int (bI true)), o2] → W p l e R9 s m args below meth c H locs 0 0 Q (F0 m 30 ls []) := by
  intro d
  induction d with
  | zero =>
    intro it fb H locs ls o2 hd hM hi hz hS hl
    have := cB_le (fb 5) (cn 4)
    omega
  | succ d ih =>
    intro it fb H locs ls o2 hd hM hi hz hS hl
    refine q_iload_n (i := 1) hx hb d_M_spread_30 rfl hl rfl ?_
    refine lv_if_eq (tgt := 100) hx hb d_M_spread_31 (by decide) (fun c1 => ?_) (fun c1 => ?_)
    · exact absurd c1 (by decide)
    · refine lv_iconst (v := bI false) hx hb d_M_spread_34 (by decide) ?_
      refine q_istore_n (i := 1) hx hb d_M_spread_35 rfl hl (by decide) (fun ls hl => ?_)
      simp only [List.set_cons_succ, List.set_cons_zero] at hl
      refine lv_iconst (v := nI 0) hx hb d_M_spread_36 (by decide) ?_
      refine q_istore_n (i := 2) hx hb d_M_spread_37 rfl hl (by decide) (fun ls hl => ?_)
      simp only [List.set_cons_succ, List.set_cons_zero] at hl
      refine sp_in hx hb hml hown hg hK hX hw hL hN hlk (c0 := cB (fb 5) (cn 4)) ?_ (cn 1) 0 it fb false H locs ls (by omega) hM hi hz hS (Nat.le_refl _) (fun z => by cases z) (fun _ j hj => absurd hj (Nat.not_lt_zero j)) hl
      intro it2 fb2 mr H locs ls o hM hi2 hz2 hS2 h1 h2 h3 hl
      refine lv_goto (tgt := 30) hx hb d_M_spread_97 (by decide) ?_
      cases mr with
      | false =>
        refine q_iload_n (i := 1) hx hb d_M_spread_30 rfl hl rfl ?_
        refine lv_if_eq (tgt := 100) hx hb d_M_spread_31 (by decide) (fun c2 => ?_) (fun c2 => ?_)
        · exact kk it2 fb2 H locs ls hM hi2 hz2 hS2 (h3 rfl)
        · exact absurd rfl c2
      | true =>
        have := h2 rfl
        exact ih it2 fb2 H locs ls _ (by omega) hM hi2 hz2 hS2 hl
set_option maxHeartbeats 4000000 in
set_option maxRecDepth 100000 in
theorem m_M_spread (l : Launch) (D : va_G) (dA : Nat → ClassId) (S : sS) (sz : Nat) (m0 : Nat) (ar cn : Nat → Nat) (nA : Nat → Nat → Nat) (fb : Nat → Nat → Bool) (hw : Mw S.1 S.2.1 m0 ar) (hi : Mi S.2.2.1 m0 ar cn nA fb) (hL : cn 1 < 4096) (hN : cn 4 < 8192) (hlk : ∀ k, k < cn 1 → nA 0 k < cn 4 ∧ nA 1 k < cn 4) :
    cV l y_M_spread c_M_spread 3 (rmk 0 0 0) D dA S sz [.ref m0] (fun u => ∃ it' fb', u = (S.1, S.2.1, it', S.2.2.2) ∧ Mi it' m0 ar cn nA fb' ∧ it' m0 0 = S.2.2.1 m0 0 ∧ SpI cn nA fb fb' ∧ ∀ j, j < cn 1 → fb' 5 (nA 1 j) = true → fb' 5 (nA 0 j) = true) (0) (0) := by
  obtain ⟨kd, rf, it, lg⟩ := S
  obtain ⟨km, ⟨r0, r1, r2, r3, r4, r5, r6, r7⟩, ⟨k0, k1, k2, k3, k4, k5, k6, k7⟩, hdis⟩ := id hw
  dsimp only at km r0 r1 r2 r3 r4 r5 r6 r7 k0 k1 k2 k3 k4 k5 k6 k7 hi hw
  refine s_met (cc := c_M_spread) (maxL := 3) (by decide) rfl (by simp [Value.category]) (by simp [lg_sl, Value.category]) ?_
  intro p e s m args below meth c ls hx hb hr hts hown hlocks hin hml hK hX hsz hM hl
  have hg := gd_hts hts
  have hl : lc ls 3 [some (va_rf (some m0)), none, none] := hl
  refine lv_iconst (v := nI 0) hx hb d_M_spread_0 (by decide) ?_
  refine q_istore_n (i := 1) hx hb d_M_spread_1 rfl hl (by decide) (fun ls hl => ?_)
  simp only [List.set_cons_succ, List.set_cons_zero] at hl
  refine sp_1 hx hb hml hown hg hK hX hw hN (fb0 := fb) (z0 := it m0 0) ?_ (cn 4) 0 it fb s.heap [] ls _ (by omega) hM hi rfl (fun _ _ => rfl) (fun y hy => absurd hy (Nat.not_lt_zero y)) hl
  intro it1 fb1 H locs ls o1 o2 hM hi1 hz1 h1 h2 hl
  refine lv_iconst (v := bI true) hx hb d_M_spread_28 (by decide) ?_
  refine q_istore_n (i := 1) hx hb d_M_spread_29 rfl hl (by decide) (fun ls hl => ?_)
  simp only [List.set_cons_succ, List.set_cons_zero] at hl
  refine sp_out hx hb hml hown hg hK hX hw hL hN hlk (fb0 := fb) (z0 := it m0 0) ?_ (cn 4 + 1) it1 fb1 H locs ls _ (by omega) hM hi1 hz1 ⟨h1, fun x hx9 hx3 => by rw [h2 x hx9]; exact hx3, fun P p1 _ x hx9 hx5 => p1 x hx9 (by rw [← h2 x hx9]; exact hx5)⟩ hl
  intro it2 fb2 H locs ls hM hi2 hz2 hS2 hcl
  exact s_vret hx hb hr hM ⟨it2, fb2, rfl, hi2, hz2, hS2, hcl⟩ d_M_spread_100 hlocks
/-- findRings' flags: what isn't ringed is known not to be -/
def RgI (cn : Nat → Nat) (nA : Nat → Nat → Nat) (fb0 fb : Nat → Nat → Bool) : Prop := (∀ k, k ≠ 4 → fb k = fb0 k) ∧ (∀ x, cn 4 ≤ x → fb 4 x = fb0 4 x) ∧ ∀ P : Nat → Prop, (∀ x, x < cn 4 → (∀ k, k < cn 1 → nA 0 k = x → P (nA 1 k)) → P x) → ∀ x, x < cn 4 → fb 4 x = false → P x
theorem RgI_set {cn : Nat → Nat} {nA : Nat → Nat → Nat} {fb0 fb : Nat → Nat → Bool} (h : RgI cn nA fb0 fb) (hlk : ∀ k, k < cn 1 → nA 0 k < cn 4 ∧ nA 1 k < cn 4) {x : Nat} (hx : x < cn 4) (hf : ∀ k, k < cn 1 → nA 0 k = x → fb 4 (nA 1 k) = false) : RgI cn nA fb0 (up2 fb 4 x false) := by
  obtain ⟨h1, h2, h3⟩ := h
  refine ⟨fun j hj => by rw [up2_off _ _ hj]; exact h1 j hj, fun y hy => by rw [up2_ne _ _ (by omega)]; exact h2 y hy, fun P p y hy hy4 => ?_⟩
  by_cases e : y = x
  · rw [e]; exact p x hx (fun k hk ek => h3 P p _ (hlk k hk).2 (hf k hk ek))
  · rw [up2_ne _ _ e] at hy4; exact h3 P p y hy hy4
theorem up2_id {α : Type} {f : Nat → Nat → α} {a k : Nat} {v : α} (h : f a k = v) : up2 f a k v = f := by
  funext b j
  unfold up2
  by_cases e : b = a ∧ j = k
  · rw [if_pos e, e.1, e.2, h]
  · rw [if_neg e]
set_option maxHeartbeats 4000000 in
set_option maxRecDepth 100000 in
theorem fr_1 {p : Program} {l : Launch} {e : Env} {s : State} {m : MethodId} {args : Array Value} {below : List Frame} {meth : Method} {c : Code} {D : va_G} {dA : Nat → ClassId} {A : Nat → Prop} {Q : State → Prop} (hx : p.tables.exec = Jvm.exec) (hb : c.code = c_M_findRings) (hml : c.maxLocals = 5) (hown : s.vm.findClass R_M = some m.cls) (hg : ∀ w ∈ gd, w.before args s = true) (hK : va_K D cls (tys dA) s) (hX : sKx s) {R9 : Room} {kd : Nat → Option sK} {rf : Nat → Nat → Option Nat} {lg : Nat → Nat → Int64} {m0 : Nat} {ar cn : Nat → Nat} {nA : Nat → Nat → Nat} {fb0 : Nat → Nat → Bool} {z0 : Int32} (hw : Mw kd rf m0 ar) (hN : cn 4 < 8192)
    (kk : ∀ (it : Nat → Nat → Int32) (fb : Nat → Nat → Bool) (H : Heap) (locs : List Loc) (ls : Array Slot) (o1 o2 o3 o4 : Option Value), SW D dA A s.heap (kd, rf, it, lg) H locs → Mi it m0 ar cn nA fb → it m0 0 = z0 → (∀ k, k ≠ 4 → fb k = fb0 k) → (∀ x, cn 4 ≤ x → fb 4 x = fb0 4 x) → (∀ x, x < cn 4 → fb 4 x = true) → lc ls 5 [some (va_rf (some m0)), o1, o2, o3, o4] → W p l e R9 s m args below meth c H locs 0 0 Q (F0 m 23 ls [])) :
    ∀ (d x : Nat) (it : Nat → Nat → Int32) (fb : Nat → Nat → Bool) (H : Heap) (locs : List Loc) (ls : Array Slot) (o2 o3 o4 : Option Value), x + d = cn 4 → SW D dA A s.heap (kd, rf, it, lg) H locs → Mi it m0 ar cn nA fb → it m0 0 = z0 → (∀ k, k ≠ 4 → fb k = fb0 k) → (∀ x, cn 4 ≤ x → fb 4 x = fb0 4 x) → (∀ y, y < x → fb 4 y = true) → lc ls 5 [some (va_rf (some m0)), some (.int (nI x)), o2, o3, o4] → W p l e R9 s m args below meth c H locs 0 0 Q (F0 m 2 ls []) := by
  obtain ⟨km, ⟨r0, r1, r2, r3, r4, r5, r6, r7⟩, ⟨k0, k1, k2, k3, k4, k5, k6, k7⟩, hdis⟩ := id hw
  intro d
  induction d with
  | zero =>
    intro x it fb H locs ls o2 o3 o4 hd hM hi hz h1 h0 h2 hl
    have hx0 : x = cn 4 := by omega
    refine q_iload_n (i := 1) hx hb d_M_findRings_2 rfl hl rfl ?_
    refine q_al_n (i := 0) hx hb d_M_findRings_3 rfl hl rfl ?_
    refine s_geti (C := R_M) (T := F_M) (N := 13) (ci := 7) hx hb hg in_M hown hK hM km rfl 4 (by decide) rfl (hg _ kw_459) (fun _ h9 => h9) d_M_findRings_4 ?_
    rw [hi.N]
    refine n_ge (tgt := 23) hx hb d_M_findRings_7 (by decide) (by omega) (by omega) (fun c1 => ?_) (fun c1 => ?_)
    · exact kk it fb H locs ls _ _ _ _ hM hi hz h1 h0 (by rw [← hx0]; exact h2) hl
    · omega
  | succ d ih =>
    intro x it fb H locs ls o2 o3 o4 hd hM hi hz h1 h0 h2 hl
    have hx8 : x < 8192 := by omega
    refine q_iload_n (i := 1) hx hb d_M_findRings_2 rfl hl rfl ?_
    refine q_al_n (i := 0) hx hb d_M_findRings_3 rfl hl rfl ?_
    refine s_geti (C := R_M) (T := F_M) (N := 13) (ci := 7) hx hb hg in_M hown hK hM km rfl 4 (by decide) rfl (hg _ kw_459) (fun _ h9 => h9) d_M_findRings_4 ?_
    rw [hi.N]
    refine n_ge (tgt := 23) hx hb d_M_findRings_7 (by decide) (by omega) (by omega) (fun c1 => ?_) (fun c1 => ?_)
    · omega
    · refine q_al_n (i := 0) hx hb d_M_findRings_10 rfl hl rfl ?_
      refine s_getr (C := R_M) (T := F_M) (N := 13) (ci := 7) hx hb hg in_M hown hK hM km rfl 7 (by decide) rfl (hg _ kw_462) (fun _ h9 => h9) d_M_findRings_11 ?_
      rw [r4]
      refine q_iload_n (i := 1) hx hb d_M_findRings_14 rfl hl rfl ?_
      refine lv_iconst (v := bI true) hx hb d_M_findRings_15 (by decide) ?_
      refine s_zst (t := 4) hx hb hK hM k4 rfl rfl (bI_nar _) (vp_in_nI hx8 (by omega)) d_M_findRings_16 (fun H locs hM => ?_)
      rw [nI_clamp (by omega)] at hM
      have hi2 := Mi_b hw hi (i := 4) (by decide) x true
      refine q_iinc hx hb (nI (x + 1)) d_M_findRings_17 hl rfl (nI_1 x) (by decide) (fun ls hl => ?_)
      simp only [List.set_cons_succ, List.set_cons_zero] at hl
      refine lv_goto (tgt := 2) hx hb d_M_findRings_20 (by decide) ?_
      refine ih (x + 1) _ _ H locs ls _ _ _ (by omega) hM hi2 ?_ (fun k hk => by rw [up2_off _ _ hk]; exact h1 k hk) (fun y hy => by rw [up2_ne _ _ (by omega)]; exact h0 y hy) (fun y hy => ?_) hl
      · rw [up2_off _ _ (fun z => hw.nm (by decide) z.symm)]; exact hz
      · by_cases e : y = x
        · rw [e, up2_self]
        · rw [up2_ne _ _ e]; exact h2 y (by omega)
set_option maxHeartbeats 4000000 in
set_option maxRecDepth 100000 in
theorem fr_k {p : Program} {l : Launch} {e : Env} {s : State} {m : MethodId} {args : Array Value} {below : List Frame} {meth : Method} {c : Code} {D : va_G} {dA : Nat → ClassId} {A : Nat → Prop} {Q : State → Prop} (hx : p.tables.exec = Jvm.exec) (hb : c.code = c_M_findRings) (hml : c.maxLocals = 5) (hown : s.vm.findClass R_M = some m.cls) (hg : ∀ w ∈ gd, w.before args s = true) (hK : va_K D cls (tys dA) s) (hX : sKx s) {R9 : Room} {kd : Nat → Option sK} {rf : Nat → Nat → Option Nat} {lg : Nat → Nat → Int64} {it : Nat → Nat → Int32} {m0 : Nat} {ar cn : Nat → Nat} {nA : Nat → Nat → Nat} {fb : Nat → Nat → Bool} (hw : Mw kd rf m0 ar) (hi : Mi it m0 ar cn nA fb) (hL : cn 1 < 4096) (hN : cn 4 < 8192) (hlk : ∀ k, k < cn 1 → nA 0 k < cn 4 ∧ nA 1 k < cn 4) {x : Nat} (hx9 : x < cn 4) {mr : Bool} {H : Heap} {locs : List Loc} (hM : SW D dA A s.heap (kd, rf, it, lg) H locs)
    (kk : ∀ (fr : Bool) (ls : Array Slot) (o4 : Option Value), (fr = true → ∀ j, j < cn 1 → nA 0 j = x → fb 4 (nA 1 j) = false) → (fr = false → ∃ j, j < cn 1 ∧ nA 0 j = x ∧ fb 4 (nA 1 j) = true) → lc ls 5 [some (va_rf (some m0)), some (.int (bI mr)), some (.int (nI x)), some (.int (bI fr)), o4] → W p l e R9 s m args below meth c H locs 0 0 Q (F0 m 109 ls [])) :
    ∀ (d k : Nat) (fr : Bool) (ls : Array Slot), k + d = cn 1 → (fr = true → ∀ j, j < k → nA 0 j = x → fb 4 (nA 1 j) = false) → (fr = false → ∃ j, j < cn 1 ∧ nA 0 j = x ∧ fb 4 (nA 1 j) = true) → lc ls 5 [some (va_rf (some m0)), some (.int (bI mr)), some (.int (nI x)), some (.int (bI fr)), some (.int (nI k))] → W p l e R9 s m args below meth c H locs 0 0 Q (F0 m 58 ls []) := by
  obtain ⟨km, ⟨r0, r1, r2, r3, r4, r5, r6, r7⟩, ⟨k0, k1, k2, k3, k4, k5, k6, k7⟩, hdis⟩ := id hw
  intro d
  induction d with
  | zero =>
    intro k fr ls hd h1 h2 hl
    have hk0 : k = cn 1 := by omega
    refine q_iload hx hb d_M_findRings_58 hl rfl ?_
    refine q_al_n (i := 0) hx hb d_M_findRings_60 rfl hl rfl ?_
    refine s_geti (C := R_M) (T := F_M) (N := 13) (ci := 7) hx hb hg in_M hown hK hM km rfl 1 (by decide) rfl (hg _ kw_456) (fun _ h9 => h9) d_M_findRings_61 ?_
    rw [hi.L]
    refine n_ge (tgt := 109) hx hb d_M_findRings_64 (by decide) (by omega) (by omega) (fun c1 => ?_) (fun c1 => ?_)
    · exact kk fr ls _ (by rw [← hk0]; exact h1) h2 hl
    · omega
  | succ d ih =>
    intro k fr ls hd h1 h2 hl
    have hk1 : k < cn 1 := by omega
    have hk4 : k < 4096 := by omega
    obtain ⟨lk0, lk1⟩ := hlk k hk1
    have lk18 : nA 1 k < 8192 := by omega
    refine q_iload hx hb d_M_findRings_58 hl rfl ?_
    refine q_al_n (i := 0) hx hb d_M_findRings_60 rfl hl rfl ?_
    refine s_geti (C := R_M) (T := F_M) (N := 13) (ci := 7) hx hb hg in_M hown hK hM km rfl 1 (by decide) rfl (hg _ kw_456) (fun _ h9 => h9) d_M_findRings_61 ?_
    rw [hi.L]
    refine n_ge (tgt := 109) hx hb d_M_findRings_64 (by decide) (by omega) (by omega) (fun c1 => ?_) (fun c1 => ?_)
    · omega
    · refine q_iload_n (i := 3) hx hb d_M_findRings_67 rfl hl rfl ?_
      refine lv_if_eq (tgt := 109) hx hb d_M_findRings_68 (by decide) (fun c2 => ?_) (fun c2 => ?_)
      · have hf : fr = false := (bI_eq _).mp c2
        exact kk fr ls _ (fun z => by rw [hf] at z; cases z) h2 hl
      · have hf : fr = true := (bI_ne _).mp c2
        have nxt : ∀ (f2 : Bool), (f2 = true → nA 0 k = x → fb 4 (nA 1 k) = false) → (f2 = false → nA 0 k = x ∧ fb 4 (nA 1 k) = true) → W p l e R9 s m args below meth c H locs 0 0 Q (F0 m 102 ls [.int (bI f2)]) := by
          intro f2 q1 q2
          refine q_istore_n (i := 3) hx hb d_M_findRings_102 rfl hl (by decide) (fun ls hl => ?_)
          simp only [List.set_cons_succ, List.set_cons_zero] at hl
          refine q_iinc hx hb (nI (k + 1)) d_M_findRings_103 hl rfl (nI_1 k) (by decide) (fun ls hl => ?_)
          simp only [List.set_cons_succ, List.set_cons_zero] at hl
          refine lv_goto (tgt := 58) hx hb d_M_findRings_106 (by decide) ?_
          refine ih (k + 1) f2 ls (by omega) (fun z j hj ej => ?_) (fun z => ⟨k, hk1, q2 z⟩) hl
          by_cases e : j = k
          · rw [e] at ej ⊢; exact q1 z ej
          · exact h1 hf j (by omega) ej
        have one : (nA 0 k = x → fb 4 (nA 1 k) = false) → W p l e R9 s m args below meth c H locs 0 0 Q (F0 m 97 ls []) := by
          intro q
          refine lv_iconst (v := bI true) hx hb d_M_findRings_97 (by decide) ?_
          refine lv_goto (tgt := 102) hx hb d_M_findRings_98 (by decide) ?_
          exact nxt true (fun _ => q) (fun z => by cases z)
        refine q_al_n (i := 0) hx hb d_M_findRings_71 rfl hl rfl ?_
        refine s_getr (C := R_M) (T := F_M) (N := 13) (ci := 7) hx hb hg in_M hown hK hM km rfl 2 (by decide) rfl (hg _ kw_457) (fun _ h9 => h9) d_M_findRings_72 ?_
        rw [r0]
        refine q_iload hx hb d_M_findRings_75 hl rfl ?_
        refine s_ild (t := 0) hx hb hK hM k0 rfl rfl (vp_in_nI hk4 (by omega)) d_M_findRings_77 ?_
        rw [nI_clamp (by omega), hi.fr hk4]
        refine q_iload_n (i := 2) hx hb d_M_findRings_78 rfl hl rfl ?_
        refine n_ne (tgt := 97) hx hb d_M_findRings_79 (by decide) (by omega) (by omega) (fun c3 => ?_) (fun c3 => ?_)
        · exact one (fun z => absurd z c3)
        · refine q_al_n (i := 0) hx hb d_M_findRings_82 rfl hl rfl ?_
          refine s_getr (C := R_M) (T := F_M) (N := 13) (ci := 7) hx hb hg in_M hown hK hM km rfl 7 (by decide) rfl (hg _ kw_462) (fun _ h9 => h9) d_M_findRings_83 ?_
          rw [r4]
          refine q_al_n (i := 0) hx hb d_M_findRings_86 rfl hl rfl ?_
          refine s_getr (C := R_M) (T := F_M) (N := 13) (ci := 7) hx hb hg in_M hown hK hM km rfl 3 (by decide) rfl (hg _ kw_458) (fun _ h9 => h9) d_M_findRings_87 ?_
          rw [r1]
          refine q_iload hx hb d_M_findRings_90 hl rfl ?_
          refine s_ild (t := 0) hx hb hK hM k1 rfl rfl (vp_in_nI hk4 (by omega)) d_M_findRings_92 ?_
          rw [nI_clamp (by omega), hi.to hk4]
          refine s_zld (t := 4) hx hb hK hM k4 rfl rfl (vp_in_nI lk18 (by omega)) d_M_findRings_93 ?_
          rw [nI_clamp (by omega), hi.fl (k := 4) (by decide) (by decide) lk18]
          refine lv_if_ne (tgt := 101) hx hb d_M_findRings_94 (by decide) (fun c4 => ?_) (fun c4 => ?_)
          · refine lv_iconst (v := bI false) hx hb d_M_findRings_101 (by decide) ?_
            exact nxt false (fun z => by cases z) (fun _ => ⟨c3, (bI_ne _).mp c4⟩)
          · exact one (fun _ => (bI_eq _).mp c4)
set_option maxHeartbeats 4000000 in
set_option maxRecDepth 100000 in
theorem fr_in {p : Program} {l : Launch} {e : Env} {s : State} {m : MethodId} {args : Array Value} {below : List Frame} {meth : Method} {c : Code} {D : va_G} {dA : Nat → ClassId} {A : Nat → Prop} {Q : State → Prop} (hx : p.tables.exec = Jvm.exec) (hb : c.code = c_M_findRings) (hml : c.maxLocals = 5) (hown : s.vm.findClass R_M = some m.cls) (hg : ∀ w ∈ gd, w.before args s = true) (hK : va_K D cls (tys dA) s) (hX : sKx s) {R9 : Room} {kd : Nat → Option sK} {rf : Nat → Nat → Option Nat} {lg : Nat → Nat → Int64} {m0 : Nat} {ar cn : Nat → Nat} {nA : Nat → Nat → Nat} {fb0 : Nat → Nat → Bool} {z0 : Int32} (hw : Mw kd rf m0 ar) (hL : cn 1 < 4096) (hN : cn 4 < 8192) (hlk : ∀ k, k < cn 1 → nA 0 k < cn 4 ∧ nA 1 k < cn 4) {c0 : Nat}
    (kk : ∀ (it : Nat → Nat → Int32) (fb : Nat → Nat → Bool) (mr : Bool) (H : Heap) (locs : List Loc) (ls : Array Slot) (o2 o3 o4 : Option Value), SW D dA A s.heap (kd, rf, it, lg) H locs → Mi it m0 ar cn nA fb → it m0 0 = z0 → RgI cn nA fb0 fb → cB (fb 4) (cn 4) ≤ c0 → (mr = true → cB (fb 4) (cn 4) < c0) → (mr = false → ∀ y, y < cn 4 → fb 4 y = true → ∃ k, k < cn 1 ∧ nA 0 k = y ∧ fb 4 (nA 1 k) = true) → lc ls 5 [some (va_rf (some m0)), some (.int (bI mr)), o2, o3, o4] → W p l e R9 s m args below meth c H locs 0 0 Q (F0 m 144 ls [])) :
    ∀ (d x : Nat) (it : Nat → Nat → Int32) (fb : Nat → Nat → Bool) (mr : Bool) (H : Heap) (locs : List Loc) (ls : Array Slot) (o3 o4 : Option Value), x + d = cn 4 → SW D dA A s.heap (kd, rf, it, lg) H locs → Mi it m0 ar cn nA fb → it m0 0 = z0 → RgI cn nA fb0 fb → cB (fb 4) (cn 4) ≤ c0 → (mr = true → cB (fb 4) (cn 4) < c0) → (mr = false → ∀ y, y < x → fb 4 y = true → ∃ k, k < cn 1 ∧ nA 0 k = y ∧ fb 4 (nA 1 k) = true) → lc ls 5 [some (va_rf (some m0)), some (.int (bI mr)), some (.int (nI x)), o3, o4] → W p l e R9 s m args below meth c H locs 0 0 Q (F0 m 33 ls []) := by
  obtain ⟨km, ⟨r0, r1, r2, r3, r4, r5, r6, r7⟩, ⟨k0, k1, k2, k3, k4, k5, k6, k7⟩, hdis⟩ := id hw
  intro d
  induction d with
  | zero =>
    intro x it fb mr H locs ls o3 o4 hd hM hi hz hS h1 h2 h3 hl
    have hx0 : x = cn 4 := by omega
    refine q_iload_n (i := 2) hx hb d_M_findRings_33 rfl hl rfl ?_
    refine q_al_n (i := 0) hx hb d_M_findRings_34 rfl hl rfl ?_
    refine s_geti (C := R_M) (T := F_M) (N := 13) (ci := 7) hx hb hg in_M hown hK hM km rfl 4 (by decide) rfl (hg _ kw_459) (fun _ h9 => h9) d_M_findRings_35 ?_
    rw [hi.N]
    refine n_ge (tgt := 144) hx hb d_M_findRings_38 (by decide) (by omega) (by omega) (fun c1 => ?_) (fun c1 => ?_)
    · exact kk it fb mr H locs ls _ _ _ hM hi hz hS h1 h2 (by rw [← hx0]; exact h3) hl
    · omega
  | succ d ih =>
    intro x it fb mr H locs ls o3 o4 hd hM hi hz hS h1 h2 h3 hl
    have hxN : x < cn 4 := by omega
    have hx8 : x < 8192 := by omega
    have nxt : ∀ (it : Nat → Nat → Int32) (fb : Nat → Nat → Bool) (mr : Bool) (H : Heap) (locs : List Loc) (ls : Array Slot) (o3 o4 : Option Value), SW D dA A s.heap (kd, rf, it, lg) H locs → Mi it m0 ar cn nA fb → it m0 0 = z0 → RgI cn nA fb0 fb → cB (fb 4) (cn 4) ≤ c0 → (mr = true → cB (fb 4) (cn 4) < c0) → (mr = false → ∀ y, y < (x + 1) → fb 4 y = true → ∃ k, k < cn 1 ∧ nA 0 k = y ∧ fb 4 (nA 1 k) = true) → lc ls 5 [some (va_rf (some m0)), some (.int (bI mr)), some (.int (nI x)), o3, o4] → W p l e R9 s m args below meth c H locs 0 0 Q (F0 m 138 ls []) := by
      intro it fb mr H locs ls o3 o4 hM hi hz hS h1 h2 h3 hl
      refine q_iinc hx hb (nI (x + 1)) d_M_findRings_138 hl rfl (nI_1 x) (by decide) (fun ls hl => ?_)
      simp only [List.set_cons_succ, List.set_cons_zero] at hl
      refine lv_goto (tgt := 33) hx hb d_M_findRings_141 (by decide) ?_
      exact ih (x + 1) it fb mr H locs ls _ _ (by omega) hM hi hz hS h1 h2 h3 hl
    refine q_iload_n (i := 2) hx hb d_M_findRings_33 rfl hl rfl ?_
    refine q_al_n (i := 0) hx hb d_M_findRings_34 rfl hl rfl ?_
    refine s_geti (C := R_M) (T := F_M) (N := 13) (ci := 7) hx hb hg in_M hown hK hM km rfl 4 (by decide) rfl (hg _ kw_459) (fun _ h9 => h9) d_M_findRings_35 ?_
    rw [hi.N]
    refine n_ge (tgt := 144) hx hb d_M_findRings_38 (by decide) (by omega) (by omega) (fun c1 => ?_) (fun c1 => ?_)
    · omega
    · refine q_al_n (i := 0) hx hb d_M_findRings_41 rfl hl rfl ?_
      refine s_getr (C := R_M) (T := F_M) (N := 13) (ci := 7) hx hb hg in_M hown hK hM km rfl 7 (by decide) rfl (hg _ kw_462) (fun _ h9 => h9) d_M_findRings_42 ?_
      rw [r4]
      refine q_iload_n (i := 2) hx hb d_M_findRings_45 rfl hl rfl ?_
      refine s_zld (t := 4) hx hb hK hM k4 rfl rfl (vp_in_nI hx8 (by omega)) d_M_findRings_46 ?_
      rw [nI_clamp (by omega), hi.fl (k := 4) (by decide) (by decide) hx8]
      refine lv_if_ne (tgt := 53) hx hb d_M_findRings_47 (by decide) (fun c2 => ?_) (fun c2 => ?_)
      · have hr4 : fb 4 x = true := (bI_ne _).mp c2
        refine lv_iconst (v := bI true) hx hb d_M_findRings_53 (by decide) ?_
        refine q_istore_n (i := 3) hx hb d_M_findRings_54 rfl hl (by decide) (fun ls hl => ?_)
        simp only [List.set_cons_succ, List.set_cons_zero] at hl
        refine lv_iconst (v := nI 0) hx hb d_M_findRings_55 (by decide) ?_
        refine q_istore hx hb d_M_findRings_56 hl (by decide) (fun ls hl => ?_)
        simp only [List.set_cons_succ, List.set_cons_zero] at hl
        refine fr_k hx hb hml hown hg hK hX hw hi hL hN hlk hxN hM ?_ (cn 1) 0 true ls (by omega) (fun _ j hj => absurd hj (Nat.not_lt_zero j)) (fun z => by cases z) hl
        intro fr ls o4 q1 q2 hl
        cases fr with
        | true =>
          refine q_al_n (i := 0) hx hb d_M_findRings_109 rfl hl rfl ?_
          refine s_getr (C := R_M) (T := F_M) (N := 13) (ci := 7) hx hb hg in_M hown hK hM km rfl 7 (by decide) rfl (hg _ kw_462) (fun _ h9 => h9) d_M_findRings_110 ?_
          rw [r4]
          refine q_iload_n (i := 2) hx hb d_M_findRings_113 rfl hl rfl ?_
          refine q_iload_n (i := 3) hx hb d_M_findRings_114 rfl hl rfl ?_
          refine lv_if_ne (tgt := 122) hx hb d_M_findRings_115 (by decide) (fun c3 => ?_) (fun c3 => ?_)
          · refine lv_iconst (v := bI false) hx hb d_M_findRings_122 (by decide) ?_
            refine s_zst (t := 4) hx hb hK hM k4 rfl rfl (bI_nar _) (vp_in_nI hx8 (by omega)) d_M_findRings_123 (fun H locs hM => ?_)
            rw [nI_clamp (by omega)] at hM
            have hi2 := Mi_b hw hi (i := 4) (by decide) x false
            have hup := (cB_up (f := fb 4) (g := up2 fb 4 x false 4) (x := x) (fun j hj => up2_ne _ _ hj) (cn 4)).2 hxN
            rw [hr4, up2_self] at hup
            simp only [Bool.false_eq_true, if_false, if_true] at hup
            have hz2 : up2 it (ar 4) x (bI false) m0 0 = z0 := by rw [up2_off _ _ (fun z => hw.nm (by decide) z.symm)]; exact hz
            have fin : W p l e R9 s m args below meth c H locs 0 0 Q (F0 m 132 ls []) := by
              refine lv_iconst (v := bI true) hx hb d_M_findRings_132 (by decide) ?_
              refine lv_goto (tgt := 137) hx hb d_M_findRings_133 (by decide) ?_
              refine q_istore_n (i := 1) hx hb d_M_findRings_137 rfl hl (by decide) (fun ls hl => ?_)
              simp only [List.set_cons_succ, List.set_cons_zero] at hl
              exact nxt _ _ true H locs _ _ _ hM hi2 hz2 (RgI_set hS hlk hxN (q1 rfl)) (by omega) (fun _ => by omega) (fun z => by cases z) hl
            refine q_iload_n (i := 1) hx hb d_M_findRings_124 rfl hl rfl ?_
            refine lv_if_ne (tgt := 132) hx hb d_M_findRings_125 (by decide) (fun c4 => ?_) (fun c4 => ?_)
            · exact fin
            · refine q_iload_n (i := 3) hx hb d_M_findRings_128 rfl hl rfl ?_
              refine lv_if_eq (tgt := 136) hx hb d_M_findRings_129 (by decide) (fun c5 => ?_) (fun c5 => ?_)
              · exact absurd c5 (by decide)
              · exact fin
          · exact absurd c3 (by decide)
        | false =>
          refine q_al_n (i := 0) hx hb d_M_findRings_109 rfl hl rfl ?_
          refine s_getr (C := R_M) (T := F_M) (N := 13) (ci := 7) hx hb hg in_M hown hK hM km rfl 7 (by decide) rfl (hg _ kw_462) (fun _ h9 => h9) d_M_findRings_110 ?_
          rw [r4]
          refine q_iload_n (i := 2) hx hb d_M_findRings_113 rfl hl rfl ?_
          refine q_iload_n (i := 3) hx hb d_M_findRings_114 rfl hl rfl ?_
          refine lv_if_ne (tgt := 122) hx hb d_M_findRings_115 (by decide) (fun c3 => ?_) (fun c3 => ?_)
          · exact absurd rfl c3
          · refine lv_iconst (v := bI true) hx hb d_M_findRings_118 (by decide) ?_
            refine lv_goto (tgt := 123) hx hb d_M_findRings_119 (by decide) ?_
            refine s_zst (t := 4) hx hb hK hM k4 rfl rfl (bI_nar _) (vp_in_nI hx8 (by omega)) d_M_findRings_123 (fun H locs hM => ?_)
            rw [nI_clamp (by omega)] at hM
            have hi2 := Mi_b hw hi (i := 4) (by decide) x true
            rw [up2_id (f := fb) hr4] at hi2
            have hz2 : up2 it (ar 4) x (bI true) m0 0 = z0 := by rw [up2_off _ _ (fun z => hw.nm (by decide) z.symm)]; exact hz
            have h3' : mr = false → ∀ y, y < x + 1 → fb 4 y = true → ∃ k, k < cn 1 ∧ nA 0 k = y ∧ fb 4 (nA 1 k) = true := by
              intro z y hy hy4
              by_cases e : y = x
              · rw [e]; exact q2 rfl
              · exact h3 z y (by omega) hy4
            refine q_iload_n (i := 1) hx hb d_M_findRings_124 rfl hl rfl ?_
            refine lv_if_ne (tgt := 132) hx hb d_M_findRings_125 (by decide) (fun c4 => ?_) (fun c4 => ?_)
            · have hmr : mr = true := (bI_ne _).mp c4
              refine lv_iconst (v := bI true) hx hb d_M_findRings_132 (by decide) ?_
              refine lv_goto (tgt := 137) hx hb d_M_findRings_133 (by decide) ?_
              refine q_istore_n (i := 1) hx hb d_M_findRings_137 rfl hl (by decide) (fun ls hl => ?_)
              simp only [List.set_cons_succ, List.set_cons_zero] at hl
              rw [hmr] at h2 h3'
              exact nxt _ _ true H locs _ _ _ hM hi2 hz2 hS h1 h2 h3' hl
            · have hmr : mr = false := (bI_eq _).mp c4
              refine q_iload_n (i := 3) hx hb d_M_findRings_128 rfl hl rfl ?_
              refine lv_if_eq (tgt := 136) hx hb d_M_findRings_129 (by decide) (fun c5 => ?_) (fun c5 => ?_)
              · refine lv_iconst (v := bI false) hx hb d_M_findRings_136 (by decide) ?_
                refine q_istore_n (i := 1) hx hb d_M_findRings_137 rfl hl (by decide) (fun ls hl => ?_)
                simp only [List.set_cons_succ, List.set_cons_zero] at hl
                rw [hmr] at h2 h3'
                exact nxt _ _ false H locs _ _ _ hM hi2 hz2 hS h1 h2 h3' hl
              · exact absurd rfl c5
      · refine lv_goto (tgt := 138) hx hb d_M_findRings_50 (by decide) ?_
        refine nxt it fb mr H locs ls _ _ hM hi hz hS h1 h2 (fun z y hy hy4 => ?_) hl
        by_cases e : y = x
        · rw [e, (bI_eq _).mp c2] at hy4; cases hy4
        · exact h3 z y (by omega) hy4
set_option maxHeartbeats 4000000 in
set_option maxRecDepth 100000 in
theorem fr_out {p : Program} {l : Launch} {e : Env} {s : State} {m : MethodId} {args : Array Value} {below : List Frame} {meth : Method} {c : Code} {D : va_G} {dA : Nat → ClassId} {A : Nat → Prop} {Q : State → Prop} (hx : p.tables.exec = Jvm.exec) (hb : c.code = c_M_findRings) (hml : c.maxLocals = 5) (hown : s.vm.findClass R_M = some m.cls) (hg : ∀ w ∈ gd, w.before args s = true) (hK : va_K D cls (tys dA) s) (hX : sKx s) {R9 : Room} {kd : Nat → Option sK} {rf : Nat → Nat → Option Nat} {lg : Nat → Nat → Int64} {m0 : Nat} {ar cn : Nat → Nat} {nA : Nat → Nat → Nat} {fb0 : Nat → Nat → Bool} {z0 : Int32} (hw : Mw kd rf m0 ar) (hL : cn 1 < 4096) (hN : cn 4 < 8192) (hlk : ∀ k, k < cn 1 → nA 0 k < cn 4 ∧ nA 1 k < cn 4)
    (kk : ∀ (it : Nat → Nat → Int32) (fb : Nat → Nat → Bool) (H : Heap) (locs : List Loc) (ls : Array Slot), SW D dA A s.heap (kd, rf, it, lg) H locs → Mi it m0 ar cn nA fb → it m0 0 = z0 → RgI cn nA fb0 fb → (∀ y, y < cn 4 → fb 4 y = true → ∃ k, k < cn 1 ∧ nA 0 k = y ∧ fb 4 (nA 1 k) = true) → W p l e R9 s m args below meth c H locs 0 0 Q (F0 m 147 ls [])) :
    ∀ (d : Nat) (it : Nat → Nat → Int32) (fb : Nat → Nat → Bool) (H : Heap) (locs : List Loc) (ls : Array Slot) (o2 o3 o4 : Option Value), cB (fb 4) (cn 4) < d → SW D dA A s.heap (kd, rf, it, lg) H locs → Mi it m0 ar cn nA fb → it m0 0 = z0 → RgI cn nA fb0 fb → lc ls 5 [some (va_rf (some m0)), some (.int (bI true)), o2, o3, o4] → W p l e R9 s m args below meth c H locs 0 0 Q (F0 m 25 ls []) := by
  intro d
  induction d with
  | zero =>
    intro it fb H locs ls o2 o3 o4 hd
    exact absurd hd (Nat.not_lt_zero _)
  | succ d ih =>
    intro it fb H locs ls o2 o3 o4 hd hM hi hz hS hl
    refine q_iload_n (i := 1) hx hb d_M_findRings_25 rfl hl rfl ?_
    refine lv_if_eq (tgt := 147) hx hb d_M_findRings_26 (by decide) (fun c1 => ?_) (fun c1 => ?_)
    · exact absurd c1 (by decide)
    · refine lv_iconst (v := bI false) hx hb d_M_findRings_29 (by decide) ?_
      refine q_istore_n (i := 1) hx hb d_M_findRings_30 rfl hl (by decide) (fun ls hl => ?_)
      simp only [List.set_cons_succ, List.set_cons_zero] at hl
      refine lv_iconst (v := nI 0) hx hb d_M_findRings_31 (by decide) ?_
      refine q_istore_n (i := 2) hx hb d_M_findRings_32 rfl hl (by decide) (fun ls hl => ?_)
      simp only [List.set_cons_succ, List.set_cons_zero] at hl
      refine fr_in hx hb hml hown hg hK hX hw hL hN hlk (c0 := cB (fb 4) (cn 4)) ?_ (cn 4) 0 it fb false H locs ls _ _ (by omega) hM hi hz hS (Nat.le_refl _) (fun z => by cases z) (fun _ j hj => absurd hj (Nat.not_lt_zero j)) hl
      intro it2 fb2 mr H locs ls o2 o3 o4 hM hi2 hz2 hS2 h1 h2 h3 hl
      refine lv_goto (tgt := 25) hx hb d_M_findRings_144 (by decide) ?_
      cases mr with
      | false =>
        refine q_iload_n (i := 1) hx hb d_M_findRings_25 rfl hl rfl ?_
        refine lv_if_eq (tgt := 147) hx hb d_M_findRings_26 (by decide) (fun c2 => ?_) (fun c2 => ?_)
        · exact kk it2 fb2 H locs ls hM hi2 hz2 hS2 (h3 rfl)
        · exact absurd rfl c2
      | true =>
        have := h2 rfl
        exact ih it2 fb2 H locs ls _ _ _ (by omega) hM hi2 hz2 hS2 hl
set_option maxHeartbeats 4000000 in
set_option maxRecDepth 100000 in
theorem m_M_findRings (l : Launch) (D : va_G) (dA : Nat → ClassId) (S : sS) (sz : Nat) (m0 : Nat) (ar cn : Nat → Nat) (nA : Nat → Nat → Nat) (fb : Nat → Nat → Bool) (hw : Mw S.1 S.2.1 m0 ar) (hi : Mi S.2.2.1 m0 ar cn nA fb) (hL : cn 1 < 4096) (hN : cn 4 < 8192) (hlk : ∀ k, k < cn 1 → nA 0 k < cn 4 ∧ nA 1 k < cn 4) :
    cV l y_M_findRings c_M_findRings 5 (rmk 0 0 0) D dA S sz [.ref m0] (fun u => ∃ it' fb', u = (S.1, S.2.1, it', S.2.2.2) ∧ Mi it' m0 ar cn nA fb' ∧ it' m0 0 = S.2.2.1 m0 0 ∧ RgI cn nA fb fb' ∧ ∀ y, y < cn 4 → fb' 4 y = true → ∃ k, k < cn 1 ∧ nA 0 k = y ∧ fb' 4 (nA 1 k) = true) (0) (0) := by
  obtain ⟨kd, rf, it, lg⟩ := S
  obtain ⟨km, ⟨r0, r1, r2, r3, r4, r5, r6, r7⟩, ⟨k0, k1, k2, k3, k4, k5, k6, k7⟩, hdis⟩ := id hw
  dsimp only at km r0 r1 r2 r3 r4 r5 r6 r7 k0 k1 k2 k3 k4 k5 k6 k7 hi hw
  refine s_met (cc := c_M_findRings) (maxL := 5) (by decide) rfl (by simp [Value.category]) (by simp [lg_sl, Value.category]) ?_
  intro p e s m args below meth c ls hx hb hr hts hown hlocks hin hml hK hX hsz hM hl
  have hg := gd_hts hts
  have hl : lc ls 5 [some (va_rf (some m0)), none, none, none, none] := hl
  refine lv_iconst (v := nI 0) hx hb d_M_findRings_0 (by decide) ?_
  refine q_istore_n (i := 1) hx hb d_M_findRings_1 rfl hl (by decide) (fun ls hl => ?_)
  simp only [List.set_cons_succ, List.set_cons_zero] at hl
  refine fr_1 hx hb hml hown hg hK hX hw hN (fb0 := fb) (z0 := it m0 0) ?_ (cn 4) 0 it fb s.heap [] ls _ _ _ (by omega) hM hi rfl (fun _ _ => rfl) (fun _ _ => rfl) (fun y hy => absurd hy (Nat.not_lt_zero y)) hl
  intro it1 fb1 H locs ls o1 o2 o3 o4 hM hi1 hz1 h1 h0 h2 hl
  refine lv_iconst (v := bI true) hx hb d_M_findRings_23 (by decide) ?_
  refine q_istore_n (i := 1) hx hb d_M_findRings_24 rfl hl (by decide) (fun ls hl => ?_)
  simp only [List.set_cons_succ, List.set_cons_zero] at hl
  refine fr_out hx hb hml hown hg hK hX hw hL hN hlk (fb0 := fb) (z0 := it m0 0) ?_ (cn 4 + 1) it1 fb1 H locs ls _ _ _ (Nat.lt_succ_of_le (cB_le _ _)) hM hi1 hz1 ⟨h1, h0, fun P p x hx9 hx4 => by rw [h2 x hx9] at hx4; cases hx4⟩ hl
  intro it2 fb2 H locs ls hM hi2 hz2 hS2 hcl
  exact s_vret hx hb hr hM ⟨it2, fb2, rfl, hi2, hz2, hS2, hcl⟩ d_M_findRings_147 hlocks
/-- x is ready -/
def Rd (cn : Nat → Nat) (nA : Nat → Nat → Nat) (fb : Nat → Nat → Bool) (L x : Nat) : Prop := fb 5 x = true ∧ fb 4 x = false ∧ fb 6 x = false ∧ ∀ j, j < L → nA 0 j = x → fb 5 (nA 1 j) = false ∨ fb 6 (nA 1 j) = true
set_option maxHeartbeats 4000000 in
set_option maxRecDepth 100000 in
theorem ir_loop {p : Program} {l : Launch} {e : Env} {s : State} {m : MethodId} {args : Array Value} {below : List Frame} {meth : Method} {c : Code} {D : va_G} {dA : Nat → ClassId} {A : Nat → Prop} {Q : State → Prop} (hx : p.tables.exec = Jvm.exec) (hb : c.code = c_M_isReady) (hml : c.maxLocals = 4) (hown : s.vm.findClass R_M = some m.cls) (hg : ∀ w ∈ gd, w.before args s = true) (hK : va_K D cls (tys dA) s) (hX : sKx s) {R9 : Room} {kd : Nat → Option sK} {rf : Nat → Nat → Option Nat} {lg : Nat → Nat → Int64} {it : Nat → Nat → Int32} {m0 : Nat} {ar cn : Nat → Nat} {nA : Nat → Nat → Nat} {fb : Nat → Nat → Bool} (hw : Mw kd rf m0 ar) (hi : Mi it m0 ar cn nA fb) (hL : cn 1 < 4096) (hN : cn 4 < 8192) (hlk : ∀ k, k < cn 1 → nA 0 k < cn 4 ∧ nA 1 k < cn 4) {x : Nat} (hx9 : x < cn 4) {H : Heap} {locs : List Loc} (hM : SW D dA A s.heap (kd, rf, it, lg) H locs)
    (kk : ∀ (rdy : Bool) (ls : Array Slot) (o : Option Value), (rdy = true → Rd cn nA fb (cn 1) x) → (rdy = false → ¬ Rd cn nA fb (cn 1) x) → lc ls 4 [some (va_rf (some m0)), some (.int (nI x)), some (.int (bI rdy)), o] → W p l e R9 s m args below meth c H locs 0 0 Q (F0 m 97 ls [])) :
    ∀ (d k : Nat) (rdy : Bool) (ls : Array Slot), k + d = cn 1 → (rdy = true → Rd cn nA fb k x) → (rdy = false → ¬ Rd cn nA fb (cn 1) x) → lc ls 4 [some (va_rf (some m0)), some (.int (nI x)), some (.int (bI rdy)), some (.int (nI k))] → W p l e R9 s m args below meth c H locs 0 0 Q (F0 m 35 ls []) := by
  obtain ⟨km, ⟨r0, r1, r2, r3, r4, r5, r6, r7⟩, ⟨k0, k1, k2, k3, k4, k5, k6, k7⟩, hdis⟩ := id hw
  intro d
  induction d with
  | zero =>
    intro k rdy ls hd h1 h2 hl
    have hk0 : k = cn 1 := by omega
    refine q_iload_n (i := 3) hx hb d_M_isReady_35 rfl hl rfl ?_
    refine q_al_n (i := 0) hx hb d_M_isReady_36 rfl hl rfl ?_
    refine s_geti (C := R_M) (T := F_M) (N := 13) (ci := 7) hx hb hg in_M hown hK hM km rfl 1 (by decide) rfl (hg _ kw_456) (fun _ h9 => h9) d_M_isReady_37 ?_
    rw [hi.L]
    refine n_ge (tgt := 97) hx hb d_M_isReady_40 (by decide) (by omega) (by omega) (fun c1 => ?_) (fun c1 => ?_)
    · exact kk rdy ls _ (by rw [← hk0]; exact h1) h2 hl
    · omega
  | succ d ih =>
    intro k rdy ls hd h1 h2 hl
    have hk1 : k < cn 1 := by omega
    have hk4 : k < 4096 := by omega
    obtain ⟨lk0, lk1⟩ := hlk k hk1
    have lk18 : nA 1 k < 8192 := by omega
    refine q_iload_n (i := 3) hx hb d_M_isReady_35 rfl hl rfl ?_
    refine q_al_n (i := 0) hx hb d_M_isReady_36 rfl hl rfl ?_
    refine s_geti (C := R_M) (T := F_M) (N := 13) (ci := 7) hx hb hg in_M hown hK hM km rfl 1 (by decide) rfl (hg _ kw_456) (fun _ h9 => h9) d_M_isReady_37 ?_
    rw [hi.L]
    refine n_ge (tgt := 97) hx hb d_M_isReady_40 (by decide) (by omega) (by omega) (fun c1 => ?_) (fun c1 => ?_)
    · omega
    · refine q_iload_n (i := 2) hx hb d_M_isReady_43 rfl hl rfl ?_
      refine lv_if_eq (tgt := 97) hx hb d_M_isReady_44 (by decide) (fun c2 => ?_) (fun c2 => ?_)
      · have hf : rdy = false := (bI_eq _).mp c2
        exact kk rdy ls _ (fun z => by rw [hf] at z; cases z) h2 hl
      · have hf : rdy = true := (bI_ne _).mp c2
        have nxt : ∀ (f2 : Bool), (f2 = true → nA 0 k = x → fb 5 (nA 1 k) = false ∨ fb 6 (nA 1 k) = true) → (f2 = false → nA 0 k = x ∧ fb 5 (nA 1 k) = true ∧ fb 6 (nA 1 k) = false) → W p l e R9 s m args below meth c H locs 0 0 Q (F0 m 90 ls [.int (bI f2)]) := by
          intro f2 q1 q2
          refine q_istore_n (i := 2) hx hb d_M_isReady_90 rfl hl (by decide) (fun ls hl => ?_)
          simp only [List.set_cons_succ, List.set_cons_zero] at hl
          refine q_iinc hx hb (nI (k + 1)) d_M_isReady_91 hl rfl (nI_1 k) (by decide) (fun ls hl => ?_)
          simp only [List.set_cons_succ, List.set_cons_zero] at hl
          refine lv_goto (tgt := 35) hx hb d_M_isReady_94 (by decide) ?_
          refine ih (k + 1) f2 ls (by omega) (fun z => ?_) (fun z hR => ?_) hl
          · obtain ⟨p1, p2, p3, p4⟩ := h1 hf
            refine ⟨p1, p2, p3, fun j hj ej => ?_⟩
            by_cases e : j = k
            · rw [e] at ej ⊢; exact q1 z ej
            · exact p4 j (by omega) ej
          · obtain ⟨e1, e2, e3⟩ := q2 z
            rcases hR.2.2.2 k hk1 e1 with y | y
            · rw [e2] at y; cases y
            · rw [e3] at y; cases y
        have one : (nA 0 k = x → fb 5 (nA 1 k) = false ∨ fb 6 (nA 1 k) = true) → W p l e R9 s m args below meth c H locs 0 0 Q (F0 m 85 ls []) := by
          intro q
          refine lv_iconst (v := bI true) hx hb d_M_isReady_85 (by decide) ?_
          refine lv_goto (tgt := 90) hx hb d_M_isReady_86 (by decide) ?_
          exact nxt true (fun _ => q) (fun z => by cases z)
        refine q_al_n (i := 0) hx hb d_M_isReady_47 rfl hl rfl ?_
        refine s_getr (C := R_M) (T := F_M) (N := 13) (ci := 7) hx hb hg in_M hown hK hM km rfl 2 (by decide) rfl (hg _ kw_457) (fun _ h9 => h9) d_M_isReady_48 ?_
        rw [r0]
        refine q_iload_n (i := 3) hx hb d_M_isReady_51 rfl hl rfl ?_
        refine s_ild (t := 0) hx hb hK hM k0 rfl rfl (vp_in_nI hk4 (by omega)) d_M_isReady_52 ?_
        rw [nI_clamp (by omega), hi.fr hk4]
        refine q_iload_n (i := 1) hx hb d_M_isReady_53 rfl hl rfl ?_
        refine n_ne (tgt := 85) hx hb d_M_isReady_54 (by decide) (by omega) (by omega) (fun c3 => ?_) (fun c3 => ?_)
        · exact one (fun z => absurd z c3)
        · refine q_al_n (i := 0) hx hb d_M_isReady_57 rfl hl rfl ?_
          refine s_getr (C := R_M) (T := F_M) (N := 13) (ci := 7) hx hb hg in_M hown hK hM km rfl 8 (by decide) rfl (hg _ kw_463) (fun _ h9 => h9) d_M_isReady_58 ?_
          rw [r5]
          refine q_al_n (i := 0) hx hb d_M_isReady_61 rfl hl rfl ?_
          refine s_getr (C := R_M) (T := F_M) (N := 13) (ci := 7) hx hb hg in_M hown hK hM km rfl 3 (by decide) rfl (hg _ kw_458) (fun _ h9 => h9) d_M_isReady_62 ?_
          rw [r1]
          refine q_iload_n (i := 3) hx hb d_M_isReady_65 rfl hl rfl ?_
          refine s_ild (t := 0) hx hb hK hM k1 rfl rfl (vp_in_nI hk4 (by omega)) d_M_isReady_66 ?_
          rw [nI_clamp (by omega), hi.to hk4]
          refine s_zld (t := 4) hx hb hK hM k5 rfl rfl (vp_in_nI lk18 (by omega)) d_M_isReady_67 ?_
          rw [nI_clamp (by omega), hi.fl (k := 5) (by decide) (by decide) lk18]
          refine lv_if_eq (tgt := 85) hx hb d_M_isReady_68 (by decide) (fun c4 => ?_) (fun c4 => ?_)
          · exact one (fun _ => Or.inl ((bI_eq _).mp c4))
          · refine q_al_n (i := 0) hx hb d_M_isReady_71 rfl hl rfl ?_
            refine s_getr (C := R_M) (T := F_M) (N := 13) (ci := 7) hx hb hg in_M hown hK hM km rfl 9 (by decide) rfl (hg _ kw_464) (fun _ h9 => h9) d_M_isReady_72 ?_
            rw [r6]
            refine q_al_n (i := 0) hx hb d_M_isReady_75 rfl hl rfl ?_
            refine s_getr (C := R_M) (T := F_M) (N := 13) (ci := 7) hx hb hg in_M hown hK hM km rfl 3 (by decide) rfl (hg _ kw_458) (fun _ h9 => h9) d_M_isReady_76 ?_
            rw [r1]
            refine q_iload_n (i := 3) hx hb d_M_isReady_79 rfl hl rfl ?_
            refine s_ild (t := 0) hx hb hK hM k1 rfl rfl (vp_in_nI hk4 (by omega)) d_M_isReady_80 ?_
            rw [nI_clamp (by omega), hi.to hk4]
            refine s_zld (t := 4) hx hb hK hM k6 rfl rfl (vp_in_nI lk18 (by omega)) d_M_isReady_81 ?_
            rw [nI_clamp (by omega), hi.fl (k := 6) (by decide) (by decide) lk18]
            refine lv_if_eq (tgt := 89) hx hb d_M_isReady_82 (by decide) (fun c5 => ?_) (fun c5 => ?_)
            · refine lv_iconst (v := bI false) hx hb d_M_isReady_89 (by decide) ?_
              exact nxt false (fun z => by cases z) (fun _ => ⟨c3, (bI_ne _).mp c4, (bI_eq _).mp c5⟩)
            · exact one (fun _ => Or.inr ((bI_ne _).mp c5))
set_option maxHeartbeats 4000000 in
set_option maxRecDepth 100000 in
theorem m_M_isReady (l : Launch) (D : va_G) (dA : Nat → ClassId) (S : sS) (sz : Nat) (m0 : Nat) (ar cn : Nat → Nat) (nA : Nat → Nat → Nat) (fb : Nat → Nat → Bool) (x : Nat) (hw : Mw S.1 S.2.1 m0 ar) (hi : Mi S.2.2.1 m0 ar cn nA fb) (hL : cn 1 < 4096) (hN : cn 4 < 8192) (hlk : ∀ k, k < cn 1 → nA 0 k < cn 4 ∧ nA 1 k < cn 4) (hx9 : x < cn 4) :
    cI l y_M_isReady c_M_isReady 4 (some .boolean) (rmk 0 0 0) D dA S sz [.ref m0, .int (nI x)] (fun r u => u = S ∧ ((r = 1 ∧ Rd cn nA fb (cn 1) x) ∨ (r = 0 ∧ ¬ Rd cn nA fb (cn 1) x))) (0) (0) := by
  obtain ⟨kd, rf, it, lg⟩ := S
  obtain ⟨km, ⟨r0, r1, r2, r3, r4, r5, r6, r7⟩, ⟨k0, k1, k2, k3, k4, k5, k6, k7⟩, hdis⟩ := id hw
  dsimp only at km r0 r1 r2 r3 r4 r5 r6 r7 k0 k1 k2 k3 k4 k5 k6 k7 hi hw
  have hx8 : x < 8192 := by omega
  refine s_met (cc := c_M_isReady) (maxL := 4) (by decide) rfl (by simp [Value.category]) (by simp [lg_sl, Value.category]) ?_
  intro p e s m args below meth c ls hx hb hr hts hown hlocks hin hml hK hX hsz hM hl
  have hg := gd_hts hts
  have hl : lc ls 4 [some (va_rf (some m0)), some (.int (nI x)), none, none] := hl
  have go : ∀ (rdy : Bool), (rdy = true → Rd cn nA fb 0 x) → (rdy = false → ¬ Rd cn nA fb (cn 1) x) → W p l e (rmk 0 0 0) s m args below meth c s.heap [] 0 0 (MQ below (va_Qi (fun r u => u = (kd, rf, it, lg) ∧ ((r = 1 ∧ Rd cn nA fb (cn 1) x) ∨ (r = 0 ∧ ¬ Rd cn nA fb (cn 1) x))) (SB D dA (kd, rf, it, lg) sz) (sA (kd, rf, it, lg) sz)) args s 0 0 (sA (kd, rf, it, lg) sz)) (F0 m 32 ls [.int (bI rdy)]) := by
    intro rdy q1 q2
    refine q_istore_n (i := 2) hx hb d_M_isReady_32 rfl hl (by decide) (fun ls hl => ?_)
    simp only [List.set_cons_succ, List.set_cons_zero] at hl
    refine lv_iconst (v := nI 0) hx hb d_M_isReady_33 (by decide) ?_
    refine q_istore_n (i := 3) hx hb d_M_isReady_34 rfl hl (by decide) (fun ls hl => ?_)
    simp only [List.set_cons_succ, List.set_cons_zero] at hl
    refine ir_loop hx hb hml hown hg hK hX hw hi hL hN hlk hx9 hM ?_ (cn 1) 0 rdy ls (by omega) q1 q2 hl
    intro rdy ls o p1 p2 hl
    refine q_iload_n (i := 2) hx hb d_M_isReady_97 rfl hl rfl ?_
    cases rdy with
    | true => exact s_zret (v := bI true) hx hb hr (by decide) hM ⟨rfl, Or.inl ⟨rfl, p1 rfl⟩⟩ d_M_isReady_98 hlocks
    | false => exact s_zret (v := bI false) hx hb hr (by decide) hM ⟨rfl, Or.inr ⟨rfl, p2 rfl⟩⟩ d_M_isReady_98 hlocks
  have bad : ¬ Rd cn nA fb (cn 1) x → W p l e (rmk 0 0 0) s m args below meth c s.heap [] 0 0 (MQ below (va_Qi (fun r u => u = (kd, rf, it, lg) ∧ ((r = 1 ∧ Rd cn nA fb (cn 1) x) ∨ (r = 0 ∧ ¬ Rd cn nA fb (cn 1) x))) (SB D dA (kd, rf, it, lg) sz) (sA (kd, rf, it, lg) sz)) args s 0 0 (sA (kd, rf, it, lg) sz)) (F0 m 31 ls []) := by
    intro q
    refine lv_iconst (v := bI false) hx hb d_M_isReady_31 (by decide) ?_
    exact go false (fun z => by cases z) (fun _ => q)
  refine q_al_n (i := 0) hx hb d_M_isReady_0 rfl hl rfl ?_
  refine s_getr (C := R_M) (T := F_M) (N := 13) (ci := 7) hx hb hg in_M hown hK hM km rfl 8 (by decide) rfl (hg _ kw_463) (fun _ h9 => h9) d_M_isReady_1 ?_
  rw [r5]
  refine q_iload_n (i := 1) hx hb d_M_isReady_4 rfl hl rfl ?_
  refine s_zld (t := 4) hx hb hK hM k5 rfl rfl (vp_in_nI hx8 (by omega)) d_M_isReady_5 ?_
  rw [nI_clamp (by omega), hi.fl (k := 5) (by decide) (by decide) hx8]
  refine lv_if_eq (tgt := 31) hx hb d_M_isReady_6 (by decide) (fun c1 => ?_) (fun c1 => ?_)
  · exact bad (fun z => by have := z.1; rw [(bI_eq _).mp c1] at this; cases this)
  · refine q_al_n (i := 0) hx hb d_M_isReady_9 rfl hl rfl ?_
    refine s_getr (C := R_M) (T := F_M) (N := 13) (ci := 7) hx hb hg in_M hown hK hM km rfl 7 (by decide) rfl (hg _ kw_462) (fun _ h9 => h9) d_M_isReady_10 ?_
    rw [r4]
    refine q_iload_n (i := 1) hx hb d_M_isReady_13 rfl hl rfl ?_
    refine s_zld (t := 4) hx hb hK hM k4 rfl rfl (vp_in_nI hx8 (by omega)) d_M_isReady_14 ?_
    rw [nI_clamp (by omega), hi.fl (k := 4) (by decide) (by decide) hx8]
    refine lv_if_ne (tgt := 31) hx hb d_M_isReady_15 (by decide) (fun c2 => ?_) (fun c2 => ?_)
    · exact bad (fun z => by have := z.2.1; rw [(bI_ne _).mp c2] at this; cases this)
    · refine q_al_n (i := 0) hx hb d_M_isReady_18 rfl hl rfl ?_
      refine s_getr (C := R_M) (T := F_M) (N := 13) (ci := 7) hx hb hg in_M hown hK hM km rfl 9 (by decide) rfl (hg _ kw_464) (fun _ h9 => h9) d_M_isReady_19 ?_
      rw [r6]
      refine q_iload_n (i := 1) hx hb d_M_isReady_22 rfl hl rfl ?_
      refine s_zld (t := 4) hx hb hK hM k6 rfl rfl (vp_in_nI hx8 (by omega)) d_M_isReady_23 ?_
      rw [nI_clamp (by omega), hi.fl (k := 6) (by decide) (by decide) hx8]
      refine lv_if_ne (tgt := 31) hx hb d_M_isReady_24 (by decide) (fun c3 => ?_) (fun c3 => ?_)
      · exact bad (fun z => by have := z.2.2.1; rw [(bI_ne _).mp c3] at this; cases this)
      · refine lv_iconst (v := bI true) hx hb d_M_isReady_27 (by decide) ?_
        refine lv_goto (tgt := 32) hx hb d_M_isReady_28 (by decide) ?_
        exact go true (fun _ => ⟨(bI_ne _).mp c1, (bI_eq _).mp c2, (bI_eq _).mp c3, fun j hj => absurd hj (Nat.not_lt_zero j)⟩) (fun z => by cases z)
