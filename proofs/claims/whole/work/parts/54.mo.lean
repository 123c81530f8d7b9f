/-! THE REFERENCE: its fields and rows -/
def bI (b : Bool) : Int32 := if b then 1 else 0
theorem bI_nar (b : Bool) : vp_nar .boolean (bI b) = bI b := by cases b <;> decide
theorem bI_ne (b : Bool) : bI b ≠ 0 ↔ b = true := by cases b <;> decide
theorem bI_eq (b : Bool) : bI b = 0 ↔ b = false := by cases b <;> decide
section SZST
variable {p : Program} {l : Launch} {e : Env} {Rm : Room} {s : State} {m : MethodId} {args : Array Value} {below : List Frame} {meth : Method} {c : Code} {H : Heap} {locs : List Loc} {cells slots : Nat} {Q : State → Prop}
variable {cc : ByteArray} {pc : Nat} {ls : Array Slot} {rest : List Value} {D : va_G} {cl : List vw_C} {A : Nat → Prop} {tys : List (ClassId × FieldType)} {H0 : Heap}
variable {sg : Nat → List Bool} {tk : Nat → Nat} {dA : Nat → ClassId} {kd : Nat → Option sK} {rf : Nat → Nat → Option Nat} {it : Nat → Nat → Int32} {lg : Nat → Nat → Int64} {a : Nat}
theorem s_zst (hexec : p.tables.exec = Jvm.exec) (hb : c.code = cc) (hK : va_K D cl tys s) (hM : sW sg tk D dA cl A H0 (kd, rf, it, lg) H locs) {t n : Nat} (ha : kd a = some (.inr (t, n))) (htk : tk t = 0) (ht : tys[t]? = some (dA t, .boolean)) {i x : Int32} (hx : vp_nar .boolean x = x) (hin : vp_in i n) (hdg : decode cc pc = .ok (.bastore, 1))
    (kk : ∀ (H1 : Heap) (locs1 : List Loc), sW sg tk D dA cl A H0 (kd, rf, up2 it a i.toNatClampNeg x, lg) H1 locs1 → W p l e Rm s m args below meth c H1 locs1 cells slots Q (F0 m (pc + 1) ls rest)) : W p l e Rm s m args below meth c H locs cells slots Q (F0 m pc ls (.int x :: .int i :: .ref a :: rest)) := by
  obtain ⟨hAll, ws, hG, hP, hD, hS⟩ := hM
  obtain ⟨q0, hq⟩ := (hG a _).mp (sMk_ki ha htk)
  refine va_zast hexec hb hK hP hD hS q0 t hq ht hin hdg fun H1 locs1 hP1 hD1 hS1 => ?_
  rw [hx] at hP1 hD1
  exact kk H1 locs1 ⟨hAll, _, by rw [sMk_ari x ha htk]; exact sG_set hG hD hq, hP1, hD1, hS1⟩
end SZST
/-- the rows: 0 from, 1 to, 2 numbers, 3 touched, 4 ringed, 5 wanted, 6 done, 7 worked -/
def Mw (kd : Nat → Option sK) (rf : Nat → Nat → Option Nat) (m0 : Nat) (ar : Nat → Nat) : Prop := kd m0 = some (.inl 7) ∧ (rf m0 2 = some (ar 0) ∧ rf m0 3 = some (ar 1) ∧ rf m0 5 = some (ar 2) ∧ rf m0 6 = some (ar 3) ∧ rf m0 7 = some (ar 4) ∧ rf m0 8 = some (ar 5) ∧ rf m0 9 = some (ar 6) ∧ rf m0 11 = some (ar 7)) ∧
  (kd (ar 0) = some (.inr (0, 4096)) ∧ kd (ar 1) = some (.inr (0, 4096)) ∧ kd (ar 2) = some (.inr (0, 8192)) ∧ kd (ar 3) = some (.inr (4, 8192)) ∧ kd (ar 4) = some (.inr (4, 8192)) ∧ kd (ar 5) = some (.inr (4, 8192)) ∧ kd (ar 6) = some (.inr (4, 8192)) ∧ kd (ar 7) = some (.inr (0, 8192))) ∧ ∀ i j, i < 8 → j < 8 → ar i = ar j → i = j
def asz (i : Nat) : Nat := if i ≤ 1 then 4096 else 8192
def isC (i : Nat) : Prop := i = 1 ∨ i = 4 ∨ i = 10 ∨ i = 12
def isN (i : Nat) : Prop := i = 0 ∨ i = 1 ∨ i = 2 ∨ i = 7
/-- its numbers: cn 1 links, 4 nodes, 10 many, 12 found; nA the rows of ints, fb the rows of flags -/
def Mi (it : Nat → Nat → Int32) (m0 : Nat) (ar cn : Nat → Nat) (nA : Nat → Nat → Nat) (fb : Nat → Nat → Bool) : Prop := (∀ i, isC i → it m0 i = nI (cn i)) ∧ (∀ i x, isN i → x < asz i → it (ar i) x = nI (nA i x)) ∧ ∀ k x, 3 ≤ k → k ≤ 6 → x < 8192 → it (ar k) x = bI (fb k x)
theorem Mw.nm {kd : Nat → Option sK} {rf : Nat → Nat → Option Nat} {m0 : Nat} {ar : Nat → Nat} (h : Mw kd rf m0 ar) {i : Nat} (hi : i < 8) : ar i ≠ m0 := by
  obtain ⟨km, -, ⟨k0, k1, k2, k3, k4, k5, k6, k7⟩, -⟩ := h
  intro z
  have : ∃ t, kd (ar i) = some (.inr t) := by
    match i, hi with
    | 0, _ => exact ⟨_, k0⟩
    | 1, _ => exact ⟨_, k1⟩
    | 2, _ => exact ⟨_, k2⟩
    | 3, _ => exact ⟨_, k3⟩
    | 4, _ => exact ⟨_, k4⟩
    | 5, _ => exact ⟨_, k5⟩
    | 6, _ => exact ⟨_, k6⟩
    | 7, _ => exact ⟨_, k7⟩
  obtain ⟨t, ht⟩ := this
  rw [z, km] at ht; cases ht
section MIUP
variable {kd : Nat → Option sK} {rf : Nat → Nat → Option Nat} {it : Nat → Nat → Int32} {m0 : Nat} {ar cn : Nat → Nat} {nA : Nat → Nat → Nat} {fb : Nat → Nat → Bool}
theorem Mi_c (hw : Mw kd rf m0 ar) (h : Mi it m0 ar cn nA fb) (i v : Nat) : Mi (up2 it m0 i (nI v)) m0 ar (va_up cn i v) nA fb := by
  obtain ⟨h1, h2, h3⟩ := h
  refine ⟨fun j hj => ?_, fun j x hj hx => ?_, fun k x a b hx => ?_⟩
  · by_cases e : j = i
    · rw [e, up2_self, va_up_self]
    · rw [up2_ne _ _ e, va_up_ne _ _ e]; exact h1 j hj
  · rw [up2_off _ _ (hw.nm (by rcases hj with z | z | z | z <;> omega))]; exact h2 j x hj hx
  · rw [up2_off _ _ (hw.nm (by omega))]; exact h3 k x a b hx
theorem Mi_0 (hw : Mw kd rf m0 ar) (h : Mi it m0 ar cn nA fb) (v : Int32) : Mi (up2 it m0 0 v) m0 ar cn nA fb := by
  obtain ⟨h1, h2, h3⟩ := h
  refine ⟨fun j hj => ?_, fun j x hj hx => ?_, fun k x a b hx => ?_⟩
  · rw [up2_ne _ _ (by rcases hj with z | z | z | z <;> omega)]; exact h1 j hj
  · rw [up2_off _ _ (hw.nm (by rcases hj with z | z | z | z <;> omega))]; exact h2 j x hj hx
  · rw [up2_off _ _ (hw.nm (by omega))]; exact h3 k x a b hx
theorem Mi_n (hw : Mw kd rf m0 ar) (h : Mi it m0 ar cn nA fb) {i : Nat} (hi : isN i) (y v : Nat) : Mi (up2 it (ar i) y (nI v)) m0 ar cn (up2 nA i y v) fb := by
  obtain ⟨h1, h2, h3⟩ := h
  have hi8 : i < 8 := by rcases hi with z | z | z | z <;> omega
  refine ⟨fun j hj => ?_, fun j x hj hx => ?_, fun k x a b hx => ?_⟩
  · rw [up2_off _ _ (fun z => hw.nm hi8 z.symm)]; exact h1 j hj
  · by_cases e : j = i
    · rw [e]
      by_cases e2 : x = y
      · rw [e2, up2_self, up2_self]
      · rw [up2_ne _ _ e2, up2_ne _ _ e2]; rw [e] at hx; exact h2 i x hi hx
    · rw [up2_off _ _ (fun z => e (hw.2.2.2 j i (by rcases hj with z | z | z | z <;> omega) hi8 z)), up2_off _ _ e]; exact h2 j x hj hx
  · rw [up2_off _ _ (fun z => by have := hw.2.2.2 k i (by omega) hi8 z; rcases hi with q | q | q | q <;> omega)]; exact h3 k x a b hx
theorem Mi_b (hw : Mw kd rf m0 ar) (h : Mi it m0 ar cn nA fb) {i : Nat} (hi : 3 ≤ i ∧ i ≤ 6) (y : Nat) (v : Bool) : Mi (up2 it (ar i) y (bI v)) m0 ar cn nA (up2 fb i y v) := by
  obtain ⟨h1, h2, h3⟩ := h
  refine ⟨fun j hj => ?_, fun j x hj hx => ?_, fun k x a b hx => ?_⟩
  · rw [up2_off _ _ (fun z => hw.nm (by omega) z.symm)]; exact h1 j hj
  · rw [up2_off _ _ (fun z => by have := hw.2.2.2 j i (by rcases hj with z | z | z | z <;> omega) (by omega) z; rcases hj with q | q | q | q <;> omega)]; exact h2 j x hj hx
  · by_cases e : k = i
    · rw [e]
      by_cases e2 : x = y
      · rw [e2, up2_self, up2_self]
      · rw [up2_ne _ _ e2, up2_ne _ _ e2]; rw [e] at a b; exact h3 i x a b hx
    · rw [up2_off _ _ (fun z => e (hw.2.2.2 k i (by omega) (by omega) z)), up2_off _ _ e]; exact h3 k x a b hx
theorem Mi.L (h : Mi it m0 ar cn nA fb) : it m0 1 = nI (cn 1) := h.1 1 (Or.inl rfl)
theorem Mi.N (h : Mi it m0 ar cn nA fb) : it m0 4 = nI (cn 4) := h.1 4 (Or.inr (Or.inl rfl))
theorem Mi.M (h : Mi it m0 ar cn nA fb) : it m0 10 = nI (cn 10) := h.1 10 (Or.inr (Or.inr (Or.inl rfl)))
theorem Mi.F (h : Mi it m0 ar cn nA fb) : it m0 12 = nI (cn 12) := h.1 12 (Or.inr (Or.inr (Or.inr rfl)))
theorem Mi.fr (h : Mi it m0 ar cn nA fb) {x : Nat} (hx : x < 4096) : it (ar 0) x = nI (nA 0 x) := h.2.1 0 x (Or.inl rfl) hx
theorem Mi.to (h : Mi it m0 ar cn nA fb) {x : Nat} (hx : x < 4096) : it (ar 1) x = nI (nA 1 x) := h.2.1 1 x (Or.inr (Or.inl rfl)) hx
theorem Mi.nu (h : Mi it m0 ar cn nA fb) {x : Nat} (hx : x < 8192) : it (ar 2) x = nI (nA 2 x) := h.2.1 2 x (Or.inr (Or.inr (Or.inl rfl))) hx
theorem Mi.wk (h : Mi it m0 ar cn nA fb) {x : Nat} (hx : x < 8192) : it (ar 7) x = nI (nA 7 x) := h.2.1 7 x (Or.inr (Or.inr (Or.inr rfl))) hx
theorem Mi.fl (h : Mi it m0 ar cn nA fb) {k x : Nat} (h3 : 3 ≤ k) (h6 : k ≤ 6) (hx : x < 8192) : it (ar k) x = bI (fb k x) := h.2.2 k x h3 h6 hx
end MIUP
set_option maxHeartbeats 4000000 in
set_option maxRecDepth 100000 in
theorem m_M_isNode (l : Launch) (D : va_G) (dA : Nat → ClassId) (S : sS) (sz : Nat) (k : Int32)  :
    cI l y_M_isNode c_M_isNode 1 (some .boolean) (rmk 0 0 0) D dA S sz [.int k] (fun x u => u = S ∧ ((x = 1 ∧ vp_in k 16384) ∨ (x = 0 ∧ ¬ vp_in k 16384))) (0) (0) := by
  refine s_met (cc := c_M_isNode) (maxL := 1) (by decide) rfl (by simp [Value.category]) (by simp [lg_sl, Value.category]) ?_
  intro p e s m args below meth c ls hx hb hr hts hown hlocks hin hml hK hX hsz hM hl
  have hg := gd_hts hts
  have hl : lc ls 1 [some (.int k)] := hl
  refine q_iload_n (i := 0) hx hb d_M_isNode_0 rfl hl rfl ?_
  refine lv_if_lt (tgt := 15) hx hb d_M_isNode_1 (by decide) (fun c1 => ?_) (fun c1 => ?_)
  · refine lv_iconst (v := 0) hx hb d_M_isNode_15 (by decide) ?_
    exact s_zret hx hb hr rfl hM ⟨rfl, Or.inr ⟨rfl, fun q => q (Or.inl c1)⟩⟩ d_M_isNode_16 hlocks
  · refine q_iload_n (i := 0) hx hb d_M_isNode_4 rfl hl rfl ?_
    refine lv_sipush (v := nI 16384) hx hb d_M_isNode_5 (by decide) ?_
    refine lv_icmp_ge (tgt := 15) hx hb d_M_isNode_8 (by decide) (fun c2 => ?_) (fun c2 => ?_)
    · refine lv_iconst (v := 0) hx hb d_M_isNode_15 (by decide) ?_
      exact s_zret hx hb hr rfl hM ⟨rfl, Or.inr ⟨rfl, vi_ge c2 (by omega)⟩⟩ d_M_isNode_16 hlocks
    · refine lv_iconst (v := 1) hx hb d_M_isNode_11 (by decide) ?_
      refine lv_goto (tgt := 16) hx hb d_M_isNode_12 (by decide) ?_
      exact s_zret hx hb hr rfl hM ⟨rfl, Or.inl ⟨rfl, vi_of c1 c2 (by omega)⟩⟩ d_M_isNode_16 hlocks
set_option maxHeartbeats 4000000 in
set_option maxRecDepth 100000 in
theorem m_M_thrown (l : Launch) (D : va_G) (dA : Nat → ClassId) (S : sS) (sz : Nat) (m0 : Nat) (hm : S.1 m0 = some (.inl 7)) :
    cI l y_M_thrown c_M_thrown 1 (some .int) (rmk 0 0 0) D dA S sz [.ref m0] (fun x u => u = S ∧ x = S.2.2.1 m0 0) (0) (0) := by
  obtain ⟨kd, rf, it, lg⟩ := S
  dsimp only at hm
  refine s_met (cc := c_M_thrown) (maxL := 1) (by decide) rfl (by simp [Value.category]) (by simp [lg_sl, Value.category]) ?_
  intro p e s m args below meth c ls hx hb hr hts hown hlocks hin hml hK hX hsz hM hl
  have hg := gd_hts hts
  have hl : lc ls 1 [some (va_rf (some m0))] := hl
  refine q_al_n (i := 0) hx hb d_M_thrown_0 rfl hl rfl ?_
  refine s_geti (C := R_M) (T := F_M) (N := 13) (ci := 7) hx hb hg in_M hown hK hM hm rfl 0 (by decide) rfl (hg _ kw_455) (fun _ h9 => h9) d_M_thrown_1 ?_
  exact s_iret hx hb hr hM ⟨rfl, rfl⟩ d_M_thrown_4 hlocks
set_option maxHeartbeats 4000000 in
set_option maxRecDepth 100000 in
theorem fi_loop {p : Program} {l : Launch} {e : Env} {s : State} {m : MethodId} {args : Array Value} {below : List Frame} {meth : Method} {c : Code} {D : va_G} {dA : Nat → ClassId} {A : Nat → Prop} {Q : State → Prop} (hx : p.tables.exec = Jvm.exec) (hb : c.code = c_M_find) (hml : c.maxLocals = 3) (hown : s.vm.findClass R_M = some m.cls) (hg : ∀ w ∈ gd, w.before args s = true) (hK : va_K D cls (tys dA) s) (hX : sKx s) {R9 : Room} {kd : Nat → Option sK} {rf : Nat → Nat → Option Nat} {it : Nat → Nat → Int32} {lg : Nat → Nat → Int64} {m0 : Nat} {ar cn : Nat → Nat} {nA : Nat → Nat → Nat} {fb : Nat → Nat → Bool} (hw : Mw kd rf m0 ar) (hi : Mi it m0 ar cn nA fb) (hN : cn 4 < 8192) (hnu : ∀ x, x < cn 4 → nA 2 x < 16384) {v : Nat} (hv9 : v < 16384) {H : Heap} {locs : List Loc} (hM : SW D dA A s.heap (kd, rf, it, lg) H locs)
    (kk : ∀ (k : Nat) (ls : Array Slot), ((k < cn 4 ∧ nA 2 k = v) ∨ (k = cn 4 ∧ ∀ x, x < cn 4 → nA 2 x ≠ v)) → lc ls 3 [some (va_rf (some m0)), some (.int (nI v)), some (.int (nI k))] → W p l e R9 s m args below meth c H locs 0 0 Q (F0 m 26 ls [])) :
    ∀ (d k : Nat) (ls : Array Slot), k + d = cn 4 → (∀ x, x < k → nA 2 x ≠ v) → lc ls 3 [some (va_rf (some m0)), some (.int (nI v)), some (.int (nI k))] → W p l e R9 s m args below meth c H locs 0 0 Q (F0 m 2 ls []) := by
  obtain ⟨km, ⟨r0, r1, r2, r3, r4, r5, r6, r7⟩, ⟨k0, k1, k2, k3, k4, k5, k6, k7⟩, hdis⟩ := id hw
  have e4 := hi.N
  intro d
  induction d with
  | zero =>
    intro k ls hk hno hl
    have hk0 : k = cn 4 := by omega
    refine q_iload_n (i := 2) hx hb d_M_find_2 rfl hl rfl ?_
    refine q_al_n (i := 0) hx hb d_M_find_3 rfl hl rfl ?_
    refine s_geti (C := R_M) (T := F_M) (N := 13) (ci := 7) hx hb hg in_M hown hK hM km rfl 4 (by decide) rfl (hg _ kw_459) (fun _ h9 => h9) d_M_find_4 ?_
    rw [e4]
    refine n_ge (tgt := 26) hx hb d_M_find_7 (by decide) (by omega) (by omega) (fun c1 => ?_) (fun c1 => ?_)
    · exact kk k ls (Or.inr ⟨hk0, by rw [← hk0]; exact hno⟩) hl
    · omega
  | succ d ih =>
    intro k ls hk hno hl
    have hkN : k < cn 4 := by omega
    have hvk := hnu k hkN
    refine q_iload_n (i := 2) hx hb d_M_find_2 rfl hl rfl ?_
    refine q_al_n (i := 0) hx hb d_M_find_3 rfl hl rfl ?_
    refine s_geti (C := R_M) (T := F_M) (N := 13) (ci := 7) hx hb hg in_M hown hK hM km rfl 4 (by decide) rfl (hg _ kw_459) (fun _ h9 => h9) d_M_find_4 ?_
    rw [e4]
    refine n_ge (tgt := 26) hx hb d_M_find_7 (by decide) (by omega) (by omega) (fun c1 => ?_) (fun c1 => ?_)
    · omega
    · refine q_al_n (i := 0) hx hb d_M_find_10 rfl hl rfl ?_
      refine s_getr (C := R_M) (T := F_M) (N := 13) (ci := 7) hx hb hg in_M hown hK hM km rfl 5 (by decide) rfl (hg _ kw_460) (fun _ h9 => h9) d_M_find_11 ?_
      rw [r2]
      refine q_iload_n (i := 2) hx hb d_M_find_14 rfl hl rfl ?_
      refine s_ild (t := 0) hx hb hK hM k2 rfl rfl (vp_in_nI (show k < 8192 by omega) (by omega)) d_M_find_15 ?_
      rw [nI_clamp (by omega), hi.nu (show k < 8192 by omega)]
      refine q_iload_n (i := 1) hx hb d_M_find_16 rfl hl rfl ?_
      refine n_eq (tgt := 26) hx hb d_M_find_17 (by decide) (by omega) (by omega) (fun c2 => ?_) (fun c2 => ?_)
      · exact kk k ls (Or.inl ⟨hkN, c2⟩) hl
      · refine q_iinc hx hb (nI (k + 1)) d_M_find_20 hl rfl (nI_1 k) (by decide) (fun ls hl => ?_)
        simp only [List.set_cons_succ, List.set_cons_zero] at hl
        refine lv_goto (tgt := 2) hx hb d_M_find_23 (by decide) ?_
        refine ih (k + 1) ls (by omega) (fun x hx9 => ?_) hl
        by_cases e : x = k
        · rw [e]; exact c2
        · exact hno x (by omega)
/-- what find answers -/
def FindP (cn : Nat → Nat) (nA : Nat → Nat → Nat) (v : Nat) (x : Int32) : Prop := (∃ k, k < cn 4 ∧ nA 2 k = v ∧ x = nI k) ∨ ((∀ k, k < cn 4 → nA 2 k ≠ v) ∧ x = -1)
set_option maxHeartbeats 4000000 in
set_option maxRecDepth 100000 in
theorem m_M_find (l : Launch) (D : va_G) (dA : Nat → ClassId) (S : sS) (sz : Nat) (m0 : Nat) (ar cn : Nat → Nat) (nA : Nat → Nat → Nat) (fb : Nat → Nat → Bool) (v : Nat) (hw : Mw S.1 S.2.1 m0 ar) (hi : Mi S.2.2.1 m0 ar cn nA fb) (hN : cn 4 < 8192) (hnu : ∀ x, x < cn 4 → nA 2 x < 16384) (hv9 : v < 16384) :
    cI l y_M_find c_M_find 3 (some .int) (rmk 0 0 0) D dA S sz [.ref m0, .int (nI v)] (fun x u => u = S ∧ FindP cn nA v x) (0) (0) := by
  obtain ⟨kd, rf, it, lg⟩ := S
  obtain ⟨km, ⟨r0, r1, r2, r3, r4, r5, r6, r7⟩, ⟨k0, k1, k2, k3, k4, k5, k6, k7⟩, hdis⟩ := id hw
  dsimp only at km r0 r1 r2 r3 r4 r5 r6 r7 k0 k1 k2 k3 k4 k5 k6 k7 hi hw
  have e4 := hi.N
  refine s_met (cc := c_M_find) (maxL := 3) (by decide) rfl (by simp [Value.category]) (by simp [lg_sl, Value.category]) ?_
  intro p e s m args below meth c ls hx hb hr hts hown hlocks hin hml hK hX hsz hM hl
  have hg := gd_hts hts
  have hl : lc ls 3 [some (va_rf (some m0)), some (.int (nI v)), none] := hl
  refine lv_iconst (v := nI 0) hx hb d_M_find_0 (by decide) ?_
  refine q_istore_n (i := 2) hx hb d_M_find_1 rfl hl (by decide) (fun ls hl => ?_)
  simp only [List.set_cons_succ, List.set_cons_zero] at hl
  refine fi_loop hx hb hml hown hg hK hX hw hi hN hnu hv9 hM ?_ (cn 4) 0 ls (by omega) (fun x hx9 => absurd hx9 (Nat.not_lt_zero x)) hl
  intro k ls hk hl
  refine q_iload_n (i := 2) hx hb d_M_find_26 rfl hl rfl ?_
  refine q_al_n (i := 0) hx hb d_M_find_27 rfl hl rfl ?_
  refine s_geti (C := R_M) (T := F_M) (N := 13) (ci := 7) hx hb hg in_M hown hK hM km rfl 4 (by decide) rfl (hg _ kw_459) (fun _ h9 => h9) d_M_find_28 ?_
  rw [e4]
  refine n_ge (tgt := 38) hx hb d_M_find_31 (by decide) (by rcases hk with ⟨z, -⟩ | ⟨z, -⟩ <;> omega) (by omega) (fun c1 => ?_) (fun c1 => ?_)
  · refine lv_iconst (v := -1) hx hb d_M_find_38 (by decide) ?_
    refine s_iret hx hb hr hM ⟨rfl, ?_⟩ d_M_find_39 hlocks
    rcases hk with ⟨z, -⟩ | ⟨-, z⟩
    · omega
    · exact Or.inr ⟨z, rfl⟩
  · refine q_iload_n (i := 2) hx hb d_M_find_34 rfl hl rfl ?_
    refine lv_goto (tgt := 39) hx hb d_M_find_35 (by decide) ?_
    refine s_iret hx hb hr hM ⟨rfl, ?_⟩ d_M_find_39 hlocks
    rcases hk with ⟨z, z2⟩ | ⟨z, -⟩
    · exact Or.inl ⟨k, z, z2, rfl⟩
    · omega
/-- what place does -/
def PlaceP (S : sS) (m0 : Nat) (ar cn : Nat → Nat) (nA : Nat → Nat → Nat) (fb : Nat → Nat → Bool) (v : Nat) (x : Int32) (u : sS) : Prop := (∃ k, k < cn 4 ∧ nA 2 k = v ∧ x = nI k ∧ u = S) ∨ ((∀ k, k < cn 4 → nA 2 k ≠ v) ∧ x = nI (cn 4) ∧ ∃ it', u = (S.1, S.2.1, it', S.2.2.2) ∧ Mi it' m0 ar (va_up cn 4 (cn 4 + 1)) (up2 nA 2 (cn 4) v) fb ∧ it' m0 0 = S.2.2.1 m0 0)
set_option maxHeartbeats 4000000 in
set_option maxRecDepth 100000 in
theorem m_M_place (l : Launch) (D : va_G) (dA : Nat → ClassId) (S : sS) (sz : Nat) (m0 : Nat) (ar cn : Nat → Nat) (nA : Nat → Nat → Nat) (fb : Nat → Nat → Bool) (v : Nat) (hw : Mw S.1 S.2.1 m0 ar) (hi : Mi S.2.2.1 m0 ar cn nA fb) (hN : cn 4 < 8192) (hnu : ∀ x, x < cn 4 → nA 2 x < 16384) (hv9 : v < 16384) :
    cI l y_M_place c_M_place 3 (some .int) (rmk 1 0 0) D dA S sz [.ref m0, .int (nI v)] (PlaceP S m0 ar cn nA fb v) (0) (0) := by
  obtain ⟨kd, rf, it, lg⟩ := S
  obtain ⟨km, ⟨r0, r1, r2, r3, r4, r5, r6, r7⟩, ⟨k0, k1, k2, k3, k4, k5, k6, k7⟩, hdis⟩ := id hw
  dsimp only at km r0 r1 r2 r3 r4 r5 r6 r7 k0 k1 k2 k3 k4 k5 k6 k7 hi hw
  have e4 := hi.N
  refine s_met (cc := c_M_place) (maxL := 3) (by decide) rfl (by simp [Value.category]) (by simp [lg_sl, Value.category]) ?_
  intro p e s m args below meth c ls hx hb hr hts hown hlocks hin hml hK hX hsz hM hl
  have hg := gd_hts hts
  have hl : lc ls 3 [some (va_rf (some m0)), some (.int (nI v)), none] := hl
  refine q_al_n (i := 0) hx hb d_M_place_0 rfl hl rfl ?_
  refine q_iload_n (i := 1) hx hb d_M_place_1 rfl hl rfl ?_
  refine s_calli (r_V 1 [.int (nI v)] rfl hx hb hml hown hg (m_M_find l D dA _ _ m0 ar cn nA fb v hw hi hN hnu hv9) (hM.pre hK hX) (hM.recv hK km (q := cls.getD 7 (R_H, F_H, 7)) rfl) kw_511 kw_513 ks_18 kw_5 kw_514 (by decide +kernel) ⟨Nat.le_of_ble_eq_true rfl, Nat.le_of_ble_eq_true rfl⟩ rfl rfl hl.sz (by first | exact Nat.le_of_ble_eq_true rfl | simp [rf_cat] | simp [rf_cat, Value.category]) d_M_place_2 ⟨Nat.le_refl _, Nat.le_refl _⟩ rfl) hM (fun r1 u H locs hp hM => ?_)
  obtain ⟨rfl, hp⟩ := hp
  refine q_istore_n (i := 2) hx hb d_M_place_5 rfl hl (by decide) (fun ls hl => ?_)
  simp only [List.set_cons_succ, List.set_cons_zero] at hl
  refine q_iload_n (i := 2) hx hb d_M_place_6 rfl hl rfl ?_
  refine lv_if_lt (tgt := 12) hx hb d_M_place_7 (by decide) (fun c1 => ?_) (fun c1 => ?_)
  · have hno : ∀ k, k < cn 4 → nA 2 k ≠ v := by
      rcases hp with ⟨k, z, -, e⟩ | ⟨z, -⟩
      · rw [e] at c1; exact absurd c1 (nI_pos (by omega))
      · exact z
    refine q_al_n (i := 0) hx hb d_M_place_12 rfl hl rfl ?_
    refine s_getr (C := R_M) (T := F_M) (N := 13) (ci := 7) hx hb hg in_M hown hK hM km rfl 5 (by decide) rfl (hg _ kw_460) (fun _ h9 => h9) d_M_place_13 ?_
    rw [r2]
    refine q_al_n (i := 0) hx hb d_M_place_16 rfl hl rfl ?_
    refine s_geti (C := R_M) (T := F_M) (N := 13) (ci := 7) hx hb hg in_M hown hK hM km rfl 4 (by decide) rfl (hg _ kw_459) (fun _ h9 => h9) d_M_place_17 ?_
    rw [e4]
    refine q_iload_n (i := 1) hx hb d_M_place_20 rfl hl rfl ?_
    refine s_ist (t := 0) hx hb hK hM k2 rfl rfl (vp_in_nI hN (by omega)) d_M_place_21 (fun H locs hM => ?_)
    rw [nI_clamp (by omega)] at hM
    refine q_al_n (i := 0) hx hb d_M_place_22 rfl hl rfl ?_
    refine lv_dup hx hb d_M_place_23 rfl ?_
    refine s_geti (C := R_M) (T := F_M) (N := 13) (ci := 7) hx hb hg in_M hown hK hM km rfl 4 (by decide) rfl (hg _ kw_459) (fun _ h9 => h9) d_M_place_24 ?_
    have hi2 := Mi_n hw hi (i := 2) (Or.inr (Or.inr (Or.inl rfl))) (cn 4) v
    rw [hi2.N]
    refine lv_iconst (v := 1) hx hb d_M_place_27 (by decide) ?_
    refine lv_iadd hx hb d_M_place_28 ?_
    rw [nI_1]
    refine s_puti (C := R_M) (T := F_M) (N := 13) (ci := 7) hx hb hg in_M ft_M ft_M_ok fn_M hown hK hM km rfl 4 (by decide) rfl (hg _ kw_459) (fun _ h9 => h9) rfl rfl rfl d_M_place_29 (fun H locs hM => ?_)
    have hi3 := Mi_c hw hi2 4 (cn 4 + 1)
    refine q_al_n (i := 0) hx hb d_M_place_32 rfl hl rfl ?_
    refine s_geti (C := R_M) (T := F_M) (N := 13) (ci := 7) hx hb hg in_M hown hK hM km rfl 4 (by decide) rfl (hg _ kw_459) (fun _ h9 => h9) d_M_place_33 ?_
    rw [hi3.N, va_up_self]
    refine lv_iconst (v := 1) hx hb d_M_place_36 (by decide) ?_
    refine lv_isub hx hb d_M_place_37 ?_
    rw [nI_pred]
    refine s_iret hx hb hr hM (Or.inr ⟨hno, rfl, _, rfl, hi3, ?_⟩) d_M_place_38 hlocks
    rw [up2_ne _ _ (by decide), up2_off _ _ (fun z => hw.nm (by decide) z.symm)]
  · refine q_iload_n (i := 2) hx hb d_M_place_10 rfl hl rfl ?_
    refine s_iret hx hb hr hM (Or.inl ?_) d_M_place_11 hlocks
    rcases hp with ⟨k, z, z2, e⟩ | ⟨-, e⟩
    · exact ⟨k, z, z2, e, rfl⟩
    · rw [e] at c1; exact absurd (by decide) c1
set_option maxHeartbeats 4000000 in
set_option maxRecDepth 100000 in
theorem lo_loop {p : Program} {l : Launch} {e : Env} {s : State} {m : MethodId} {args : Array Value} {below : List Frame} {meth : Method} {c : Code} {D : va_G} {dA : Nat → ClassId} {A : Nat → Prop} {Q : State → Prop} (hx : p.tables.exec = Jvm.exec) (hb : c.code = c_M_linkOf) (hml : c.maxLocals = 4) (hown : s.vm.findClass R_M = some m.cls) (hg : ∀ w ∈ gd, w.before args s = true) (hK : va_K D cls (tys dA) s) (hX : sKx s) {R9 : Room} {kd : Nat → Option sK} {rf : Nat → Nat → Option Nat} {it : Nat → Nat → Int32} {lg : Nat → Nat → Int64} {m0 : Nat} {ar cn : Nat → Nat} {nA : Nat → Nat → Nat} {fb : Nat → Nat → Bool} (hw : Mw kd rf m0 ar) (hi : Mi it m0 ar cn nA fb) (hL : cn 1 < 4096) (hfr : ∀ k, k < cn 1 → nA 0 k < 8192 ∧ nA 1 k < 8192) {a b : Nat} (ha9 : a < 8192) (hb9 : b < 8192) {H : Heap} {locs : List Loc} (hM : SW D dA A s.heap (kd, rf, it, lg) H locs)
    (kk : ∀ (k : Nat) (ls : Array Slot), ((k < cn 1 ∧ nA 0 k = a ∧ nA 1 k = b) ∨ (k = cn 1 ∧ ∀ x, x < cn 1 → ¬ (nA 0 x = a ∧ nA 1 x = b))) → lc ls 4 [some (va_rf (some m0)), some (.int (nI a)), some (.int (nI b)), some (.int (nI k))] → W p l e R9 s m args below meth c H locs 0 0 Q (F0 m 36 ls [])) :
    ∀ (d k : Nat) (ls : Array Slot), k + d = cn 1 → (∀ x, x < k → ¬ (nA 0 x = a ∧ nA 1 x = b)) → lc ls 4 [some (va_rf (some m0)), some (.int (nI a)), some (.int (nI b)), some (.int (nI k))] → W p l e R9 s m args below meth c H locs 0 0 Q (F0 m 2 ls []) := by
  obtain ⟨km, ⟨r0, r1, r2, r3, r4, r5, r6, r7⟩, ⟨k0, k1, k2, k3, k4, k5, k6, k7⟩, hdis⟩ := id hw
  have e1 := hi.L
  intro d
  induction d with
  | zero =>
    intro k ls hk hno hl
    have hk0 : k = cn 1 := by omega
    refine q_iload_n (i := 3) hx hb d_M_linkOf_2 rfl hl rfl ?_
    refine q_al_n (i := 0) hx hb d_M_linkOf_3 rfl hl rfl ?_
    refine s_geti (C := R_M) (T := F_M) (N := 13) (ci := 7) hx hb hg in_M hown hK hM km rfl 1 (by decide) rfl (hg _ kw_456) (fun _ h9 => h9) d_M_linkOf_4 ?_
    rw [e1]
    refine n_ge (tgt := 36) hx hb d_M_linkOf_7 (by decide) (by omega) (by omega) (fun c1 => ?_) (fun c1 => ?_)
    · exact kk k ls (Or.inr ⟨hk0, by rw [← hk0]; exact hno⟩) hl
    · omega
  | succ d ih =>
    intro k ls hk hno hl
    have hkN : k < cn 1 := by omega
    obtain ⟨hf1, hf2⟩ := hfr k hkN
    have nxt : ¬ (nA 0 k = a ∧ nA 1 k = b) → W p l e R9 s m args below meth c H locs 0 0 Q (F0 m 30 ls []) := by
      intro hne
      refine q_iinc hx hb (nI (k + 1)) d_M_linkOf_30 hl rfl (nI_1 k) (by decide) (fun ls hl => ?_)
      simp only [List.set_cons_succ, List.set_cons_zero] at hl
      refine lv_goto (tgt := 2) hx hb d_M_linkOf_33 (by decide) ?_
      refine ih (k + 1) ls (by omega) (fun x hx9 => ?_) hl
      by_cases e : x = k
      · rw [e]; exact hne
      · exact hno x (by omega)
    refine q_iload_n (i := 3) hx hb d_M_linkOf_2 rfl hl rfl ?_
    refine q_al_n (i := 0) hx hb d_M_linkOf_3 rfl hl rfl ?_
    refine s_geti (C := R_M) (T := F_M) (N := 13) (ci := 7) hx hb hg in_M hown hK hM km rfl 1 (by decide) rfl (hg _ kw_456) (fun _ h9 => h9) d_M_linkOf_4 ?_
    rw [e1]
    refine n_ge (tgt := 36) hx hb d_M_linkOf_7 (by decide) (by omega) (by omega) (fun c1 => ?_) (fun c1 => ?_)
    · omega
    · refine q_al_n (i := 0) hx hb d_M_linkOf_10 rfl hl rfl ?_
      refine s_getr (C := R_M) (T := F_M) (N := 13) (ci := 7) hx hb hg in_M hown hK hM km rfl 2 (by decide) rfl (hg _ kw_457) (fun _ h9 => h9) d_M_linkOf_11 ?_
      rw [r0]
      refine q_iload_n (i := 3) hx hb d_M_linkOf_14 rfl hl rfl ?_
      refine s_ild (t := 0) hx hb hK hM k0 rfl rfl (vp_in_nI (show k < 4096 by omega) (by omega)) d_M_linkOf_15 ?_
      rw [nI_clamp (by omega), hi.fr (show k < 4096 by omega)]
      refine q_iload_n (i := 1) hx hb d_M_linkOf_16 rfl hl rfl ?_
      refine n_ne (tgt := 30) hx hb d_M_linkOf_17 (by decide) (by omega) (by omega) (fun c2 => ?_) (fun c2 => ?_)
      · exact nxt (fun z => c2 z.1)
      · refine q_al_n (i := 0) hx hb d_M_linkOf_20 rfl hl rfl ?_
        refine s_getr (C := R_M) (T := F_M) (N := 13) (ci := 7) hx hb hg in_M hown hK hM km rfl 3 (by decide) rfl (hg _ kw_458) (fun _ h9 => h9) d_M_linkOf_21 ?_
        rw [r1]
        refine q_iload_n (i := 3) hx hb d_M_linkOf_24 rfl hl rfl ?_
        refine s_ild (t := 0) hx hb hK hM k1 rfl rfl (vp_in_nI (show k < 4096 by omega) (by omega)) d_M_linkOf_25 ?_
        rw [nI_clamp (by omega), hi.to (show k < 4096 by omega)]
        refine q_iload_n (i := 2) hx hb d_M_linkOf_26 rfl hl rfl ?_
        refine n_eq (tgt := 36) hx hb d_M_linkOf_27 (by decide) (by omega) (by omega) (fun c3 => ?_) (fun c3 => ?_)
        · exact kk k ls (Or.inl ⟨hkN, c2, c3⟩) hl
        · exact nxt (fun z => c3 z.2)
set_option maxHeartbeats 4000000 in
set_option maxRecDepth 100000 in
theorem m_M_linkOf (l : Launch) (D : va_G) (dA : Nat → ClassId) (S : sS) (sz : Nat) (m0 : Nat) (ar cn : Nat → Nat) (nA : Nat → Nat → Nat) (fb : Nat → Nat → Bool) (a b : Nat) (hw : Mw S.1 S.2.1 m0 ar) (hi : Mi S.2.2.1 m0 ar cn nA fb) (hL : cn 1 < 4096) (hfr : ∀ k, k < cn 1 → nA 0 k < 8192 ∧ nA 1 k < 8192) (ha9 : a < 8192) (hb9 : b < 8192) :
    cI l y_M_linkOf c_M_linkOf 4 (some .int) (rmk 0 0 0) D dA S sz [.ref m0, .int (nI a), .int (nI b)] (fun x u => u = S ∧ ((∃ k, k < cn 1 ∧ nA 0 k = a ∧ nA 1 k = b ∧ x = nI k) ∨ ((∀ k, k < cn 1 → ¬ (nA 0 k = a ∧ nA 1 k = b)) ∧ x = -1))) (0) (0) := by
  obtain ⟨kd, rf, it, lg⟩ := S
  obtain ⟨km, ⟨r0, r1, r2, r3, r4, r5, r6, r7⟩, ⟨k0, k1, k2, k3, k4, k5, k6, k7⟩, hdis⟩ := id hw
  dsimp only at km r0 r1 r2 r3 r4 r5 r6 r7 k0 k1 k2 k3 k4 k5 k6 k7 hi hw
  have e1 := hi.L
  refine s_met (cc := c_M_linkOf) (maxL := 4) (by decide) rfl (by simp [Value.category]) (by simp [lg_sl, Value.category]) ?_
  intro p e s m args below meth c ls hx hb hr hts hown hlocks hin hml hK hX hsz hM hl
  have hg := gd_hts hts
  have hl : lc ls 4 [some (va_rf (some m0)), some (.int (nI a)), some (.int (nI b)), none] := hl
  refine lv_iconst (v := nI 0) hx hb d_M_linkOf_0 (by decide) ?_
  refine q_istore_n (i := 3) hx hb d_M_linkOf_1 rfl hl (by decide) (fun ls hl => ?_)
  simp only [List.set_cons_succ, List.set_cons_zero] at hl
  refine lo_loop hx hb hml hown hg hK hX hw hi hL hfr ha9 hb9 hM ?_ (cn 1) 0 ls (by omega) (fun x hx9 => absurd hx9 (Nat.not_lt_zero x)) hl
  intro k ls hk hl
  refine q_iload_n (i := 3) hx hb d_M_linkOf_36 rfl hl rfl ?_
  refine q_al_n (i := 0) hx hb d_M_linkOf_37 rfl hl rfl ?_
  refine s_geti (C := R_M) (T := F_M) (N := 13) (ci := 7) hx hb hg in_M hown hK hM km rfl 1 (by decide) rfl (hg _ kw_456) (fun _ h9 => h9) d_M_linkOf_38 ?_
  rw [e1]
  refine n_ge (tgt := 48) hx hb d_M_linkOf_41 (by decide) (by rcases hk with ⟨z, -⟩ | ⟨z, -⟩ <;> omega) (by omega) (fun c1 => ?_) (fun c1 => ?_)
  · refine lv_iconst (v := -1) hx hb d_M_linkOf_48 (by decide) ?_
    refine s_iret hx hb hr hM ⟨rfl, ?_⟩ d_M_linkOf_49 hlocks
    rcases hk with ⟨z, -⟩ | ⟨-, z⟩
    · omega
    · exact Or.inr ⟨z, rfl⟩
  · refine q_iload_n (i := 3) hx hb d_M_linkOf_44 rfl hl rfl ?_
    refine lv_goto (tgt := 49) hx hb d_M_linkOf_45 (by decide) ?_
    refine s_iret hx hb hr hM ⟨rfl, ?_⟩ d_M_linkOf_49 hlocks
    rcases hk with ⟨z, z2, z3⟩ | ⟨z, -⟩
    · exact Or.inl ⟨k, z, z2, z3, rfl⟩
    · omega
/-- the rows of links with place k taken out, as far as place i -/
def cutA (nA : Nat → Nat → Nat) (k i : Nat) (r x : Nat) : Nat := if (r = 0 ∨ r = 1) ∧ k ≤ x ∧ x < i then nA r (x + 1) else nA r x
theorem cutA_self (nA : Nat → Nat → Nat) (k : Nat) : cutA nA k k = nA := by
  funext r x
  unfold cutA
  rw [if_neg (by omega)]
theorem cutA_step {nA : Nat → Nat → Nat} {k i : Nat} (h : k ≤ i) : up2 (up2 (cutA nA k i) 0 i (nA 0 (i + 1))) 1 i (nA 1 (i + 1)) = cutA nA k (i + 1) := by
  funext r x
  simp only [cutA, up2]
  by_cases e1 : r = 1
  · by_cases e2 : x = i
    · subst e1; subst e2
      rw [if_pos ⟨rfl, rfl⟩, if_pos (by omega)]
    · rw [if_neg (fun z => e2 z.2), if_neg (fun z => e2 z.2)]
      by_cases q : (r = 0 ∨ r = 1) ∧ k ≤ x ∧ x < i
      · rw [if_pos q, if_pos (by omega)]
      · rw [if_neg q, if_neg (by omega)]
  · rw [if_neg (fun z => e1 z.1)]
    by_cases e0 : r = 0
    · by_cases e2 : x = i
      · subst e0; subst e2
        rw [if_pos ⟨rfl, rfl⟩, if_pos (by omega)]
      · rw [if_neg (fun z => e2 z.2)]
        by_cases q : (r = 0 ∨ r = 1) ∧ k ≤ x ∧ x < i
        · rw [if_pos q, if_pos (by omega)]
        · rw [if_neg q, if_neg (by omega)]
    · rw [if_neg (fun z => e0 z.1), if_neg (by omega), if_neg (by omega)]
set_option maxHeartbeats 4000000 in
set_option maxRecDepth 100000 in
theorem cu_loop {p : Program} {l : Launch} {e : Env} {s : State} {m : MethodId} {args : Array Value} {below : List Frame} {meth : Method} {c : Code} {D : va_G} {dA : Nat → ClassId} {A : Nat → Prop} {Q : State → Prop} (hx : p.tables.exec = Jvm.exec) (hb : c.code = c_M_cut) (hml : c.maxLocals = 3) (hown : s.vm.findClass R_M = some m.cls) (hg : ∀ w ∈ gd, w.before args s = true) (hK : va_K D cls (tys dA) s) (hX : sKx s) {R9 : Room} {kd : Nat → Option sK} {rf : Nat → Nat → Option Nat} {lg : Nat → Nat → Int64} {m0 : Nat} {ar cn : Nat → Nat} {nA : Nat → Nat → Nat} {fb : Nat → Nat → Bool} (hw : Mw kd rf m0 ar) (hL : cn 1 < 4096) {k : Nat} {z0 : Int32}
    (kk : ∀ (it : Nat → Nat → Int32) (H : Heap) (locs : List Loc) (ls : Array Slot) (o : Option Value), SW D dA A s.heap (kd, rf, it, lg) H locs → lc ls 3 [some (va_rf (some m0)), some (.int (nI k)), o] → Mi it m0 ar cn (cutA nA k (cn 1 - 1)) fb → it m0 0 = z0 → W p l e R9 s m args below meth c H locs 0 0 Q (F0 m 46 ls [])) :
    ∀ (d i : Nat) (it : Nat → Nat → Int32) (H : Heap) (locs : List Loc) (ls : Array Slot), i + d + 1 = cn 1 → k ≤ i → SW D dA A s.heap (kd, rf, it, lg) H locs → lc ls 3 [some (va_rf (some m0)), some (.int (nI k)), some (.int (nI i))] → Mi it m0 ar cn (cutA nA k i) fb → it m0 0 = z0 → W p l e R9 s m args below meth c H locs 0 0 Q (F0 m 2 ls []) := by
  obtain ⟨km, ⟨r0, r1, r2, r3, r4, r5, r6, r7⟩, ⟨k0, k1, k2, k3, k4, k5, k6, k7⟩, hdis⟩ := id hw
  intro d
  induction d with
  | zero =>
    intro i it H locs ls hd hki hM hl hi hz
    have hk0 : i = cn 1 - 1 := by omega
    have e1 := hi.L
    refine q_iload_n (i := 2) hx hb d_M_cut_2 rfl hl rfl ?_
    refine lv_iconst (v := 1) hx hb d_M_cut_3 (by decide) ?_
    refine lv_iadd hx hb d_M_cut_4 ?_
    rw [nI_1]
    refine q_al_n (i := 0) hx hb d_M_cut_5 rfl hl rfl ?_
    refine s_geti (C := R_M) (T := F_M) (N := 13) (ci := 7) hx hb hg in_M hown hK hM km rfl 1 (by decide) rfl (hg _ kw_456) (fun _ h9 => h9) d_M_cut_6 ?_
    rw [e1]
    refine n_ge (tgt := 46) hx hb d_M_cut_9 (by decide) (by omega) (by omega) (fun c1 => ?_) (fun c1 => ?_)
    · rw [hk0] at hi
      exact kk it H locs ls _ hM hl hi hz
    · omega
  | succ d ih =>
    intro i it H locs ls hd hki hM hl hi hz
    have e1 := hi.L
    have hi1 : i < 4096 := by omega
    have hi2 : i + 1 < 4096 := by omega
    refine q_iload_n (i := 2) hx hb d_M_cut_2 rfl hl rfl ?_
    refine lv_iconst (v := 1) hx hb d_M_cut_3 (by decide) ?_
    refine lv_iadd hx hb d_M_cut_4 ?_
    rw [nI_1]
    refine q_al_n (i := 0) hx hb d_M_cut_5 rfl hl rfl ?_
    refine s_geti (C := R_M) (T := F_M) (N := 13) (ci := 7) hx hb hg in_M hown hK hM km rfl 1 (by decide) rfl (hg _ kw_456) (fun _ h9 => h9) d_M_cut_6 ?_
    rw [e1]
    refine n_ge (tgt := 46) hx hb d_M_cut_9 (by decide) (by omega) (by omega) (fun c1 => ?_) (fun c1 => ?_)
    · omega
    · refine q_al_n (i := 0) hx hb d_M_cut_12 rfl hl rfl ?_
      refine s_getr (C := R_M) (T := F_M) (N := 13) (ci := 7) hx hb hg in_M hown hK hM km rfl 2 (by decide) rfl (hg _ kw_457) (fun _ h9 => h9) d_M_cut_13 ?_
      rw [r0]
      refine q_iload_n (i := 2) hx hb d_M_cut_16 rfl hl rfl ?_
      refine q_al_n (i := 0) hx hb d_M_cut_17 rfl hl rfl ?_
      refine s_getr (C := R_M) (T := F_M) (N := 13) (ci := 7) hx hb hg in_M hown hK hM km rfl 2 (by decide) rfl (hg _ kw_457) (fun _ h9 => h9) d_M_cut_18 ?_
      rw [r0]
      refine q_iload_n (i := 2) hx hb d_M_cut_21 rfl hl rfl ?_
      refine lv_iconst (v := 1) hx hb d_M_cut_22 (by decide) ?_
      refine lv_iadd hx hb d_M_cut_23 ?_
      rw [nI_1]
      refine s_ild (t := 0) hx hb hK hM k0 rfl rfl (vp_in_nI hi2 (by omega)) d_M_cut_24 ?_
      rw [nI_clamp (by omega), hi.fr hi2]
      refine s_ist (t := 0) hx hb hK hM k0 rfl rfl (vp_in_nI hi1 (by omega)) d_M_cut_25 (fun H locs hM => ?_)
      rw [nI_clamp (by omega)] at hM
      have hj := Mi_n hw hi (i := 0) (Or.inl rfl) i (cutA nA k i 0 (i + 1))
      refine q_al_n (i := 0) hx hb d_M_cut_26 rfl hl rfl ?_
      refine s_getr (C := R_M) (T := F_M) (N := 13) (ci := 7) hx hb hg in_M hown hK hM km rfl 3 (by decide) rfl (hg _ kw_458) (fun _ h9 => h9) d_M_cut_27 ?_
      rw [r1]
      refine q_iload_n (i := 2) hx hb d_M_cut_30 rfl hl rfl ?_
      refine q_al_n (i := 0) hx hb d_M_cut_31 rfl hl rfl ?_
      refine s_getr (C := R_M) (T := F_M) (N := 13) (ci := 7) hx hb hg in_M hown hK hM km rfl 3 (by decide) rfl (hg _ kw_458) (fun _ h9 => h9) d_M_cut_32 ?_
      rw [r1]
      refine q_iload_n (i := 2) hx hb d_M_cut_35 rfl hl rfl ?_
      refine lv_iconst (v := 1) hx hb d_M_cut_36 (by decide) ?_
      refine lv_iadd hx hb d_M_cut_37 ?_
      rw [nI_1]
      refine s_ild (t := 0) hx hb hK hM k1 rfl rfl (vp_in_nI hi2 (by omega)) d_M_cut_38 ?_
      rw [nI_clamp (by omega), hj.to hi2]
      refine s_ist (t := 0) hx hb hK hM k1 rfl rfl (vp_in_nI hi1 (by omega)) d_M_cut_39 (fun H locs hM => ?_)
      rw [nI_clamp (by omega)] at hM
      have hj2 := Mi_n hw hj (i := 1) (Or.inr (Or.inl rfl)) i (up2 (cutA nA k i) 0 i (cutA nA k i 0 (i + 1)) 1 (i + 1))
      have q0 : cutA nA k i 0 (i + 1) = nA 0 (i + 1) := if_neg (by omega)
      have q1 : up2 (cutA nA k i) 0 i (cutA nA k i 0 (i + 1)) 1 (i + 1) = nA 1 (i + 1) := by
        rw [up2_off _ _ (by decide)]; exact if_neg (by omega)
      rw [q1, q0] at hj2
      rw [q1, q0] at hM
      rw [cutA_step hki] at hj2
      refine q_iinc hx hb (nI (i + 1)) d_M_cut_40 hl rfl (nI_1 i) (by decide) (fun ls hl => ?_)
      simp only [List.set_cons_succ, List.set_cons_zero] at hl
      refine lv_goto (tgt := 2) hx hb d_M_cut_43 (by decide) ?_
      refine ih (i + 1) _ H locs ls (by omega) (by omega) hM hl hj2 ?_
      rw [up2_off _ _ (fun z => hw.nm (by decide) z.symm), up2_off _ _ (fun z => hw.nm (by decide) z.symm)]; exact hz
set_option maxHeartbeats 4000000 in
set_option maxRecDepth 100000 in
theorem m_M_cut (l : Launch) (D : va_G) (dA : Nat → ClassId) (S : sS) (sz : Nat) (m0 : Nat) (ar cn : Nat → Nat) (nA : Nat → Nat → Nat) (fb : Nat → Nat → Bool) (k : Nat) (hw : Mw S.1 S.2.1 m0 ar) (hi : Mi S.2.2.1 m0 ar cn nA fb) (hL : cn 1 < 4096) (hk : k < cn 1) :
    cV l y_M_cut c_M_cut 3 (rmk 0 0 0) D dA S sz [.ref m0, .int (nI k)] (fun u => ∃ it', u = (S.1, S.2.1, it', S.2.2.2) ∧ Mi it' m0 ar (va_up cn 1 (cn 1 - 1)) (cutA nA k (cn 1 - 1)) fb ∧ it' m0 0 = S.2.2.1 m0 0) (0) (0) := by
  obtain ⟨kd, rf, it, lg⟩ := S
  obtain ⟨km, ⟨r0, r1, r2, r3, r4, r5, r6, r7⟩, ⟨k0, k1, k2, k3, k4, k5, k6, k7⟩, hdis⟩ := id hw
  dsimp only at km r0 r1 r2 r3 r4 r5 r6 r7 k0 k1 k2 k3 k4 k5 k6 k7 hi hw
  refine s_met (cc := c_M_cut) (maxL := 3) (by decide) rfl (by simp [Value.category]) (by simp [lg_sl, Value.category]) ?_
  intro p e s m args below meth c ls hx hb hr hts hown hlocks hin hml hK hX hsz hM hl
  have hg := gd_hts hts
  have hl : lc ls 3 [some (va_rf (some m0)), some (.int (nI k)), none] := hl
  refine q_iload_n (i := 1) hx hb d_M_cut_0 rfl hl rfl ?_
  refine q_istore_n (i := 2) hx hb d_M_cut_1 rfl hl (by decide) (fun ls hl => ?_)
  simp only [List.set_cons_succ, List.set_cons_zero] at hl
  refine cu_loop hx hb hml hown hg hK hX hw hL (k := k) (nA := nA) (fb := fb) (z0 := it m0 0) ?_ (cn 1 - 1 - k) k it s.heap [] ls (by omega) (Nat.le_refl _) hM hl (by rw [cutA_self]; exact hi) rfl
  intro it2 H locs ls o hM hl hi2 hz
  refine q_al_n (i := 0) hx hb d_M_cut_46 rfl hl rfl ?_
  refine lv_dup hx hb d_M_cut_47 rfl ?_
  refine s_geti (C := R_M) (T := F_M) (N := 13) (ci := 7) hx hb hg in_M hown hK hM km rfl 1 (by decide) rfl (hg _ kw_456) (fun _ h9 => h9) d_M_cut_48 ?_
  rw [hi2.L]
  have e1 : nI (cn 1) - 1 = nI (cn 1 - 1) := nI_sub (a := cn 1) (b := 1) (by omega)
  refine lv_iconst (v := 1) hx hb d_M_cut_51 (by decide) ?_
  refine lv_isub hx hb d_M_cut_52 ?_
  rw [e1]
  refine s_puti (C := R_M) (T := F_M) (N := 13) (ci := 7) hx hb hg in_M ft_M ft_M_ok fn_M hown hK hM km rfl 1 (by decide) rfl (hg _ kw_456) (fun _ h9 => h9) rfl rfl rfl d_M_cut_53 (fun H locs hM => ?_)
  refine s_vret hx hb hr hM ⟨_, rfl, Mi_c hw hi2 1 (cn 1 - 1), ?_⟩ d_M_cut_56 hlocks
  rw [up2_ne _ _ (by decide)]; exact hz
