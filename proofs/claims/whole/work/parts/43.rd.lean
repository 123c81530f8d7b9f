theorem Gr9.srnd {S : sS} {tb pa : Nat} {nd : Nat → Option Nat} {rd sr : Nat → List (Nat × Nat)} (hG : Gr9 S tb pa nd rd sr) (x : Nat) : ((sr x).map Prod.snd).Nodup := by
  rw [List.nodup_iff_pairwise_ne, List.pairwise_iff_getElem]
  intro i j h1 h2 hij e
  have h1' : i < (sr x).length := by simpa using h1
  have h2' : j < (sr x).length := by simpa using h2
  have e' : ((sr x)[i]).2 = ((sr x)[j]).2 := by simpa using e
  have m1 := hG.2.2.2.2 x ((sr x)[i]).1 ((sr x)[i]).2 (List.getElem_mem h1')
  have m2 := hG.2.2.2.2 x ((sr x)[j]).1 ((sr x)[j]).2 (List.getElem_mem h2')
  rw [← e'] at m2
  have hnd2 := (hG.2.2.1 ((sr x)[i]).2).2.2.1
  obtain ⟨i1, hi1⟩ := List.getElem?_of_mem m1
  obtain ⟨i2, hi2⟩ := List.getElem?_of_mem m2
  have e1 : ((rd ((sr x)[i]).2).map Prod.snd)[i1]? = some x := by rw [List.getElem?_map, hi1]; rfl
  have e2 : ((rd ((sr x)[i]).2).map Prod.snd)[i2]? = some x := by rw [List.getElem?_map, hi2]; rfl
  have e3 := nd_ij hnd2 e1 e2
  rw [e3, hi2] at hi1
  have e4 : ((sr x)[j]).1 = ((sr x)[i]).1 := (Prod.mk.inj (Option.some.inj hi1)).1
  have e5 : ((sr x).map Prod.fst)[i]? = some ((sr x)[i]).1 := by rw [List.getElem?_map, List.getElem?_eq_getElem h1']; rfl
  have e6 : ((sr x).map Prod.fst)[j]? = some ((sr x)[i]).1 := by rw [List.getElem?_map, List.getElem?_eq_getElem h2', ← e4]; rfl
  have := nd_ij (hG.2.2.1 x).2.1 e5 e6
  omega
theorem mem_sn {l : List (Nat × Nat)} {u : Nat} : u ∈ l.map Prod.snd ↔ ∃ k, (k, u) ∈ l := by
  constructor
  · intro h
    obtain ⟨⟨k, w⟩, hm, e⟩ := List.mem_map.mp h
    have e' : w = u := e
    rw [← e']; exact ⟨k, hm⟩
  · rintro ⟨k, h⟩
    exact List.mem_map.mpr ⟨(k, u), h, rfl⟩
/-- a set that has n members -/
def crd (P : Nat → Prop) (n : Nat) : Prop := ∃ L : List Nat, L.Nodup ∧ (∀ v, v ∈ L ↔ P v) ∧ L.length = n
theorem crd_eq {P : Nat → Prop} {n k : Nat} (h1 : crd P n) (h2 : crd P k) : n = k := by
  obtain ⟨L, a1, a2, a3⟩ := h1
  obtain ⟨M, b1, b2, b3⟩ := h2
  have := (List.perm_ext_iff_of_nodup a1 b1).mpr (fun x => by rw [a2, b2])
  rw [← a3, ← b3]; exact this.length_eq
set_option maxHeartbeats 4000000 in
set_option maxRecDepth 100000 in
theorem m_H_worked (l : Launch) (D : va_G) (dA : Nat → ClassId) (S : sS) (sz : Nat) (h0 mm : Nat) (E : Nat → Nat → Prop) (T Rg : Nat → Prop) (wl : List Nat) (rc : Nat) (k : Int32) (hH : Ho S h0 mm E T Rg wl rc) :
    cI l y_H_worked c_H_worked 2 (some .int) (rmk 2 0 0) D dA S sz [.ref h0, .int k] (fun x u => u = S ∧ ((vp_in k wl.length ∧ ∃ z, wl[k.toNatClampNeg]? = some z ∧ x = nI z) ∨ (¬ vp_in k wl.length ∧ x = -1))) (0) (0) := by
  obtain ⟨tb, pa, q, na, nd, rd, sr, nr, nc, nn, nf, hZ, hX0⟩ := hH
  obtain ⟨kd, rf, it, lg⟩ := S
  obtain ⟨⟨kh, e0, e1, e2, e3, e4⟩, ⟨kq, eq⟩, hG, hN, hna, hnr⟩ := id hZ
  dsimp only at kh e0 e1 e2 e3 e4 kq eq
  have hN2 := hN 2 (by decide)
  have hn2 := hX0.n2
  have hw2 := hX0.w2
  have hle := hN2.2.2.2.2.1
  have hc2 := hX0.hc 2 (by decide)
  refine s_met (cc := c_H_worked) (maxL := 2) (by decide) rfl (by simp [Value.category]) (by simp [lg_sl, Value.category]) ?_
  intro p e s m args below meth c ls hx hb hr hts hown hlocks hin hml hK hX hsz hM hl
  have hg := gd_hts hts
  have hl : lc ls 2 [some (va_rf (some h0)), some (.int k)] := hl
  refine q_al_n (i := 0) hx hb d_H_worked_0 rfl hl rfl ?_
  refine s_getr (C := R_H) (T := F_H) (N := 7) (ci := 0) hx hb hg in_H hown hK hM kh rfl 3 (by decide) rfl (hg _ kw_68) (fun _ h9 => h9) d_H_worked_1 ?_
  rw [e3]
  refine q_iload_n (i := 1) hx hb d_H_worked_4 rfl hl rfl ?_
  refine s_calli (r_V 1 [.int k] rfl hx hb hml hown hg (m_U_at l D dA _ _ (na 2) (nr 2) (nc 2) (nn 2) (nf 2) k hN2) (hM.pre hK hX) (hM.recv hK hN2.1 (q := cls.getD 5 (R_H, F_H, 7)) rfl) kw_99 kw_100 kw_101 kw_3 kw_102 (by decide +kernel) ⟨Nat.le_of_ble_eq_true rfl, Nat.le_of_ble_eq_true rfl⟩ rfl rfl hl.sz (by first | exact Nat.le_of_ble_eq_true rfl | simp [rf_cat] | simp [rf_cat, Value.category]) d_H_worked_5 ⟨Nat.le_refl _, Nat.le_refl _⟩ rfl) hM (fun r1 u H locs hp hM => ?_)
  obtain ⟨rfl, hp⟩ := hp
  refine s_iret hx hb hr hM ⟨rfl, ?_⟩ d_H_worked_8 hlocks
  rw [← hn2]
  rcases hp with ⟨hv, e⟩ | hp
  · refine Or.inl ⟨hv, _, hw2 _ ?_, e⟩
    obtain ⟨j, hj, ej⟩ := vp_in_of hv (by omega)
    rw [ej, nI_clamp (by omega)]; exact hj
  · exact Or.inr hp
set_option maxHeartbeats 4000000 in
set_option maxRecDepth 100000 in
theorem m_H_found (l : Launch) (D : va_G) (dA : Nat → ClassId) (S : sS) (sz : Nat) (h0 mm : Nat) (E : Nat → Nat → Prop) (T Rg : Nat → Prop) (wl : List Nat) (rc : Nat) (hH : Ho S h0 mm E T Rg wl rc) :
    cI l y_H_found c_H_found 1 (some .int) (rmk 2 0 0) D dA S sz [.ref h0] (fun x u => u = S ∧ x = nI rc) (0) (0) := by
  obtain ⟨tb, pa, q, na, nd, rd, sr, nr, nc, nn, nf, hZ, hX0⟩ := hH
  obtain ⟨kd, rf, it, lg⟩ := S
  obtain ⟨⟨kh, e0, e1, e2, e3, e4⟩, ⟨kq, eq⟩, hG, hN, hna, hnr⟩ := id hZ
  dsimp only at kh e0 e1 e2 e3 e4 kq eq
  have hc6 := hX0.c6
  dsimp only at hc6
  refine s_met (cc := c_H_found) (maxL := 1) (by decide) rfl (by simp [Value.category]) (by simp [lg_sl, Value.category]) ?_
  intro p e s m args below meth c ls hx hb hr hts hown hlocks hin hml hK hX hsz hM hl
  have hg := gd_hts hts
  have hl : lc ls 1 [some (va_rf (some h0))] := hl
  refine q_al_n (i := 0) hx hb d_H_found_0 rfl hl rfl ?_
  refine s_geti (C := R_H) (T := F_H) (N := 7) (ci := 0) hx hb hg in_H hown hK hM kh rfl 6 (by decide) rfl (hg _ kw_71) (fun _ h9 => h9) d_H_found_1 ?_
  rw [hc6]
  exact s_iret hx hb hr hM ⟨rfl, rfl⟩ d_H_found_4 hlocks
set_option maxHeartbeats 4000000 in
set_option maxRecDepth 100000 in
theorem m_H_ringed (l : Launch) (D : va_G) (dA : Nat → ClassId) (S : sS) (sz : Nat) (h0 mm : Nat) (E : Nat → Nat → Prop) (T Rg : Nat → Prop) (wl : List Nat) (rc : Nat) (k : Int32) (hH : Ho S h0 mm E T Rg wl rc) :
    cI l y_H_ringed c_H_ringed 3 (some .boolean) (rmk 2 0 0) D dA S sz [.ref h0, .int k] (fun x u => u = S ∧ ((x = 1 ∧ vp_in k 16384 ∧ Rg k.toNatClampNeg) ∨ (x = 0 ∧ ¬ (vp_in k 16384 ∧ Rg k.toNatClampNeg)))) (0) (0) := by
  obtain ⟨tb, pa, q, na, nd, rd, sr, nr, nc, nn, nf, hZ, hX0⟩ := hH
  obtain ⟨kd, rf, it, lg⟩ := S
  obtain ⟨⟨kh, e0, e1, e2, e3, e4⟩, ⟨kq, eq⟩, hG, hN, hna, hnr⟩ := id hZ
  dsimp only at kh e0 e1 e2 e3 e4 kq eq
  refine s_met (cc := c_H_ringed) (maxL := 3) (by decide) rfl (by simp [Value.category]) (by simp [lg_sl, Value.category]) ?_
  intro p e s m args below meth c ls hx hb hr hts hown hlocks hin hml hK hX hsz hM hl
  have hg := gd_hts hts
  have hl : lc ls 3 [some (va_rf (some h0)), some (.int k), none] := hl
  refine q_al_n (i := 0) hx hb d_H_ringed_0 rfl hl rfl ?_
  refine s_getr (C := R_H) (T := F_H) (N := 7) (ci := 0) hx hb hg in_H hown hK hM kh rfl 0 (by decide) rfl (hg _ kw_65) (fun _ h9 => h9) d_H_ringed_1 ?_
  rw [e0]
  refine q_iload_n (i := 1) hx hb d_H_ringed_4 rfl hl rfl ?_
  refine s_callq (r_V 1 [.int k] rfl hx hb hml hown hg (m_T_at l D dA _ _ tb pa nd k hG.1) (hM.pre hK hX) (hM.recv hK hG.1.1 (q := cls.getD 1 (R_H, F_H, 7)) rfl) kw_255 kw_256 kw_257 kw_2 kw_258 (by decide +kernel) ⟨Nat.le_of_ble_eq_true rfl, Nat.le_of_ble_eq_true rfl⟩ rfl rfl hl.sz (by first | exact Nat.le_of_ble_eq_true rfl | simp [rf_cat] | simp [rf_cat, Value.category]) d_H_ringed_5 ⟨Nat.le_refl _, Nat.le_refl _⟩ rfl) hM (fun r1 u H locs hp hM => ?_)
  obtain ⟨rfl, hp⟩ := hp
  refine q_astore_n (i := 2) hx hb (_) d_H_ringed_8 rfl hl (by decide) (fun ls hl => ?_)
  simp only [List.set_cons_succ, List.set_cons_zero] at hl
  refine q_al_n (i := 2) hx hb d_H_ringed_9 rfl hl rfl ?_
  refine q_ifnull (tgt := 24) hx hb d_H_ringed_10 (by decide) (fun c1 => ?_) (fun a c1 => ?_)
  · refine lv_iconst (v := 0) hx hb d_H_ringed_24 (by decide) ?_
    refine s_zret hx hb hr rfl hM ⟨rfl, Or.inr ⟨rfl, fun z => ?_⟩⟩ d_H_ringed_25 hlocks
    rcases hp with ⟨-, e⟩ | ⟨e, -⟩
    · have := (hX0.f6 k.toNatClampNeg).1 z.2
      rw [fl_no (e.symm.trans c1)] at this; cases this
    · exact e z.1
  · rcases hp with ⟨hv, e⟩ | ⟨-, e⟩
    · have hnd : nd k.toNatClampNeg = some a := e.symm.trans c1
      have ka := (hG.nk hnd).2.1
      dsimp only at ka
      have hf := hX0.f6 k.toNatClampNeg
      rw [fl_at hnd] at hf
      dsimp only at hf
      rw [c1] at hl
      refine q_al_n (i := 2) hx hb d_H_ringed_13 rfl hl rfl ?_
      refine s_geti (C := R_N) (T := F_N) (N := 9) (ci := 3) hx hb hg in_N hown hK hM ka rfl 6 (by decide) rfl (hg _ kw_143) (fun _ h9 => h9) d_H_ringed_14 ?_
      refine lv_if_eq (tgt := 24) hx hb d_H_ringed_17 (by decide) (fun c2 => ?_) (fun c2 => ?_)
      · refine lv_iconst (v := 0) hx hb d_H_ringed_24 (by decide) ?_
        refine s_zret hx hb hr rfl hM ⟨rfl, Or.inr ⟨rfl, fun z => ?_⟩⟩ d_H_ringed_25 hlocks
        rw [hf.1 z.2] at c2; cases c2
      · refine lv_iconst (v := 1) hx hb d_H_ringed_20 (by decide) ?_
        refine lv_goto (tgt := 25) hx hb d_H_ringed_21 (by decide) ?_
        refine s_zret hx hb hr rfl hM ⟨rfl, Or.inl ⟨rfl, hv, Classical.byContradiction fun z => c2 (hf.2 z)⟩⟩ d_H_ringed_25 hlocks
    · rw [e] at c1; cases c1
set_option maxHeartbeats 4000000 in
set_option maxRecDepth 100000 in
theorem m_H_touched (l : Launch) (D : va_G) (dA : Nat → ClassId) (S : sS) (sz : Nat) (h0 mm : Nat) (E : Nat → Nat → Prop) (T Rg : Nat → Prop) (wl : List Nat) (rc : Nat) (k : Int32) (hH : Ho S h0 mm E T Rg wl rc) :
    cI l y_H_touched c_H_touched 3 (some .boolean) (rmk 2 0 0) D dA S sz [.ref h0, .int k] (fun x u => u = S ∧ ((x = 1 ∧ vp_in k 16384 ∧ T k.toNatClampNeg) ∨ (x = 0 ∧ ¬ (vp_in k 16384 ∧ T k.toNatClampNeg)))) (0) (0) := by
  obtain ⟨tb, pa, q, na, nd, rd, sr, nr, nc, nn, nf, hZ, hX0⟩ := hH
  obtain ⟨kd, rf, it, lg⟩ := S
  obtain ⟨⟨kh, e0, e1, e2, e3, e4⟩, ⟨kq, eq⟩, hG, hN, hna, hnr⟩ := id hZ
  dsimp only at kh e0 e1 e2 e3 e4 kq eq
  refine s_met (cc := c_H_touched) (maxL := 3) (by decide) rfl (by simp [Value.category]) (by simp [lg_sl, Value.category]) ?_
  intro p e s m args below meth c ls hx hb hr hts hown hlocks hin hml hK hX hsz hM hl
  have hg := gd_hts hts
  have hl : lc ls 3 [some (va_rf (some h0)), some (.int k), none] := hl
  refine q_al_n (i := 0) hx hb d_H_touched_0 rfl hl rfl ?_
  refine s_getr (C := R_H) (T := F_H) (N := 7) (ci := 0) hx hb hg in_H hown hK hM kh rfl 0 (by decide) rfl (hg _ kw_65) (fun _ h9 => h9) d_H_touched_1 ?_
  rw [e0]
  refine q_iload_n (i := 1) hx hb d_H_touched_4 rfl hl rfl ?_
  refine s_callq (r_V 1 [.int k] rfl hx hb hml hown hg (m_T_at l D dA _ _ tb pa nd k hG.1) (hM.pre hK hX) (hM.recv hK hG.1.1 (q := cls.getD 1 (R_H, F_H, 7)) rfl) kw_255 kw_256 kw_257 kw_2 kw_258 (by decide +kernel) ⟨Nat.le_of_ble_eq_true rfl, Nat.le_of_ble_eq_true rfl⟩ rfl rfl hl.sz (by first | exact Nat.le_of_ble_eq_true rfl | simp [rf_cat] | simp [rf_cat, Value.category]) d_H_touched_5 ⟨Nat.le_refl _, Nat.le_refl _⟩ rfl) hM (fun r1 u H locs hp hM => ?_)
  obtain ⟨rfl, hp⟩ := hp
  refine q_astore_n (i := 2) hx hb (_) d_H_touched_8 rfl hl (by decide) (fun ls hl => ?_)
  simp only [List.set_cons_succ, List.set_cons_zero] at hl
  refine q_al_n (i := 2) hx hb d_H_touched_9 rfl hl rfl ?_
  refine q_ifnull (tgt := 24) hx hb d_H_touched_10 (by decide) (fun c1 => ?_) (fun a c1 => ?_)
  · refine lv_iconst (v := 0) hx hb d_H_touched_24 (by decide) ?_
    refine s_zret hx hb hr rfl hM ⟨rfl, Or.inr ⟨rfl, fun z => ?_⟩⟩ d_H_touched_25 hlocks
    rcases hp with ⟨-, e⟩ | ⟨e, -⟩
    · have := (hX0.f5 k.toNatClampNeg).1 z.2
      rw [fl_no (e.symm.trans c1)] at this; cases this
    · exact e z.1
  · rcases hp with ⟨hv, e⟩ | ⟨-, e⟩
    · have hnd : nd k.toNatClampNeg = some a := e.symm.trans c1
      have ka := (hG.nk hnd).2.1
      dsimp only at ka
      have hf := hX0.f5 k.toNatClampNeg
      rw [fl_at hnd] at hf
      dsimp only at hf
      rw [c1] at hl
      refine q_al_n (i := 2) hx hb d_H_touched_13 rfl hl rfl ?_
      refine s_geti (C := R_N) (T := F_N) (N := 9) (ci := 3) hx hb hg in_N hown hK hM ka rfl 5 (by decide) rfl (hg _ kw_142) (fun _ h9 => h9) d_H_touched_14 ?_
      refine lv_if_eq (tgt := 24) hx hb d_H_touched_17 (by decide) (fun c2 => ?_) (fun c2 => ?_)
      · refine lv_iconst (v := 0) hx hb d_H_touched_24 (by decide) ?_
        refine s_zret hx hb hr rfl hM ⟨rfl, Or.inr ⟨rfl, fun z => ?_⟩⟩ d_H_touched_25 hlocks
        rw [hf.1 z.2] at c2; cases c2
      · refine lv_iconst (v := 1) hx hb d_H_touched_20 (by decide) ?_
        refine lv_goto (tgt := 25) hx hb d_H_touched_21 (by decide) ?_
        refine s_zret hx hb hr rfl hM ⟨rfl, Or.inl ⟨rfl, hv, Classical.byContradiction fun z => c2 (hf.2 z)⟩⟩ d_H_touched_25 hlocks
    · rw [e] at c1; cases c1
/-- what links answers -/
def LinksP (E : Nat → Nat → Prop) (k w x : Int32) : Prop := (¬ (vp_in k 16384 ∧ (w = 0 ∨ w = 1)) ∧ x = -1) ∨ (vp_in k 16384 ∧ w = 0 ∧ ∃ n, crd (fun v => E v k.toNatClampNeg) n ∧ x = nI n) ∨ (vp_in k 16384 ∧ w = 1 ∧ ∃ n, crd (fun v => E k.toNatClampNeg v) n ∧ x = nI n)
set_option maxHeartbeats 4000000 in
set_option maxRecDepth 100000 in
theorem m_H_links (l : Launch) (D : va_G) (dA : Nat → ClassId) (S : sS) (sz : Nat) (h0 mm : Nat) (E : Nat → Nat → Prop) (T Rg : Nat → Prop) (wl : List Nat) (rc : Nat) (k w : Int32) (hH : Ho S h0 mm E T Rg wl rc) :
    cI l y_H_links c_H_links 4 (some .int) (rmk 2 0 0) D dA S sz [.ref h0, .int k, .int w] (fun x u => u = S ∧ LinksP E k w x) (0) (0) := by
  obtain ⟨tb, pa, q, na, nd, rd, sr, nr, nc, nn, nf, hZ, hX0⟩ := hH
  obtain ⟨kd, rf, it, lg⟩ := S
  obtain ⟨⟨kh, e0, e1, e2, e3, e4⟩, ⟨kq, eq⟩, hG, hN, hna, hnr⟩ := id hZ
  dsimp only at kh e0 e1 e2 e3 e4 kq eq
  refine s_met (cc := c_H_links) (maxL := 4) (by decide) rfl (by simp [Value.category]) (by simp [lg_sl, Value.category]) ?_
  intro p e s m args below meth c ls hx hb hr hts hown hlocks hin hml hK hX hsz hM hl
  have hg := gd_hts hts
  have hl : lc ls 4 [some (va_rf (some h0)), some (.int k), some (.int w), none] := hl
  have main : vp_in k 16384 → (w = 0 ∨ w = 1) → ∀ (H : Heap) (locs : List Loc), SW D dA (sA (kd, rf, it, lg) sz) s.heap (kd, rf, it, lg) H locs → W p l e (rmk 2 0 0) s m args below meth c H locs 0 0 (MQ below (va_Qi (fun x u => u = (kd, rf, it, lg) ∧ LinksP E k w x) (SB D dA (kd, rf, it, lg) sz) (sA (kd, rf, it, lg) sz)) args s 0 0 (sA (kd, rf, it, lg) sz)) (F0 m 18 ls []) := by
    intro hv hw H locs hM
    refine q_al_n (i := 0) hx hb d_H_links_18 rfl hl rfl ?_
    refine s_getr (C := R_H) (T := F_H) (N := 7) (ci := 0) hx hb hg in_H hown hK hM kh rfl 0 (by decide) rfl (hg _ kw_65) (fun _ h9 => h9) d_H_links_19 ?_
    rw [e0]
    refine q_iload_n (i := 1) hx hb d_H_links_22 rfl hl rfl ?_
    refine s_callq (r_V 1 [.int k] rfl hx hb hml hown hg (m_T_at l D dA _ _ tb pa nd k hG.1) (hM.pre hK hX) (hM.recv hK hG.1.1 (q := cls.getD 1 (R_H, F_H, 7)) rfl) kw_255 kw_256 kw_257 kw_2 kw_258 (by decide +kernel) ⟨Nat.le_of_ble_eq_true rfl, Nat.le_of_ble_eq_true rfl⟩ rfl rfl hl.sz (by first | exact Nat.le_of_ble_eq_true rfl | simp [rf_cat] | simp [rf_cat, Value.category]) d_H_links_23 ⟨Nat.le_refl _, Nat.le_refl _⟩ rfl) hM (fun r1 u H locs hp hM => ?_)
    obtain ⟨rfl, hp⟩ := hp
    have e : r1 = nd k.toNatClampNeg := hp.elim (fun z => z.2) (fun z => absurd hv z.1)
    subst e
    refine q_astore_n (i := 3) hx hb (_) d_H_links_26 rfl hl (by decide) (fun ls hl => ?_)
    simp only [List.set_cons_succ, List.set_cons_zero] at hl
    refine q_al_n (i := 3) hx hb d_H_links_27 rfl hl rfl ?_
    refine q_ifnonnull (tgt := 33) hx hb d_H_links_28 (by decide) (fun a c1 => ?_) (fun c1 => ?_)
    · have ka := (hG.nk c1).2.1
      obtain ⟨-, hrc, -, hsc⟩ := hG.2.1 _ a c1
      dsimp only at ka hrc hsc
      rw [c1] at hl
      refine q_iload_n (i := 2) hx hb d_H_links_33 rfl hl rfl ?_
      refine lv_if_ne (tgt := 44) hx hb d_H_links_34 (by decide) (fun c2 => ?_) (fun c2 => ?_)
      · have hw1 : w = 1 := hw.elim (fun z => absurd z c2) id
        refine q_al_n (i := 3) hx hb d_H_links_44 rfl hl rfl ?_
        refine s_geti (C := R_N) (T := F_N) (N := 9) (ci := 3) hx hb hg in_N hown hK hM ka rfl 3 (by decide) rfl (hg _ kw_138) (fun _ h9 => h9) d_H_links_45 ?_
        rw [hrc]
        refine s_iret hx hb hr hM ⟨rfl, Or.inr (Or.inr ⟨hv, hw1, _, ⟨(rd k.toNatClampNeg).map Prod.snd, (hG.2.2.1 _).2.2.1, fun v => ?_, List.length_map _⟩, rfl⟩)⟩ d_H_links_48 hlocks
        dsimp only; rw [hX0.hE]; exact mem_sn
      · refine q_al_n (i := 3) hx hb d_H_links_37 rfl hl rfl ?_
        refine s_geti (C := R_N) (T := F_N) (N := 9) (ci := 3) hx hb hg in_N hown hK hM ka rfl 4 (by decide) rfl (hg _ kw_141) (fun _ h9 => h9) d_H_links_38 ?_
        rw [hsc]
        refine lv_goto (tgt := 48) hx hb d_H_links_41 (by decide) ?_
        refine s_iret hx hb hr hM ⟨rfl, Or.inr (Or.inl ⟨hv, c2, _, ⟨(sr k.toNatClampNeg).map Prod.snd, hG.srnd _, fun v => ?_, List.length_map _⟩, rfl⟩)⟩ d_H_links_48 hlocks
        dsimp only
        rw [hX0.hE, mem_sn]
        exact ⟨fun ⟨j, hj⟩ => ⟨j, hG.2.2.2.2 _ _ _ hj⟩, fun ⟨j, hj⟩ => ⟨j, (hG.2.2.2.1 _ _ _ hj).2.2.2⟩⟩
    · have hno := (hG.2.2.1 k.toNatClampNeg).2.2.2 c1
      refine lv_iconst (v := 0) hx hb d_H_links_31 (by decide) ?_
      refine s_iret hx hb hr hM ⟨rfl, ?_⟩ d_H_links_32 hlocks
      rcases hw with hw | hw
      · refine Or.inr (Or.inl ⟨hv, hw, 0, ⟨[], List.nodup_nil, fun v => ?_, rfl⟩, rfl⟩)
        dsimp only
        rw [hX0.hE]
        refine ⟨fun z => absurd z (List.not_mem_nil), fun ⟨j, hj⟩ => ?_⟩
        have := (hG.2.2.2.1 _ _ _ hj).2.2.2
        rw [hno.2] at this; cases this
      · refine Or.inr (Or.inr ⟨hv, hw, 0, ⟨[], List.nodup_nil, fun v => ?_, rfl⟩, rfl⟩)
        dsimp only
        rw [hX0.hE]
        refine ⟨fun z => absurd z (List.not_mem_nil), fun ⟨j, hj⟩ => ?_⟩
        rw [hno.1] at hj; cases hj
  refine q_iload_n (i := 1) hx hb d_H_links_0 rfl hl rfl ?_
  refine s_calli (r_S 1 [.int k] rfl hx hb hml hown hg (m_H_isNode l D dA _ _ k) (hM.pre hK hX) kw_266 kw_260 kw_1 kw_261 (by decide +kernel) ⟨Nat.le_of_ble_eq_true rfl, Nat.le_of_ble_eq_true rfl⟩ rfl rfl hl.sz (by first | exact Nat.le_of_ble_eq_true rfl | simp [rf_cat] | simp [rf_cat, Value.category]) d_H_links_1 ⟨Nat.le_refl _, Nat.le_refl _⟩ rfl) hM (fun r1 u H locs hp hM => ?_)
  obtain ⟨rfl, hp⟩ := hp
  refine lv_if_eq (tgt := 16) hx hb d_H_links_4 (by decide) (fun c1 => ?_) (fun c1 => ?_)
  · have hv : ¬ vp_in k 16384 := by
      rcases hp with ⟨e, -⟩ | ⟨-, z⟩
      · rw [e] at c1; cases c1
      · exact z
    refine lv_iconst (v := -1) hx hb d_H_links_16 (by decide) ?_
    exact s_iret hx hb hr hM ⟨rfl, Or.inl ⟨fun z => hv z.1, rfl⟩⟩ d_H_links_17 hlocks
  · have hv : vp_in k 16384 := by
      rcases hp with ⟨-, z⟩ | ⟨e, -⟩
      · exact z
      · exact absurd e c1
    refine q_iload_n (i := 2) hx hb d_H_links_7 rfl hl rfl ?_
    refine lv_if_eq (tgt := 18) hx hb d_H_links_8 (by decide) (fun c2 => ?_) (fun c2 => ?_)
    · exact main hv (Or.inl c2) H locs hM
    · refine q_iload_n (i := 2) hx hb d_H_links_11 rfl hl rfl ?_
      refine lv_iconst (v := 1) hx hb d_H_links_12 (by decide) ?_
      refine lv_icmp_eq (tgt := 18) hx hb d_H_links_13 (by decide) (fun c3 => ?_) (fun c3 => ?_)
      · exact main hv (Or.inr c3) H locs hM
      · refine lv_iconst (v := -1) hx hb d_H_links_16 (by decide) ?_
        exact s_iret hx hb hr hM ⟨rfl, Or.inl ⟨fun z => z.2.elim c2 c3, rfl⟩⟩ d_H_links_17 hlocks
