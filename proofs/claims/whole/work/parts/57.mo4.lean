/-- what the reference's link does -/
def MLinkP (m0 mm : Nat) (E : Nat → Nat → Prop) (T Rg : Nat → Prop) (wl : List Nat) (rc : Nat) (k t x : Int32) (u : sS) : Prop :=
  (¬ (vp_in k 16384 ∧ vp_in t 16384) ∧ u.2.2.1 m0 0 = 1 ∧ Mo u m0 (mm + 1) E T Rg wl rc) ∨ (vp_in k 16384 ∧ vp_in t 16384 ∧ u.2.2.1 m0 0 = 0 ∧ ((E k.toNatClampNeg t.toNatClampNeg ∧ x = 0 ∧ Mo u m0 (mm + 1) E T Rg wl rc) ∨ (¬ E k.toNatClampNeg t.toNatClampNeg ∧ x = 1 ∧ Mo u m0 (mm + 1) (fun a b => E a b ∨ (a = k.toNatClampNeg ∧ b = t.toNatClampNeg)) (fun a => T a ∨ a = k.toNatClampNeg) Rg wl rc)))
def MUnlinkP (m0 mm : Nat) (E : Nat → Nat → Prop) (T Rg : Nat → Prop) (wl : List Nat) (rc : Nat) (k t x : Int32) (u : sS) : Prop :=
  (¬ (vp_in k 16384 ∧ vp_in t 16384) ∧ u.2.2.1 m0 0 = 1 ∧ Mo u m0 (mm + 1) E T Rg wl rc) ∨ (vp_in k 16384 ∧ vp_in t 16384 ∧ u.2.2.1 m0 0 = 0 ∧ ((¬ E k.toNatClampNeg t.toNatClampNeg ∧ x = 0 ∧ Mo u m0 (mm + 1) E T Rg wl rc) ∨ (E k.toNatClampNeg t.toNatClampNeg ∧ x = 1 ∧ Mo u m0 (mm + 1) (fun a b => E a b ∧ ¬ (a = k.toNatClampNeg ∧ b = t.toNatClampNeg)) (fun a => T a ∨ a = k.toNatClampNeg) Rg wl rc)))
def MClearP (m0 mm : Nat) (E : Nat → Nat → Prop) (T Rg : Nat → Prop) (wl : List Nat) (rc : Nat) (k x : Int32) (u : sS) : Prop :=
  (¬ vp_in k 16384 ∧ u.2.2.1 m0 0 = 1 ∧ Mo u m0 (mm + 1) E T Rg wl rc) ∨ (vp_in k 16384 ∧ u.2.2.1 m0 0 = 0 ∧ Mo u m0 (mm + 1) (fun a b => E a b ∧ a ≠ k.toNatClampNeg) (fun a => T a ∨ a = k.toNatClampNeg) Rg wl rc ∧ ∃ n, n ≤ 1024 ∧ crd (fun b => E k.toNatClampNeg b) n ∧ x = nI n)
def MTouchP (m0 mm : Nat) (E : Nat → Nat → Prop) (T Rg : Nat → Prop) (wl : List Nat) (rc : Nat) (k : Int32) (u : sS) : Prop :=
  (¬ vp_in k 16384 ∧ u.2.2.1 m0 0 = 1 ∧ Mo u m0 (mm + 1) E T Rg wl rc) ∨ (vp_in k 16384 ∧ u.2.2.1 m0 0 = 0 ∧ Mo u m0 (mm + 1) E (fun a => T a ∨ a = k.toNatClampNeg) Rg wl rc)
set_option maxHeartbeats 4000000 in
set_option maxRecDepth 100000 in
theorem m_M_link (l : Launch) (D : va_G) (dA : Nat → ClassId) (S : sS) (sz : Nat) (m0 mm : Nat) (E : Nat → Nat → Prop) (T Rg : Nat → Prop) (wl : List Nat) (rc : Nat) (k t : Int32) (hO : Mo S m0 mm E T Rg wl rc) (hmm : mm ≤ 511) :
    cI l y_M_link c_M_link 5 (some .boolean) (rmk 2 0 0) D dA S sz [.ref m0, .int k, .int t] (MLinkP m0 mm E T Rg wl rc k t) (0) (0) := by
  have hO' := Mo_mono hO (Nat.le_succ mm)
  obtain ⟨ar, cn, nA, fb, hw, hi, hX1⟩ := hO
  have hl9 := hX1.hl
  have hn9 := hX1.hn
  obtain ⟨kd, rf, it, lg⟩ := S
  obtain ⟨km, ⟨r0, r1, r2, r3, r4, r5, r6, r7⟩, ⟨k0, k1, k2, k3, k4, k5, k6, k7⟩, hdis⟩ := id hw
  dsimp only at km r0 r1 r2 r3 r4 r5 r6 r7 k0 k1 k2 k3 k4 k5 k6 k7 hi hw
  refine s_met (cc := c_M_link) (maxL := 5) (by decide) rfl (by simp [Value.category]) (by simp [lg_sl, Value.category]) ?_
  intro p e s m args below meth c ls hx hb hr hts hown hlocks hin hml hK hX hsz hM hl
  have hg := gd_hts hts
  have hl : lc ls 5 [some (va_rf (some m0)), some (.int k), some (.int t), none, none] := hl
  have bad : ¬ (vp_in k 16384 ∧ vp_in t 16384) → ∀ (H : Heap) (locs : List Loc), SW D dA (sA (kd, rf, it, lg) sz) s.heap (kd, rf, it, lg) H locs → W p l e (rmk 2 0 0) s m args below meth c H locs 0 0 (MQ below (va_Qi (MLinkP m0 mm E T Rg wl rc k t) (SB D dA (kd, rf, it, lg) sz) (sA (kd, rf, it, lg) sz)) args s 0 0 (sA (kd, rf, it, lg) sz)) (F0 m 19 ls [.ref m0]) := by
    intro hbad H locs hM
    refine lv_iconst (v := 1) hx hb d_M_link_19 (by decide) ?_
    refine s_puti (C := R_M) (T := F_M) (N := 13) (ci := 7) hx hb hg in_M ft_M ft_M_ok fn_M hown hK hM km rfl 0 (by decide) rfl (hg _ kw_455) (fun _ h9 => h9) rfl rfl rfl d_M_link_20 (fun H locs hM => ?_)
    refine q_al_n (i := 0) hx hb d_M_link_23 rfl hl rfl ?_
    refine s_geti (C := R_M) (T := F_M) (N := 13) (ci := 7) hx hb hg in_M hown hK hM km rfl 0 (by decide) rfl (hg _ kw_455) (fun _ h9 => h9) d_M_link_24 ?_
    rw [up2_self]
    refine lv_if_eq (tgt := 32) hx hb d_M_link_27 (by decide) (fun c9 => ?_) (fun c9 => ?_)
    · exact absurd c9 (by decide)
    · refine lv_iconst (v := 0) hx hb d_M_link_30 (by decide) ?_
      refine s_zret hx hb hr rfl hM (Or.inl ⟨hbad, ?_, Mo_0 hO' 1⟩) d_M_link_31 hlocks
      show up2 it m0 0 1 m0 0 = 1
      rw [up2_self]
  refine q_al_n (i := 0) hx hb d_M_link_0 rfl hl rfl ?_
  refine q_iload_n (i := 1) hx hb d_M_link_1 rfl hl rfl ?_
  refine s_calli (r_S 1 [.int k] rfl hx hb hml hown hg (m_M_isNode l D dA _ _ k) (hM.pre hK hX) kw_504 kw_505 kw_5 kw_506 (by decide +kernel) ⟨Nat.le_of_ble_eq_true rfl, Nat.le_of_ble_eq_true rfl⟩ rfl rfl hl.sz (by first | exact Nat.le_of_ble_eq_true rfl | simp [rf_cat] | simp [rf_cat, Value.category]) d_M_link_2 ⟨Nat.le_refl _, Nat.le_refl _⟩ rfl) hM (fun qi1 u H locs hp1 hM => ?_)
  obtain ⟨rfl, hp1⟩ := hp1
  refine lv_if_eq (tgt := 19) hx hb d_M_link_5 (by decide) (fun c1 => ?_) (fun c1 => ?_)
  · refine bad (fun z => ?_) H locs hM
    rcases hp1 with ⟨e9, -⟩ | ⟨-, q⟩
    · rw [e9] at c1; cases c1
    · exact q z.1
  · have hv : vp_in k 16384 := by
      rcases hp1 with ⟨-, z⟩ | ⟨e9, -⟩
      · exact z
      · exact absurd e9 c1
    refine q_iload_n (i := 2) hx hb d_M_link_8 rfl hl rfl ?_
    refine s_calli (r_S 1 [.int t] rfl hx hb hml hown hg (m_M_isNode l D dA _ _ t) (hM.pre hK hX) kw_504 kw_505 kw_5 kw_506 (by decide +kernel) ⟨Nat.le_of_ble_eq_true rfl, Nat.le_of_ble_eq_true rfl⟩ rfl rfl hl.sz (by first | exact Nat.le_of_ble_eq_true rfl | simp [rf_cat] | simp [rf_cat, Value.category]) d_M_link_9 ⟨Nat.le_refl _, Nat.le_refl _⟩ rfl) hM (fun qi2 u H locs hp2 hM => ?_)
    obtain ⟨rfl, hp2⟩ := hp2
    refine lv_if_eq (tgt := 19) hx hb d_M_link_12 (by decide) (fun c2 => ?_) (fun c2 => ?_)
    · refine bad (fun z => ?_) H locs hM
      rcases hp2 with ⟨e9, -⟩ | ⟨-, q⟩
      · rw [e9] at c2; cases c2
      · exact q z.2
    · have hv2 : vp_in t 16384 := by
        rcases hp2 with ⟨-, z⟩ | ⟨e9, -⟩
        · exact z
        · exact absurd e9 c2
      obtain ⟨v, hv9, ev⟩ := vp_in_of hv (by omega)
      have ek : k.toNatClampNeg = v := by rw [ev]; exact nI_clamp (by omega)
      obtain ⟨y, hy9, ey⟩ := vp_in_of hv2 (by omega)
      have et : t.toNatClampNeg = y := by rw [ey]; exact nI_clamp (by omega)
      rw [ev, ey] at hl
      refine lv_iconst (v := 0) hx hb d_M_link_15 (by decide) ?_
      refine lv_goto (tgt := 20) hx hb d_M_link_16 (by decide) ?_
      refine s_puti (C := R_M) (T := F_M) (N := 13) (ci := 7) hx hb hg in_M ft_M ft_M_ok fn_M hown hK hM km rfl 0 (by decide) rfl (hg _ kw_455) (fun _ h9 => h9) rfl rfl rfl d_M_link_20 (fun H locs hM => ?_)
      have hi1 := Mi_0 hw hi 0
      have hz1 : up2 it m0 0 0 m0 0 = 0 := up2_self _ _ _ _
      generalize up2 it m0 0 0 = it1 at hM hi1 hz1
      refine q_al_n (i := 0) hx hb d_M_link_23 rfl hl rfl ?_
      refine s_geti (C := R_M) (T := F_M) (N := 13) (ci := 7) hx hb hg in_M hown hK hM km rfl 0 (by decide) rfl (hg _ kw_455) (fun _ h9 => h9) d_M_link_24 ?_
      rw [hz1]
      refine lv_if_eq (tgt := 32) hx hb d_M_link_27 (by decide) (fun c9 => ?_) (fun c9 => ?_)
      · refine q_al_n (i := 0) hx hb d_M_link_32 rfl hl rfl ?_
        refine q_iload_n (i := 1) hx hb d_M_link_33 rfl hl rfl ?_
        refine s_calli (r_V 1 [.int (nI v)] rfl hx hb hml hown hg (m_M_place l D dA _ _ m0 ar cn nA fb v hw hi1 (by omega) hX1.nu9 hv9) (hM.pre hK hX) (hM.recv hK km (q := cls.getD 7 (R_H, F_H, 7)) rfl) kw_507 kw_509 ks_17 kw_5 kw_510 (by decide +kernel) ⟨Nat.le_of_ble_eq_true rfl, Nat.le_of_ble_eq_true rfl⟩ rfl rfl hl.sz (by first | exact Nat.le_of_ble_eq_true rfl | simp [rf_cat] | simp [rf_cat, Value.category]) d_M_link_34 ⟨Nat.le_refl _, Nat.le_refl _⟩ rfl) hM (fun q1 u H locs hp3 hM => ?_)
        obtain ⟨it2, cn2, nA2, kx, rfl, hi2, hX2, hkx, ekx, rfl, hz2, hc2, hnu2, hl2, hfr2⟩ := place_step hi1 hX1 hv9 hp3
        have hn92 := hX2.hn
        dsimp only at hM hz2
        rw [hz1] at hz2
        refine q_istore_n (i := 3) hx hb d_M_link_37 rfl hl (by decide) (fun ls hl => ?_)
        simp only [List.set_cons_succ, List.set_cons_zero] at hl
        refine q_al_n (i := 0) hx hb d_M_link_38 rfl hl rfl ?_
        refine q_iload_n (i := 2) hx hb d_M_link_39 rfl hl rfl ?_
        refine s_calli (r_V 1 [.int (nI y)] rfl hx hb hml hown hg (m_M_place l D dA _ _ m0 ar cn2 nA2 fb y hw hi2 (by omega) hX2.nu9 hy9) (hM.pre hK hX) (hM.recv hK km (q := cls.getD 7 (R_H, F_H, 7)) rfl) kw_507 kw_509 ks_17 kw_5 kw_510 (by decide +kernel) ⟨Nat.le_of_ble_eq_true rfl, Nat.le_of_ble_eq_true rfl⟩ rfl rfl hl.sz (by first | exact Nat.le_of_ble_eq_true rfl | simp [rf_cat] | simp [rf_cat, Value.category]) d_M_link_40 ⟨Nat.le_refl _, Nat.le_refl _⟩ rfl) hM (fun q2 u H locs hp4 hM => ?_)
        obtain ⟨it3, cn3, nA3, ky, rfl, hi3, hX3, hky, eky, rfl, hz3, hc3, hnu3, hl3, hfr3⟩ := place_step hi2 hX2 hy9 hp4
        have hn93 := hX3.hn
        dsimp only at hM hz3
        rw [hz2] at hz3
        have hkx3 : kx < cn3 4 := by omega
        have ekx3 : nA3 2 kx = v := by rw [hnu3 kx hkx]; exact ekx
        have hL3 := hX3.hl
        refine q_istore hx hb d_M_link_43 hl (by decide) (fun ls hl => ?_)
        simp only [List.set_cons_succ, List.set_cons_zero] at hl
        refine q_al_n (i := 0) hx hb d_M_link_45 rfl hl rfl ?_
        refine q_iload_n (i := 3) hx hb d_M_link_46 rfl hl rfl ?_
        refine q_iload hx hb d_M_link_47 hl rfl ?_
        refine s_calli (r_V 2 [.int (nI kx), .int (nI ky)] rfl hx hb hml hown hg (m_M_linkOf l D dA _ _ m0 ar cn3 nA3 fb kx ky hw hi3 (by omega) (fun k hk => by have := hX3.lk k hk; omega) (by omega) (by omega)) (hM.pre hK hX) (hM.recv hK km (q := cls.getD 7 (R_H, F_H, 7)) rfl) kw_515 kw_517 ks_19 kw_5 kw_518 (by decide +kernel) ⟨Nat.le_of_ble_eq_true rfl, Nat.le_of_ble_eq_true rfl⟩ rfl rfl hl.sz (by first | exact Nat.le_of_ble_eq_true rfl | simp [rf_cat] | simp [rf_cat, Value.category]) d_M_link_49 ⟨Nat.le_refl _, Nat.le_refl _⟩ rfl) hM (fun q3 u H locs hp5 hM => ?_)
        obtain ⟨rfl, hp5⟩ := hp5
        have hEv : E k.toNatClampNeg t.toNatClampNeg ↔ ∃ j, j < cn3 1 ∧ nA3 0 j = kx ∧ nA3 1 j = ky := by
          rw [ek, et, ← ekx3, ← eky]; exact nu_ex hX3 hkx3 hky
        refine lv_if_lt (tgt := 57) hx hb d_M_link_52 (by decide) (fun c6 => ?_) (fun c6 => ?_)
        · have hno : ∀ j, j < cn3 1 → ¬ (nA3 0 j = kx ∧ nA3 1 j = ky) := by
            rcases hp5 with ⟨j, hj, -, -, e9⟩ | ⟨z, -⟩
            · rw [e9] at c6; exact absurd c6 (nI_pos (by omega))
            · exact z
          refine q_al_n (i := 0) hx hb d_M_link_57 rfl hl rfl ?_
          refine s_getr (C := R_M) (T := F_M) (N := 13) (ci := 7) hx hb hg in_M hown hK hM km rfl 2 (by decide) rfl (hg _ kw_457) (fun _ h9 => h9) d_M_link_58 ?_
          rw [r0]
          refine q_al_n (i := 0) hx hb d_M_link_61 rfl hl rfl ?_
          refine s_geti (C := R_M) (T := F_M) (N := 13) (ci := 7) hx hb hg in_M hown hK hM km rfl 1 (by decide) rfl (hg _ kw_456) (fun _ h9 => h9) d_M_link_62 ?_
          rw [hi3.L]
          refine q_iload_n (i := 3) hx hb d_M_link_65 rfl hl rfl ?_
          refine s_ist (t := 0) hx hb hK hM k0 rfl rfl (vp_in_nI (show cn3 1 < 4096 by omega) (by omega)) d_M_link_66 (fun H locs hM => ?_)
          rw [nI_clamp (by omega)] at hM
          have hi4 := Mi_n hw hi3 (i := 0) (Or.inl rfl) (cn3 1) kx
          refine q_al_n (i := 0) hx hb d_M_link_67 rfl hl rfl ?_
          refine s_getr (C := R_M) (T := F_M) (N := 13) (ci := 7) hx hb hg in_M hown hK hM km rfl 3 (by decide) rfl (hg _ kw_458) (fun _ h9 => h9) d_M_link_68 ?_
          rw [r1]
          refine q_al_n (i := 0) hx hb d_M_link_71 rfl hl rfl ?_
          refine s_geti (C := R_M) (T := F_M) (N := 13) (ci := 7) hx hb hg in_M hown hK hM km rfl 1 (by decide) rfl (hg _ kw_456) (fun _ h9 => h9) d_M_link_72 ?_
          rw [hi4.L]
          refine q_iload hx hb d_M_link_75 hl rfl ?_
          refine s_ist (t := 0) hx hb hK hM k1 rfl rfl (vp_in_nI (show cn3 1 < 4096 by omega) (by omega)) d_M_link_77 (fun H locs hM => ?_)
          rw [nI_clamp (by omega)] at hM
          have hi5 := Mi_n hw hi4 (i := 1) (Or.inr (Or.inl rfl)) (cn3 1) ky
          refine q_al_n (i := 0) hx hb d_M_link_78 rfl hl rfl ?_
          refine lv_dup hx hb d_M_link_79 rfl ?_
          refine s_geti (C := R_M) (T := F_M) (N := 13) (ci := 7) hx hb hg in_M hown hK hM km rfl 1 (by decide) rfl (hg _ kw_456) (fun _ h9 => h9) d_M_link_80 ?_
          rw [hi5.L]
          refine lv_iconst (v := 1) hx hb d_M_link_83 (by decide) ?_
          refine lv_iadd hx hb d_M_link_84 ?_
          rw [nI_1]
          refine s_puti (C := R_M) (T := F_M) (N := 13) (ci := 7) hx hb hg in_M ft_M ft_M_ok fn_M hown hK hM km rfl 1 (by decide) rfl (hg _ kw_456) (fun _ h9 => h9) rfl rfl rfl d_M_link_85 (fun H locs hM => ?_)
          have hi6 := Mi_c hw hi5 1 (cn3 1 + 1)
          refine q_al_n (i := 0) hx hb d_M_link_88 rfl hl rfl ?_
          refine s_getr (C := R_M) (T := F_M) (N := 13) (ci := 7) hx hb hg in_M hown hK hM km rfl 6 (by decide) rfl (hg _ kw_461) (fun _ h9 => h9) d_M_link_89 ?_
          rw [r3]
          refine q_iload_n (i := 3) hx hb d_M_link_92 rfl hl rfl ?_
          refine lv_iconst (v := bI true) hx hb d_M_link_93 (by decide) ?_
          refine s_zst (t := 4) hx hb hK hM k3 rfl rfl (bI_nar _) (vp_in_nI (show kx < 8192 by omega) (by omega)) d_M_link_94 (fun H locs hM => ?_)
          rw [nI_clamp (by omega)] at hM
          have hi7 := Mi_b hw hi6 (i := 3) (by decide) kx true
          have hX4 := MoX_link hX3 hkx3 hky hno
          have hX5 := MoX_touch hX4 (x := kx) (by rw [va_up_ne _ _ (by decide)]; exact hkx3)
          refine lv_iconst (v := 1) hx hb d_M_link_95 (by decide) ?_
          refine s_zret hx hb hr rfl hM (Or.inr ⟨hv, hv2, ?_, Or.inr ⟨fun z => ?_, rfl, ar, _, _, _, hw, hi7, ?_⟩⟩) d_M_link_96 hlocks
          · show up2 (up2 (up2 (up2 it3 (ar 0) (cn3 1) (nI kx)) (ar 1) (cn3 1) (nI ky)) m0 1 (nI (cn3 1 + 1))) (ar 3) kx (bI true) m0 0 = 0
            rw [up2_off _ _ (fun z => hw.nm (by decide) z.symm), up2_ne _ _ (by decide), up2_off _ _ (fun z => hw.nm (by decide) z.symm), up2_off _ _ (fun z => hw.nm (by decide) z.symm)]; exact hz3
          · obtain ⟨j, hj, z2⟩ := hEv.mp z
            exact hno j hj z2
          · refine MoX_mono (MoX_ext hX5 (fun a b => ?_) (fun a => ?_)) (Nat.le_refl _) (by omega)
            · rw [ekx3, eky, ek, et]
            · try dsimp only
              rw [up2_off _ _ (by decide), up2_off _ _ (by decide), ekx3, ek]
        · refine lv_iconst (v := 0) hx hb d_M_link_55 (by decide) ?_
          have hyes : E k.toNatClampNeg t.toNatClampNeg := by
            rcases hp5 with ⟨j, hj, e1, e2, -⟩ | ⟨-, e9⟩
            · exact hEv.mpr ⟨j, hj, e1, e2⟩
            · rw [e9] at c6; exact absurd (by decide) c6
          exact s_zret hx hb hr rfl hM (Or.inr ⟨hv, hv2, hz3, Or.inl ⟨hyes, rfl, ar, cn3, nA3, fb, hw, hi3, MoX_mono hX3 (Nat.le_succ _) (by omega)⟩⟩) d_M_link_56 hlocks
      · exact absurd rfl c9
set_option maxHeartbeats 4000000 in
set_option maxRecDepth 100000 in
theorem m_M_unlink (l : Launch) (D : va_G) (dA : Nat → ClassId) (S : sS) (sz : Nat) (m0 mm : Nat) (E : Nat → Nat → Prop) (T Rg : Nat → Prop) (wl : List Nat) (rc : Nat) (k t : Int32) (hO : Mo S m0 mm E T Rg wl rc) (hmm : mm ≤ 511) :
    cI l y_M_unlink c_M_unlink 4 (some .boolean) (rmk 2 0 0) D dA S sz [.ref m0, .int k, .int t] (MUnlinkP m0 mm E T Rg wl rc k t) (0) (0) := by
  have hO' := Mo_mono hO (Nat.le_succ mm)
  obtain ⟨ar, cn, nA, fb, hw, hi, hX1⟩ := hO
  have hl9 := hX1.hl
  have hn9 := hX1.hn
  obtain ⟨kd, rf, it, lg⟩ := S
  obtain ⟨km, ⟨r0, r1, r2, r3, r4, r5, r6, r7⟩, ⟨k0, k1, k2, k3, k4, k5, k6, k7⟩, hdis⟩ := id hw
  dsimp only at km r0 r1 r2 r3 r4 r5 r6 r7 k0 k1 k2 k3 k4 k5 k6 k7 hi hw
  refine s_met (cc := c_M_unlink) (maxL := 4) (by decide) rfl (by simp [Value.category]) (by simp [lg_sl, Value.category]) ?_
  intro p e s m args below meth c ls hx hb hr hts hown hlocks hin hml hK hX hsz hM hl
  have hg := gd_hts hts
  have hl : lc ls 4 [some (va_rf (some m0)), some (.int k), some (.int t), none] := hl
  have bad : ¬ (vp_in k 16384 ∧ vp_in t 16384) → ∀ (H : Heap) (locs : List Loc), SW D dA (sA (kd, rf, it, lg) sz) s.heap (kd, rf, it, lg) H locs → W p l e (rmk 2 0 0) s m args below meth c H locs 0 0 (MQ below (va_Qi (MUnlinkP m0 mm E T Rg wl rc k t) (SB D dA (kd, rf, it, lg) sz) (sA (kd, rf, it, lg) sz)) args s 0 0 (sA (kd, rf, it, lg) sz)) (F0 m 19 ls [.ref m0]) := by
    intro hbad H locs hM
    refine lv_iconst (v := 1) hx hb d_M_unlink_19 (by decide) ?_
    refine s_puti (C := R_M) (T := F_M) (N := 13) (ci := 7) hx hb hg in_M ft_M ft_M_ok fn_M hown hK hM km rfl 0 (by decide) rfl (hg _ kw_455) (fun _ h9 => h9) rfl rfl rfl d_M_unlink_20 (fun H locs hM => ?_)
    refine q_al_n (i := 0) hx hb d_M_unlink_23 rfl hl rfl ?_
    refine s_geti (C := R_M) (T := F_M) (N := 13) (ci := 7) hx hb hg in_M hown hK hM km rfl 0 (by decide) rfl (hg _ kw_455) (fun _ h9 => h9) d_M_unlink_24 ?_
    rw [up2_self]
    refine lv_if_ne (tgt := 46) hx hb d_M_unlink_27 (by decide) (fun c9 => ?_) (fun c9 => ?_)
    · refine lv_iconst (v := 0) hx hb d_M_unlink_46 (by decide) ?_
      refine s_zret hx hb hr rfl hM (Or.inl ⟨hbad, ?_, Mo_0 hO' 1⟩) d_M_unlink_47 hlocks
      show up2 it m0 0 1 m0 0 = 1
      rw [up2_self]
    · exact absurd c9 (by decide)
  refine q_al_n (i := 0) hx hb d_M_unlink_0 rfl hl rfl ?_
  refine q_iload_n (i := 1) hx hb d_M_unlink_1 rfl hl rfl ?_
  refine s_calli (r_S 1 [.int k] rfl hx hb hml hown hg (m_M_isNode l D dA _ _ k) (hM.pre hK hX) kw_504 kw_505 kw_5 kw_506 (by decide +kernel) ⟨Nat.le_of_ble_eq_true rfl, Nat.le_of_ble_eq_true rfl⟩ rfl rfl hl.sz (by first | exact Nat.le_of_ble_eq_true rfl | simp [rf_cat] | simp [rf_cat, Value.category]) d_M_unlink_2 ⟨Nat.le_refl _, Nat.le_refl _⟩ rfl) hM (fun qi1 u H locs hp1 hM => ?_)
  obtain ⟨rfl, hp1⟩ := hp1
  refine lv_if_eq (tgt := 19) hx hb d_M_unlink_5 (by decide) (fun c1 => ?_) (fun c1 => ?_)
  · refine bad (fun z => ?_) H locs hM
    rcases hp1 with ⟨e9, -⟩ | ⟨-, q⟩
    · rw [e9] at c1; cases c1
    · exact q z.1
  · have hv : vp_in k 16384 := by
      rcases hp1 with ⟨-, z⟩ | ⟨e9, -⟩
      · exact z
      · exact absurd e9 c1
    refine q_iload_n (i := 2) hx hb d_M_unlink_8 rfl hl rfl ?_
    refine s_calli (r_S 1 [.int t] rfl hx hb hml hown hg (m_M_isNode l D dA _ _ t) (hM.pre hK hX) kw_504 kw_505 kw_5 kw_506 (by decide +kernel) ⟨Nat.le_of_ble_eq_true rfl, Nat.le_of_ble_eq_true rfl⟩ rfl rfl hl.sz (by first | exact Nat.le_of_ble_eq_true rfl | simp [rf_cat] | simp [rf_cat, Value.category]) d_M_unlink_9 ⟨Nat.le_refl _, Nat.le_refl _⟩ rfl) hM (fun qi2 u H locs hp2 hM => ?_)
    obtain ⟨rfl, hp2⟩ := hp2
    refine lv_if_eq (tgt := 19) hx hb d_M_unlink_12 (by decide) (fun c2 => ?_) (fun c2 => ?_)
    · refine bad (fun z => ?_) H locs hM
      rcases hp2 with ⟨e9, -⟩ | ⟨-, q⟩
      · rw [e9] at c2; cases c2
      · exact q z.2
    · have hv2 : vp_in t 16384 := by
        rcases hp2 with ⟨-, z⟩ | ⟨e9, -⟩
        · exact z
        · exact absurd e9 c2
      obtain ⟨v, hv9, ev⟩ := vp_in_of hv (by omega)
      have ek : k.toNatClampNeg = v := by rw [ev]; exact nI_clamp (by omega)
      obtain ⟨y, hy9, ey⟩ := vp_in_of hv2 (by omega)
      have et : t.toNatClampNeg = y := by rw [ey]; exact nI_clamp (by omega)
      rw [ev, ey] at hl
      refine lv_iconst (v := 0) hx hb d_M_unlink_15 (by decide) ?_
      refine lv_goto (tgt := 20) hx hb d_M_unlink_16 (by decide) ?_
      refine s_puti (C := R_M) (T := F_M) (N := 13) (ci := 7) hx hb hg in_M ft_M ft_M_ok fn_M hown hK hM km rfl 0 (by decide) rfl (hg _ kw_455) (fun _ h9 => h9) rfl rfl rfl d_M_unlink_20 (fun H locs hM => ?_)
      have hi1 := Mi_0 hw hi 0
      have hz1 : up2 it m0 0 0 m0 0 = 0 := up2_self _ _ _ _
      generalize up2 it m0 0 0 = it1 at hM hi1 hz1
      refine q_al_n (i := 0) hx hb d_M_unlink_23 rfl hl rfl ?_
      refine s_geti (C := R_M) (T := F_M) (N := 13) (ci := 7) hx hb hg in_M hown hK hM km rfl 0 (by decide) rfl (hg _ kw_455) (fun _ h9 => h9) d_M_unlink_24 ?_
      rw [hz1]
      refine lv_if_ne (tgt := 46) hx hb d_M_unlink_27 (by decide) (fun c9 => ?_) (fun c9 => ?_)
      · exact absurd rfl c9
      · refine q_al_n (i := 0) hx hb d_M_unlink_30 rfl hl rfl ?_
        refine q_iload_n (i := 1) hx hb d_M_unlink_31 rfl hl rfl ?_
        refine s_calli (r_V 1 [.int (nI v)] rfl hx hb hml hown hg (m_M_find l D dA _ _ m0 ar cn nA fb v hw hi1 (by omega) hX1.nu9 hv9) (hM.pre hK hX) (hM.recv hK km (q := cls.getD 7 (R_H, F_H, 7)) rfl) kw_511 kw_513 ks_18 kw_5 kw_514 (by decide +kernel) ⟨Nat.le_of_ble_eq_true rfl, Nat.le_of_ble_eq_true rfl⟩ rfl rfl hl.sz (by first | exact Nat.le_of_ble_eq_true rfl | simp [rf_cat] | simp [rf_cat, Value.category]) d_M_unlink_32 ⟨Nat.le_refl _, Nat.le_refl _⟩ rfl) hM (fun q3 u H locs hp3 hM => ?_)
        obtain ⟨rfl, hp3⟩ := hp3
        refine lv_if_lt (tgt := 46) hx hb d_M_unlink_35 (by decide) (fun c6 => ?_) (fun c6 => ?_)
        · have hno : ¬ E k.toNatClampNeg t.toNatClampNeg := by
            rcases hp3 with ⟨j, hj, -, e9⟩ | ⟨z, -⟩
            · rw [e9] at c6; exact absurd c6 (nI_pos (by omega))
            · rw [ek, hX1.hE]
              rintro ⟨j, hj, e1, -⟩
              exact z _ (hX1.lk j hj).1 e1
          refine lv_iconst (v := 0) hx hb d_M_unlink_46 (by decide) ?_
          exact s_zret hx hb hr rfl hM (Or.inr ⟨hv, hv2, hz1, Or.inl ⟨hno, rfl, ar, cn, nA, fb, hw, hi1, MoX_mono hX1 (Nat.le_succ _) (by omega)⟩⟩) d_M_unlink_47 hlocks
        · refine q_al_n (i := 0) hx hb d_M_unlink_38 rfl hl rfl ?_
          refine q_iload_n (i := 2) hx hb d_M_unlink_39 rfl hl rfl ?_
          refine s_calli (r_V 1 [.int (nI y)] rfl hx hb hml hown hg (m_M_find l D dA _ _ m0 ar cn nA fb y hw hi1 (by omega) hX1.nu9 hy9) (hM.pre hK hX) (hM.recv hK km (q := cls.getD 7 (R_H, F_H, 7)) rfl) kw_511 kw_513 ks_18 kw_5 kw_514 (by decide +kernel) ⟨Nat.le_of_ble_eq_true rfl, Nat.le_of_ble_eq_true rfl⟩ rfl rfl hl.sz (by first | exact Nat.le_of_ble_eq_true rfl | simp [rf_cat] | simp [rf_cat, Value.category]) d_M_unlink_40 ⟨Nat.le_refl _, Nat.le_refl _⟩ rfl) hM (fun q4 u H locs hp4 hM => ?_)
          obtain ⟨rfl, hp4⟩ := hp4
          refine lv_if_ge (tgt := 48) hx hb d_M_unlink_43 (by decide) (fun c7 => ?_) (fun c7 => ?_)
          · obtain ⟨kx, hkx, ekx, rfl⟩ : ∃ j, j < cn 4 ∧ nA 2 j = v ∧ q3 = nI j := by
              rcases hp3 with z | ⟨-, e9⟩
              · exact z
              · rw [e9] at c6; exact absurd (by decide) c6
            obtain ⟨ky, hky, eky, rfl⟩ : ∃ j, j < cn 4 ∧ nA 2 j = y ∧ q4 = nI j := by
              rcases hp4 with z | ⟨-, e9⟩
              · exact z
              · rw [e9] at c7; exact absurd c7 (by decide)
            have fnd : ∀ (x9 : Int32) (z9 j9 : Nat), j9 < cn 4 → nA 2 j9 = z9 → FindP cn nA z9 x9 → x9 = nI j9 := by
              intro x9 z9 j9 hj9 ej9 hF
              rcases hF with ⟨j2, hj2, e2, e3⟩ | ⟨z, -⟩
              · rw [e3, hX1.nui j2 j9 hj2 hj9 (e2.trans ej9.symm)]
              · exact absurd ej9 (z j9 hj9)
            have hEv : E k.toNatClampNeg t.toNatClampNeg ↔ ∃ j, j < cn 1 ∧ nA 0 j = kx ∧ nA 1 j = ky := by
              rw [ek, et, ← ekx, ← eky]; exact nu_ex hX1 hkx hky
            refine q_al_n (i := 0) hx hb d_M_unlink_48 rfl hl rfl ?_
            refine q_al_n (i := 0) hx hb d_M_unlink_49 rfl hl rfl ?_
            refine q_iload_n (i := 1) hx hb d_M_unlink_50 rfl hl rfl ?_
            refine s_calli (r_V 1 [.int (nI v)] rfl hx hb hml hown hg (m_M_find l D dA _ _ m0 ar cn nA fb v hw hi1 (by omega) hX1.nu9 hv9) (hM.pre hK hX) (hM.recv hK km (q := cls.getD 7 (R_H, F_H, 7)) rfl) kw_511 kw_513 ks_18 kw_5 kw_514 (by decide +kernel) ⟨Nat.le_of_ble_eq_true rfl, Nat.le_of_ble_eq_true rfl⟩ rfl rfl hl.sz (by first | exact Nat.le_of_ble_eq_true rfl | simp [rf_cat] | simp [rf_cat, Value.category]) d_M_unlink_51 ⟨Nat.le_refl _, Nat.le_refl _⟩ rfl) hM (fun q5 u H locs hp5 hM => ?_)
            obtain ⟨rfl, hp5⟩ := hp5
            have e5 := fnd _ _ kx hkx ekx hp5
            subst e5
            refine q_al_n (i := 0) hx hb d_M_unlink_54 rfl hl rfl ?_
            refine q_iload_n (i := 2) hx hb d_M_unlink_55 rfl hl rfl ?_
            refine s_calli (r_V 1 [.int (nI y)] rfl hx hb hml hown hg (m_M_find l D dA _ _ m0 ar cn nA fb y hw hi1 (by omega) hX1.nu9 hy9) (hM.pre hK hX) (hM.recv hK km (q := cls.getD 7 (R_H, F_H, 7)) rfl) kw_511 kw_513 ks_18 kw_5 kw_514 (by decide +kernel) ⟨Nat.le_of_ble_eq_true rfl, Nat.le_of_ble_eq_true rfl⟩ rfl rfl hl.sz (by first | exact Nat.le_of_ble_eq_true rfl | simp [rf_cat] | simp [rf_cat, Value.category]) d_M_unlink_56 ⟨Nat.le_refl _, Nat.le_refl _⟩ rfl) hM (fun q6 u H locs hp6 hM => ?_)
            obtain ⟨rfl, hp6⟩ := hp6
            have e6 := fnd _ _ ky hky eky hp6
            subst e6
            refine s_calli (r_V 2 [.int (nI kx), .int (nI ky)] rfl hx hb hml hown hg (m_M_linkOf l D dA _ _ m0 ar cn nA fb kx ky hw hi1 (by omega) (fun k hk => by have := hX1.lk k hk; omega) (by omega) (by omega)) (hM.pre hK hX) (hM.recv hK km (q := cls.getD 7 (R_H, F_H, 7)) rfl) kw_515 kw_517 ks_19 kw_5 kw_518 (by decide +kernel) ⟨Nat.le_of_ble_eq_true rfl, Nat.le_of_ble_eq_true rfl⟩ rfl rfl hl.sz (by first | exact Nat.le_of_ble_eq_true rfl | simp [rf_cat] | simp [rf_cat, Value.category]) d_M_unlink_59 ⟨Nat.le_refl _, Nat.le_refl _⟩ rfl) hM (fun q7 u H locs hp7 hM => ?_)
            obtain ⟨rfl, hp7⟩ := hp7
            refine q_istore_n (i := 3) hx hb d_M_unlink_62 rfl hl (by decide) (fun ls hl => ?_)
            simp only [List.set_cons_succ, List.set_cons_zero] at hl
            refine q_iload_n (i := 3) hx hb d_M_unlink_63 rfl hl rfl ?_
            refine lv_if_ge (tgt := 69) hx hb d_M_unlink_64 (by decide) (fun c8 => ?_) (fun c8 => ?_)
            · obtain ⟨j, hj, ej1, ej2, rfl⟩ : ∃ j, j < cn 1 ∧ nA 0 j = kx ∧ nA 1 j = ky ∧ q7 = nI j := by
                rcases hp7 with z | ⟨-, e9⟩
                · exact z
                · rw [e9] at c8; exact absurd c8 (by decide)
              refine q_al_n (i := 0) hx hb d_M_unlink_69 rfl hl rfl ?_
              refine q_iload_n (i := 3) hx hb d_M_unlink_70 rfl hl rfl ?_
              refine s_callv (r_V 1 [.int (nI j)] rfl hx hb hml hown hg (m_M_cut l D dA _ _ m0 ar cn nA fb j hw hi1 (by omega) hj) (hM.pre hK hX) (hM.recv hK km (q := cls.getD 7 (R_H, F_H, 7)) rfl) kw_523 kw_525 ks_20 kw_5 kw_526 (by decide +kernel) ⟨Nat.le_of_ble_eq_true rfl, Nat.le_of_ble_eq_true rfl⟩ rfl rfl hl.sz (by first | exact Nat.le_of_ble_eq_true rfl | simp [rf_cat] | simp [rf_cat, Value.category]) d_M_unlink_71 ⟨Nat.le_refl _, Nat.le_refl _⟩ rfl) hM (fun u H locs hp8 hM => ?_)
              obtain ⟨it2, rfl, hi2, hz2⟩ := hp8
              dsimp only at hM hz2
              rw [hz1] at hz2
              have hX2 := MoX_cut hX1 hj
              have cc4 : va_up cn 1 (cn 1 - 1) 4 = cn 4 := va_up_ne _ _ (by decide)
              have cn2 : ∀ z, cutA nA j (cn 1 - 1) 2 z = nA 2 z := fun z => if_neg (by omega)
              refine q_al_n (i := 0) hx hb d_M_unlink_74 rfl hl rfl ?_
              refine s_getr (C := R_M) (T := F_M) (N := 13) (ci := 7) hx hb hg in_M hown hK hM km rfl 6 (by decide) rfl (hg _ kw_461) (fun _ h9 => h9) d_M_unlink_75 ?_
              rw [r3]
              refine q_al_n (i := 0) hx hb d_M_unlink_78 rfl hl rfl ?_
              refine q_iload_n (i := 1) hx hb d_M_unlink_79 rfl hl rfl ?_
              refine s_calli (r_V 1 [.int (nI v)] rfl hx hb hml hown hg (m_M_find l D dA _ _ m0 ar _ _ fb v hw hi2 (by rw [cc4]; omega) hX2.nu9 hv9) (hM.pre hK hX) (hM.recv hK km (q := cls.getD 7 (R_H, F_H, 7)) rfl) kw_511 kw_513 ks_18 kw_5 kw_514 (by decide +kernel) ⟨Nat.le_of_ble_eq_true rfl, Nat.le_of_ble_eq_true rfl⟩ rfl rfl hl.sz (by first | exact Nat.le_of_ble_eq_true rfl | simp [rf_cat] | simp [rf_cat, Value.category]) d_M_unlink_80 ⟨Nat.le_refl _, Nat.le_refl _⟩ rfl) hM (fun q9 u H locs hp9 hM => ?_)
              obtain ⟨rfl, hp9⟩ := hp9
              have e9 : q9 = nI kx := by
                rcases hp9 with ⟨j2, hj2, e2, e3⟩ | ⟨z, -⟩
                · rw [cc4] at hj2
                  rw [cn2] at e2
                  rw [e3, hX1.nui j2 kx hj2 hkx (e2.trans ekx.symm)]
                · exact absurd (by rw [cn2]; exact ekx) (z kx (by rw [cc4]; exact hkx))
              subst e9
              refine lv_iconst (v := bI true) hx hb d_M_unlink_83 (by decide) ?_
              refine s_zst (t := 4) hx hb hK hM k3 rfl rfl (bI_nar _) (vp_in_nI (show kx < 8192 by omega) (by omega)) d_M_unlink_84 (fun H locs hM => ?_)
              rw [nI_clamp (by omega)] at hM
              have hi3 := Mi_b hw hi2 (i := 3) (by decide) kx true
              have hX3 := MoX_touch hX2 (x := kx) (by rw [cc4]; exact hkx)
              refine lv_iconst (v := 1) hx hb d_M_unlink_85 (by decide) ?_
              refine s_zret hx hb hr rfl hM (Or.inr ⟨hv, hv2, ?_, Or.inr ⟨hEv.mpr ⟨j, hj, ej1, ej2⟩, rfl, ar, _, _, _, hw, hi3, ?_⟩⟩) d_M_unlink_86 hlocks
              · show up2 it2 (ar 3) kx (bI true) m0 0 = 0
                rw [up2_off _ _ (fun z => hw.nm (by decide) z.symm)]; exact hz2
              · refine MoX_mono (MoX_ext hX3 (fun a b => ?_) (fun a => ?_)) (Nat.le_succ _) (by omega)
                · rw [ej1, ej2, ekx, eky, ek, et]
                · try dsimp only
                  rw [cn2, ekx, ek]
            · have hno : ¬ E k.toNatClampNeg t.toNatClampNeg := by
                rcases hp7 with ⟨j, hj, -, -, e9⟩ | ⟨z, -⟩
                · rw [e9] at c8; exact absurd (nI_pos' (by omega)) c8
                · intro q
                  obtain ⟨j, hj, z2⟩ := hEv.mp q
                  exact z j hj z2
              refine lv_iconst (v := 0) hx hb d_M_unlink_67 (by decide) ?_
              exact s_zret hx hb hr rfl hM (Or.inr ⟨hv, hv2, hz1, Or.inl ⟨hno, rfl, ar, cn, nA, fb, hw, hi1, MoX_mono hX1 (Nat.le_succ _) (by omega)⟩⟩) d_M_unlink_68 hlocks
          · have hno : ¬ E k.toNatClampNeg t.toNatClampNeg := by
              rcases hp4 with ⟨j, hj, -, e9⟩ | ⟨z, -⟩
              · rw [e9] at c7; exact absurd (nI_pos' (by omega)) c7
              · rw [et, hX1.hE]
                rintro ⟨j, hj, -, e1⟩
                exact z _ (hX1.lk j hj).2 e1
            refine lv_iconst (v := 0) hx hb d_M_unlink_46 (by decide) ?_
            exact s_zret hx hb hr rfl hM (Or.inr ⟨hv, hv2, hz1, Or.inl ⟨hno, rfl, ar, cn, nA, fb, hw, hi1, MoX_mono hX1 (Nat.le_succ _) (by omega)⟩⟩) d_M_unlink_47 hlocks
set_option maxHeartbeats 4000000 in
set_option maxRecDepth 100000 in
theorem m_M_touch (l : Launch) (D : va_G) (dA : Nat → ClassId) (S : sS) (sz : Nat) (m0 mm : Nat) (E : Nat → Nat → Prop) (T Rg : Nat → Prop) (wl : List Nat) (rc : Nat) (k : Int32) (hO : Mo S m0 mm E T Rg wl rc) (hmm : mm ≤ 511) :
    cV l y_M_touch c_M_touch 2 (rmk 2 0 0) D dA S sz [.ref m0, .int k] (MTouchP m0 mm E T Rg wl rc k) (0) (0) := by
  have hO' := Mo_mono hO (Nat.le_succ mm)
  obtain ⟨ar, cn, nA, fb, hw, hi, hX1⟩ := hO
  have hl9 := hX1.hl
  have hn9 := hX1.hn
  obtain ⟨kd, rf, it, lg⟩ := S
  obtain ⟨km, ⟨r0, r1, r2, r3, r4, r5, r6, r7⟩, ⟨k0, k1, k2, k3, k4, k5, k6, k7⟩, hdis⟩ := id hw
  dsimp only at km r0 r1 r2 r3 r4 r5 r6 r7 k0 k1 k2 k3 k4 k5 k6 k7 hi hw
  refine s_met (cc := c_M_touch) (maxL := 2) (by decide) rfl (by simp [Value.category]) (by simp [lg_sl, Value.category]) ?_
  intro p e s m args below meth c ls hx hb hr hts hown hlocks hin hml hK hX hsz hM hl
  have hg := gd_hts hts
  have hl : lc ls 2 [some (va_rf (some m0)), some (.int k)] := hl
  refine q_al_n (i := 0) hx hb d_M_touch_0 rfl hl rfl ?_
  refine q_iload_n (i := 1) hx hb d_M_touch_1 rfl hl rfl ?_
  refine s_calli (r_S 1 [.int k] rfl hx hb hml hown hg (m_M_isNode l D dA _ _ k) (hM.pre hK hX) kw_504 kw_505 kw_5 kw_506 (by decide +kernel) ⟨Nat.le_of_ble_eq_true rfl, Nat.le_of_ble_eq_true rfl⟩ rfl rfl hl.sz (by first | exact Nat.le_of_ble_eq_true rfl | simp [rf_cat] | simp [rf_cat, Value.category]) d_M_touch_2 ⟨Nat.le_refl _, Nat.le_refl _⟩ rfl) hM (fun qi1 u H locs hp1 hM => ?_)
  obtain ⟨rfl, hp1⟩ := hp1
  refine lv_if_eq (tgt := 12) hx hb d_M_touch_5 (by decide) (fun c1 => ?_) (fun c1 => ?_)
  · have hbad : ¬ vp_in k 16384 := by
      rcases hp1 with ⟨e9, -⟩ | ⟨-, q⟩
      · rw [e9] at c1; cases c1
      · exact q
    refine lv_iconst (v := 1) hx hb d_M_touch_12 (by decide) ?_
    refine s_puti (C := R_M) (T := F_M) (N := 13) (ci := 7) hx hb hg in_M ft_M ft_M_ok fn_M hown hK hM km rfl 0 (by decide) rfl (hg _ kw_455) (fun _ h9 => h9) rfl rfl rfl d_M_touch_13 (fun H locs hM => ?_)
    refine q_al_n (i := 0) hx hb d_M_touch_16 rfl hl rfl ?_
    refine s_geti (C := R_M) (T := F_M) (N := 13) (ci := 7) hx hb hg in_M hown hK hM km rfl 0 (by decide) rfl (hg _ kw_455) (fun _ h9 => h9) d_M_touch_17 ?_
    rw [up2_self]
    refine lv_if_ne (tgt := 34) hx hb d_M_touch_20 (by decide) (fun c9 => ?_) (fun c9 => ?_)
    · refine s_vret hx hb hr hM (Or.inl ⟨hbad, ?_, Mo_0 hO' 1⟩) d_M_touch_34 hlocks
      show up2 it m0 0 1 m0 0 = 1
      rw [up2_self]
    · exact absurd c9 (by decide)
  · have hv : vp_in k 16384 := by
      rcases hp1 with ⟨-, z⟩ | ⟨e9, -⟩
      · exact z
      · exact absurd e9 c1
    obtain ⟨v, hv9, ev⟩ := vp_in_of hv (by omega)
    have ek : k.toNatClampNeg = v := by rw [ev]; exact nI_clamp (by omega)
    rw [ev] at hl
    refine lv_iconst (v := 0) hx hb d_M_touch_8 (by decide) ?_
    refine lv_goto (tgt := 13) hx hb d_M_touch_9 (by decide) ?_
    refine s_puti (C := R_M) (T := F_M) (N := 13) (ci := 7) hx hb hg in_M ft_M ft_M_ok fn_M hown hK hM km rfl 0 (by decide) rfl (hg _ kw_455) (fun _ h9 => h9) rfl rfl rfl d_M_touch_13 (fun H locs hM => ?_)
    have hi1 := Mi_0 hw hi 0
    have hz1 : up2 it m0 0 0 m0 0 = 0 := up2_self _ _ _ _
    generalize up2 it m0 0 0 = it1 at hM hi1 hz1
    refine q_al_n (i := 0) hx hb d_M_touch_16 rfl hl rfl ?_
    refine s_geti (C := R_M) (T := F_M) (N := 13) (ci := 7) hx hb hg in_M hown hK hM km rfl 0 (by decide) rfl (hg _ kw_455) (fun _ h9 => h9) d_M_touch_17 ?_
    rw [hz1]
    refine lv_if_ne (tgt := 34) hx hb d_M_touch_20 (by decide) (fun c9 => ?_) (fun c9 => ?_)
    · exact absurd rfl c9
    · refine q_al_n (i := 0) hx hb d_M_touch_23 rfl hl rfl ?_
      refine s_getr (C := R_M) (T := F_M) (N := 13) (ci := 7) hx hb hg in_M hown hK hM km rfl 6 (by decide) rfl (hg _ kw_461) (fun _ h9 => h9) d_M_touch_24 ?_
      rw [r3]
      refine q_al_n (i := 0) hx hb d_M_touch_27 rfl hl rfl ?_
      refine q_iload_n (i := 1) hx hb d_M_touch_28 rfl hl rfl ?_
      refine s_calli (r_V 1 [.int (nI v)] rfl hx hb hml hown hg (m_M_place l D dA _ _ m0 ar cn nA fb v hw hi1 (by omega) hX1.nu9 hv9) (hM.pre hK hX) (hM.recv hK km (q := cls.getD 7 (R_H, F_H, 7)) rfl) kw_507 kw_509 ks_17 kw_5 kw_510 (by decide +kernel) ⟨Nat.le_of_ble_eq_true rfl, Nat.le_of_ble_eq_true rfl⟩ rfl rfl hl.sz (by first | exact Nat.le_of_ble_eq_true rfl | simp [rf_cat] | simp [rf_cat, Value.category]) d_M_touch_29 ⟨Nat.le_refl _, Nat.le_refl _⟩ rfl) hM (fun q1 u H locs hp3 hM => ?_)
      obtain ⟨it2, cn2, nA2, kx, rfl, hi2, hX2, hkx, ekx, rfl, hz2, hc2, hnu2, hl2, hfr2⟩ := place_step hi1 hX1 hv9 hp3
      have hn92 := hX2.hn
      dsimp only at hM hz2
      rw [hz1] at hz2
      refine lv_iconst (v := bI true) hx hb d_M_touch_32 (by decide) ?_
      refine s_zst (t := 4) hx hb hK hM k3 rfl rfl (bI_nar _) (vp_in_nI (show kx < 8192 by omega) (by omega)) d_M_touch_33 (fun H locs hM => ?_)
      rw [nI_clamp (by omega)] at hM
      have hi3 := Mi_b hw hi2 (i := 3) (by decide) kx true
      have hX3 := MoX_touch hX2 hkx
      refine s_vret hx hb hr hM (Or.inr ⟨hv, ?_, ar, _, _, _, hw, hi3, ?_⟩) d_M_touch_34 hlocks
      · show up2 it2 (ar 3) kx (bI true) m0 0 = 0
        rw [up2_off _ _ (fun z => hw.nm (by decide) z.symm)]; exact hz2
      · refine MoX_mono (MoX_ext hX3 (fun a b => Iff.rfl) (fun a => ?_)) (Nat.le_succ _) (by omega)
        try dsimp only
        rw [ekx, ek]
theorem nI_dec (i : Nat) : nI i + Int32.ofInt (-1) = nI i - 1 := by
  have e : Int32.ofInt (-1) = -1 := by decide
  rw [e, Int32.sub_eq_add_neg]
/-- clear's loop: the links from place j on are through, n were cut -/
def CcI (lb nb : Nat) (E : Nat → Nat → Prop) (T Rg : Nat → Prop) (wl : List Nat) (rc v kx : Nat) (cn0 : Nat → Nat) (nA0 : Nat → Nat → Nat) (fb : Nat → Nat → Bool) (cn : Nat → Nat) (nA : Nat → Nat → Nat) (Ei : Nat → Nat → Prop) (n j : Nat) : Prop :=
  MoX lb nb Ei T Rg wl rc cn nA fb ∧ j ≤ cn 1 ∧ n + cn 1 ≤ lb ∧ cn 4 = cn0 4 ∧ (∀ x, nA 2 x = nA0 2 x) ∧ (∀ i, j ≤ i → i < cn 1 → nA 0 i ≠ kx) ∧ (∀ a b, Ei a b → E a b) ∧ (∀ a b, E a b → a ≠ v → Ei a b) ∧ crd (fun b => E v b ∧ ¬ Ei v b) n
set_option maxHeartbeats 4000000 in
set_option maxRecDepth 100000 in
theorem cc_loop {p : Program} {l : Launch} {e : Env} {s : State} {m : MethodId} {args : Array Value} {below : List Frame} {meth : Method} {c : Code} {D : va_G} {dA : Nat → ClassId} {A : Nat → Prop} {Q : State → Prop} (hx : p.tables.exec = Jvm.exec) (hb : c.code = c_M_clear) (hml : c.maxLocals = 5) (hown : s.vm.findClass R_M = some m.cls) (hg : ∀ w ∈ gd, w.before args s = true) (hK : va_K D cls (tys dA) s) (hX : sKx s) {R9 : Room} {kd : Nat → Option sK} {rf : Nat → Nat → Option Nat} {lg : Nat → Nat → Int64} {m0 : Nat} {ar : Nat → Nat} (hw : Mw kd rf m0 ar) {lb nb : Nat} {E : Nat → Nat → Prop} {T Rg : Nat → Prop} {wl : List Nat} {rc v kx : Nat} {cn0 : Nat → Nat} {nA0 : Nat → Nat → Nat} {fb : Nat → Nat → Bool} (hR : 1 ≤ R9.frames ∧ 62 ≤ R9.locals) (hlb : lb < 4096) (hnb : nb < 8192) (hkx : kx < cn0 4) (ekx : nA0 2 kx = v)
    (kk : ∀ (it : Nat → Nat → Int32) (cn : Nat → Nat) (nA : Nat → Nat → Nat) (Ei : Nat → Nat → Prop) (n : Nat) (H : Heap) (locs : List Loc) (ls : Array Slot), SW D dA A s.heap (kd, rf, it, lg) H locs → Mi it m0 ar cn nA fb → it m0 0 = 0 → CcI lb nb E T Rg wl rc v kx cn0 nA0 fb cn nA Ei n 0 → lc ls 5 [some (va_rf (some m0)), some (.int (nI v)), some (.int (nI kx)), some (.int (nI n)), some (.int (nI 0 - 1))] → W p l e R9 s m args below meth c H locs 0 0 Q (F0 m 75 ls [])) :
    ∀ (j : Nat) (it : Nat → Nat → Int32) (cn : Nat → Nat) (nA : Nat → Nat → Nat) (Ei : Nat → Nat → Prop) (n : Nat) (H : Heap) (locs : List Loc) (ls : Array Slot), SW D dA A s.heap (kd, rf, it, lg) H locs → Mi it m0 ar cn nA fb → it m0 0 = 0 → CcI lb nb E T Rg wl rc v kx cn0 nA0 fb cn nA Ei n j → lc ls 5 [some (va_rf (some m0)), some (.int (nI v)), some (.int (nI kx)), some (.int (nI n)), some (.int (nI j - 1))] → W p l e R9 s m args below meth c H locs 0 0 Q (F0 m 41 ls []) := by
  obtain ⟨km, ⟨r0, r1, r2, r3, r4, r5, r6, r7⟩, ⟨k0, k1, k2, k3, k4, k5, k6, k7⟩, hdis⟩ := id hw
  intro j
  induction j with
  | zero =>
    intro it cn nA Ei n H locs ls hM hi hz hI hl
    refine q_iload hx hb d_M_clear_41 hl rfl ?_
    refine lv_if_lt (tgt := 75) hx hb d_M_clear_43 (by decide) (fun c1 => ?_) (fun c1 => ?_)
    · exact kk it cn nA Ei n H locs ls hM hi hz hI hl
    · exact absurd (by decide) c1
  | succ j ih =>
    intro it cn nA Ei n H locs ls hM hi hz hI hl
    obtain ⟨hX1, i1, i2, i3, i4, i5, i6, i7, i8⟩ := hI
    have hL9 := hX1.hl
    have hj4 : j < 4096 := by omega
    have hlj := hX1.lk j (by omega)
    have hn9 := hX1.hn
    rw [nI_pred] at hl
    have nxt : ∀ (it : Nat → Nat → Int32) (cn : Nat → Nat) (nA : Nat → Nat → Nat) (Ei : Nat → Nat → Prop) (n : Nat) (H : Heap) (locs : List Loc) (ls : Array Slot), SW D dA A s.heap (kd, rf, it, lg) H locs → Mi it m0 ar cn nA fb → it m0 0 = 0 → CcI lb nb E T Rg wl rc v kx cn0 nA0 fb cn nA Ei n j → lc ls 5 [some (va_rf (some m0)), some (.int (nI v)), some (.int (nI kx)), some (.int (nI n)), some (.int (nI j))] → W p l e R9 s m args below meth c H locs 0 0 Q (F0 m 69 ls []) := by
      intro it cn nA Ei n H locs ls hM hi hz hI hl
      refine q_iinc hx hb (nI j - 1) d_M_clear_69 hl rfl (nI_dec j) (by decide) (fun ls hl => ?_)
      simp only [List.set_cons_succ, List.set_cons_zero] at hl
      refine lv_goto (tgt := 41) hx hb d_M_clear_72 (by decide) ?_
      exact ih it cn nA Ei n H locs ls hM hi hz hI hl
    refine q_iload hx hb d_M_clear_41 hl rfl ?_
    refine lv_if_lt (tgt := 75) hx hb d_M_clear_43 (by decide) (fun c1 => ?_) (fun c1 => ?_)
    · exact absurd c1 (nI_pos (by omega))
    · refine q_al_n (i := 0) hx hb d_M_clear_46 rfl hl rfl ?_
      refine s_getr (C := R_M) (T := F_M) (N := 13) (ci := 7) hx hb hg in_M hown hK hM km rfl 2 (by decide) rfl (hg _ kw_457) (fun _ h9 => h9) d_M_clear_47 ?_
      rw [r0]
      refine q_iload hx hb d_M_clear_50 hl rfl ?_
      refine s_ild (t := 0) hx hb hK hM k0 rfl rfl (vp_in_nI hj4 (by omega)) d_M_clear_52 ?_
      rw [nI_clamp (by omega), hi.fr hj4]
      refine q_iload_n (i := 2) hx hb d_M_clear_53 rfl hl rfl ?_
      refine n_eq (tgt := 60) hx hb d_M_clear_54 (by decide) (by omega) (by omega) (fun c2 => ?_) (fun c2 => ?_)
      · refine q_al_n (i := 0) hx hb d_M_clear_60 rfl hl rfl ?_
        refine q_iload hx hb d_M_clear_61 hl rfl ?_
        refine s_callv (r_V 1 [.int (nI j)] rfl hx hb hml hown hg (m_M_cut l D dA _ _ m0 ar cn nA fb j hw hi (by omega) (by omega)) (hM.pre hK hX) (hM.recv hK km (q := cls.getD 7 (R_H, F_H, 7)) rfl) kw_523 kw_525 ks_20 kw_5 kw_526 (by decide +kernel) hR rfl rfl hl.sz (by first | exact Nat.le_of_ble_eq_true rfl | simp [rf_cat] | simp [rf_cat, Value.category]) d_M_clear_63 ⟨Nat.zero_le _, Nat.zero_le _⟩ rfl) hM (fun u H locs hp8 hM => ?_)
        obtain ⟨it2, rfl, hi2, hz2⟩ := hp8
        dsimp only at hM hz2
        rw [hz] at hz2
        have hX2 := MoX_cut hX1 (k := j) (by omega)
        have ev : nA 2 (nA 0 j) = v := by rw [c2, i4]; exact ekx
        rw [ev] at hX2
        have cc1 : va_up cn 1 (cn 1 - 1) 1 = cn 1 - 1 := va_up_self _ _ _
        have cc4 : va_up cn 1 (cn 1 - 1) 4 = cn 4 := va_up_ne _ _ (by decide)
        have hEk : Ei v (nA 2 (nA 1 j)) := (hX1.hE _ _).mpr ⟨j, by omega, ev, rfl⟩
        refine q_iinc hx hb (nI (n + 1)) d_M_clear_66 hl rfl (nI_1 n) (by decide) (fun ls hl => ?_)
        simp only [List.set_cons_succ, List.set_cons_zero] at hl
        refine nxt it2 _ _ _ (n + 1) H locs ls hM hi2 hz2 ⟨hX2, by rw [cc1]; omega, by rw [cc1]; omega, by rw [cc4]; exact i3, fun x => ?_, fun i hi9 hi8 => ?_, fun a b hab => i6 a b hab.1, fun a b hab hav => ⟨i7 a b hab hav, fun z => hav z.1⟩, ?_⟩ hl
        · rw [← i4]; exact if_neg (by omega)
        · rw [cc1] at hi8
          have q9 : cutA nA j (cn 1 - 1) 0 i = nA 0 (i + 1) := if_pos ⟨Or.inl rfl, hi9, hi8⟩
          rw [q9]; exact i5 (i + 1) (by omega) (by omega)
        · refine crd_add i8 (x := nA 2 (nA 1 j)) (fun b => ?_) (fun z => z.2 hEk)
          constructor
          · rintro ⟨q1, q2⟩
            by_cases e : b = nA 2 (nA 1 j)
            · exact Or.inr e
            · exact Or.inl ⟨q1, fun z => q2 ⟨z, fun y => e y.2⟩⟩
          · rintro (⟨q1, q2⟩ | q)
            · exact ⟨q1, fun z => q2 z.1⟩
            · rw [q]; exact ⟨i6 _ _ hEk, fun z => z.2 ⟨rfl, rfl⟩⟩
      · refine lv_goto (tgt := 69) hx hb d_M_clear_57 (by decide) ?_
        refine nxt it cn nA Ei n H locs ls hM hi hz ⟨hX1, by omega, i2, i3, i4, fun i hi9 hi8 => ?_, i6, i7, i8⟩ hl
        by_cases e : i = j
        · rw [e]; exact c2
        · exact i5 i (by omega) hi8
set_option maxHeartbeats 4000000 in
set_option maxRecDepth 100000 in
theorem m_M_clear (l : Launch) (D : va_G) (dA : Nat → ClassId) (S : sS) (sz : Nat) (m0 mm : Nat) (E : Nat → Nat → Prop) (T Rg : Nat → Prop) (wl : List Nat) (rc : Nat) (k : Int32) (hO : Mo S m0 mm E T Rg wl rc) (hmm : mm ≤ 511) :
    cI l y_M_clear c_M_clear 5 (some .int) (rmk 2 0 0) D dA S sz [.ref m0, .int k] (MClearP m0 mm E T Rg wl rc k) (0) (0) := by
  have hO' := Mo_mono hO (Nat.le_succ mm)
  obtain ⟨ar, cn, nA, fb, hw, hi, hX1⟩ := hO
  have hl9 := hX1.hl
  have hn9 := hX1.hn
  obtain ⟨kd, rf, it, lg⟩ := S
  obtain ⟨km, ⟨r0, r1, r2, r3, r4, r5, r6, r7⟩, ⟨k0, k1, k2, k3, k4, k5, k6, k7⟩, hdis⟩ := id hw
  dsimp only at km r0 r1 r2 r3 r4 r5 r6 r7 k0 k1 k2 k3 k4 k5 k6 k7 hi hw
  refine s_met (cc := c_M_clear) (maxL := 5) (by decide) rfl (by simp [Value.category]) (by simp [lg_sl, Value.category]) ?_
  intro p e s m args below meth c ls hx hb hr hts hown hlocks hin hml hK hX hsz hM hl
  have hg := gd_hts hts
  have hl : lc ls 5 [some (va_rf (some m0)), some (.int k), none, none, none] := hl
  refine q_al_n (i := 0) hx hb d_M_clear_0 rfl hl rfl ?_
  refine q_iload_n (i := 1) hx hb d_M_clear_1 rfl hl rfl ?_
  refine s_calli (r_S 1 [.int k] rfl hx hb hml hown hg (m_M_isNode l D dA _ _ k) (hM.pre hK hX) kw_504 kw_505 kw_5 kw_506 (by decide +kernel) ⟨Nat.le_of_ble_eq_true rfl, Nat.le_of_ble_eq_true rfl⟩ rfl rfl hl.sz (by first | exact Nat.le_of_ble_eq_true rfl | simp [rf_cat] | simp [rf_cat, Value.category]) d_M_clear_2 ⟨Nat.le_refl _, Nat.le_refl _⟩ rfl) hM (fun qi1 u H locs hp1 hM => ?_)
  obtain ⟨rfl, hp1⟩ := hp1
  refine lv_if_eq (tgt := 12) hx hb d_M_clear_5 (by decide) (fun c1 => ?_) (fun c1 => ?_)
  · have hbad : ¬ vp_in k 16384 := by
      rcases hp1 with ⟨e9, -⟩ | ⟨-, q⟩
      · rw [e9] at c1; cases c1
      · exact q
    refine lv_iconst (v := 1) hx hb d_M_clear_12 (by decide) ?_
    refine s_puti (C := R_M) (T := F_M) (N := 13) (ci := 7) hx hb hg in_M ft_M ft_M_ok fn_M hown hK hM km rfl 0 (by decide) rfl (hg _ kw_455) (fun _ h9 => h9) rfl rfl rfl d_M_clear_13 (fun H locs hM => ?_)
    refine q_al_n (i := 0) hx hb d_M_clear_16 rfl hl rfl ?_
    refine s_geti (C := R_M) (T := F_M) (N := 13) (ci := 7) hx hb hg in_M hown hK hM km rfl 0 (by decide) rfl (hg _ kw_455) (fun _ h9 => h9) d_M_clear_17 ?_
    rw [up2_self]
    refine lv_if_eq (tgt := 25) hx hb d_M_clear_20 (by decide) (fun c9 => ?_) (fun c9 => ?_)
    · exact absurd c9 (by decide)
    · refine lv_iconst (v := 0) hx hb d_M_clear_23 (by decide) ?_
      refine s_iret hx hb hr hM (Or.inl ⟨hbad, ?_, Mo_0 hO' 1⟩) d_M_clear_24 hlocks
      show up2 it m0 0 1 m0 0 = 1
      rw [up2_self]
  · have hv : vp_in k 16384 := by
      rcases hp1 with ⟨-, z⟩ | ⟨e9, -⟩
      · exact z
      · exact absurd e9 c1
    obtain ⟨v, hv9, ev⟩ := vp_in_of hv (by omega)
    have ek : k.toNatClampNeg = v := by rw [ev]; exact nI_clamp (by omega)
    rw [ev] at hl
    refine lv_iconst (v := 0) hx hb d_M_clear_8 (by decide) ?_
    refine lv_goto (tgt := 13) hx hb d_M_clear_9 (by decide) ?_
    refine s_puti (C := R_M) (T := F_M) (N := 13) (ci := 7) hx hb hg in_M ft_M ft_M_ok fn_M hown hK hM km rfl 0 (by decide) rfl (hg _ kw_455) (fun _ h9 => h9) rfl rfl rfl d_M_clear_13 (fun H locs hM => ?_)
    have hi1 := Mi_0 hw hi 0
    have hz1 : up2 it m0 0 0 m0 0 = 0 := up2_self _ _ _ _
    generalize up2 it m0 0 0 = it1 at hM hi1 hz1
    refine q_al_n (i := 0) hx hb d_M_clear_16 rfl hl rfl ?_
    refine s_geti (C := R_M) (T := F_M) (N := 13) (ci := 7) hx hb hg in_M hown hK hM km rfl 0 (by decide) rfl (hg _ kw_455) (fun _ h9 => h9) d_M_clear_17 ?_
    rw [hz1]
    refine lv_if_eq (tgt := 25) hx hb d_M_clear_20 (by decide) (fun c9 => ?_) (fun c9 => ?_)
    · refine q_al_n (i := 0) hx hb d_M_clear_25 rfl hl rfl ?_
      refine q_iload_n (i := 1) hx hb d_M_clear_26 rfl hl rfl ?_
      refine s_calli (r_V 1 [.int (nI v)] rfl hx hb hml hown hg (m_M_place l D dA _ _ m0 ar cn nA fb v hw hi1 (by omega) hX1.nu9 hv9) (hM.pre hK hX) (hM.recv hK km (q := cls.getD 7 (R_H, F_H, 7)) rfl) kw_507 kw_509 ks_17 kw_5 kw_510 (by decide +kernel) ⟨Nat.le_of_ble_eq_true rfl, Nat.le_of_ble_eq_true rfl⟩ rfl rfl hl.sz (by first | exact Nat.le_of_ble_eq_true rfl | simp [rf_cat] | simp [rf_cat, Value.category]) d_M_clear_27 ⟨Nat.le_refl _, Nat.le_refl _⟩ rfl) hM (fun q1 u H locs hp3 hM => ?_)
      obtain ⟨it2, cn2, nA2, kx, rfl, hi2, hX2, hkx, ekx, rfl, hz2, hc2, hnu2, hl2, hfr2⟩ := place_step hi1 hX1 hv9 hp3
      have hn92 := hX2.hn
      have hl92 := hX2.hl
      dsimp only at hM hz2
      rw [hz1] at hz2
      refine q_istore_n (i := 2) hx hb d_M_clear_30 rfl hl (by decide) (fun ls hl => ?_)
      simp only [List.set_cons_succ, List.set_cons_zero] at hl
      refine lv_iconst (v := nI 0) hx hb d_M_clear_31 (by decide) ?_
      refine q_istore_n (i := 3) hx hb d_M_clear_32 rfl hl (by decide) (fun ls hl => ?_)
      simp only [List.set_cons_succ, List.set_cons_zero] at hl
      refine q_al_n (i := 0) hx hb d_M_clear_33 rfl hl rfl ?_
      refine s_geti (C := R_M) (T := F_M) (N := 13) (ci := 7) hx hb hg in_M hown hK hM km rfl 1 (by decide) rfl (hg _ kw_456) (fun _ h9 => h9) d_M_clear_34 ?_
      rw [hi2.L]
      refine lv_iconst (v := 1) hx hb d_M_clear_37 (by decide) ?_
      refine lv_isub hx hb d_M_clear_38 ?_
      refine q_istore hx hb d_M_clear_39 hl (by decide) (fun ls hl => ?_)
      simp only [List.set_cons_succ, List.set_cons_zero] at hl
      refine cc_loop hx hb hml hown hg hK hX hw (lb := mm) (nb := 2 * mm + 1) (E := E) (T := T) (Rg := Rg) (wl := wl) (rc := rc) (v := v) (kx := kx) (cn0 := cn2) (nA0 := nA2) (fb := fb) ⟨Nat.le_of_ble_eq_true rfl, Nat.le_of_ble_eq_true rfl⟩ (by omega) (by omega) hkx ekx ?_ (cn2 1) it2 cn2 nA2 E 0 H locs ls hM hi2 hz2 ⟨hX2, Nat.le_refl _, by omega, rfl, fun _ => rfl, fun i hi9 hi8 => by omega, fun _ _ h => h, fun _ _ h _ => h, crd_0 fun b z => z.2 z.1⟩ hl
      intro it3 cn3 nA3 Ei n H locs ls hM hi3 hz3 hI hl
      obtain ⟨hX3, i1, i2, i3, i4, i5, i6, i7, i8⟩ := hI
      refine q_al_n (i := 0) hx hb d_M_clear_75 rfl hl rfl ?_
      refine s_getr (C := R_M) (T := F_M) (N := 13) (ci := 7) hx hb hg in_M hown hK hM km rfl 6 (by decide) rfl (hg _ kw_461) (fun _ h9 => h9) d_M_clear_76 ?_
      rw [r3]
      refine q_iload_n (i := 2) hx hb d_M_clear_79 rfl hl rfl ?_
      refine lv_iconst (v := bI true) hx hb d_M_clear_80 (by decide) ?_
      refine s_zst (t := 4) hx hb hK hM k3 rfl rfl (bI_nar _) (vp_in_nI (show kx < 8192 by omega) (by omega)) d_M_clear_81 (fun H locs hM => ?_)
      rw [nI_clamp (by omega)] at hM
      have hi4 := Mi_b hw hi3 (i := 3) (by decide) kx true
      have hX4 := MoX_touch hX3 (x := kx) (by omega)
      have hv0 : ∀ b, ¬ Ei v b := by
        intro b hb9
        obtain ⟨j, hj, e1, -⟩ := (hX3.hE v b).mp hb9
        refine i5 j (Nat.zero_le _) hj (hX3.nui _ _ (hX3.lk j hj).1 (by omega) ?_)
        rw [e1, i4, ekx]
      refine q_iload_n (i := 3) hx hb d_M_clear_82 rfl hl rfl ?_
      refine s_iret hx hb hr hM (Or.inr ⟨hv, ?_, ⟨ar, _, _, _, hw, hi4, ?_⟩, n, by omega, crd_ext i8 (fun b => ?_), rfl⟩) d_M_clear_83 hlocks
      · show up2 it3 (ar 3) kx (bI true) m0 0 = 0
        rw [up2_off _ _ (fun z => hw.nm (by decide) z.symm)]; exact hz3
      · refine MoX_mono (MoX_ext hX4 (fun a b => ?_) (fun a => ?_)) (Nat.le_succ _) (by omega)
        · try dsimp only
          rw [ek]
          exact ⟨fun z => i7 a b z.1 z.2, fun z => ⟨i6 a b z, fun q => hv0 b (by rw [← q]; exact z)⟩⟩
        · try dsimp only
          rw [i4, ekx, ek]
      · try dsimp only
        rw [ek]
        exact ⟨fun z => ⟨z, hv0 b⟩, fun z => z.1⟩
    · exact absurd rfl c9
