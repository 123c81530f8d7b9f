theorem d_A_copyOf_0 : decode c_A_copyOf 0 = .ok (.iload_n 1, 1) := by decide +kernel
theorem d_A_copyOf_1 : decode c_A_copyOf 1 = .ok (.aload_n 0, 1) := by decide +kernel
theorem d_A_copyOf_2 : decode c_A_copyOf 2 = .ok (.arraylength, 1) := by decide +kernel
theorem d_A_copyOf_3 : decode c_A_copyOf 3 = .ok (.if_icmp .ne 11, 3) := by decide +kernel
theorem d_A_copyOf_6 : decode c_A_copyOf 6 = .ok (.aload_n 0, 1) := by decide +kernel
theorem d_A_copyOf_7 : decode c_A_copyOf 7 = .ok (.invokevirtual 316, 3) := by decide +kernel
theorem d_A_copyOf_10 : decode c_A_copyOf 10 = .ok (.checkcast 317, 3) := by decide +kernel
theorem d_A_copyOf_13 : decode c_A_copyOf 13 = .ok (.areturn, 1) := by decide +kernel
theorem d_A_copyOf_14 : decode c_A_copyOf 14 = .ok (.iload_n 1, 1) := by decide +kernel
theorem d_A_copyOf_15 : decode c_A_copyOf 15 = .ok (.newarray .int, 2) := by decide +kernel
theorem d_A_copyOf_17 : decode c_A_copyOf 17 = .ok (.astore_n 2, 1) := by decide +kernel
theorem d_A_copyOf_18 : decode c_A_copyOf 18 = .ok (.aload_n 0, 1) := by decide +kernel
theorem d_A_copyOf_19 : decode c_A_copyOf 19 = .ok (.iconst 0, 1) := by decide +kernel
theorem d_A_copyOf_20 : decode c_A_copyOf 20 = .ok (.aload_n 2, 1) := by decide +kernel
theorem d_A_copyOf_21 : decode c_A_copyOf 21 = .ok (.iconst 0, 1) := by decide +kernel
theorem d_A_copyOf_22 : decode c_A_copyOf 22 = .ok (.aload_n 0, 1) := by decide +kernel
theorem d_A_copyOf_23 : decode c_A_copyOf 23 = .ok (.arraylength, 1) := by decide +kernel
theorem d_A_copyOf_24 : decode c_A_copyOf 24 = .ok (.iload_n 1, 1) := by decide +kernel
theorem d_A_copyOf_25 : decode c_A_copyOf 25 = .ok (.invokestatic 304, 3) := by decide +kernel
theorem d_A_copyOf_28 : decode c_A_copyOf 28 = .ok (.invokestatic 150, 3) := by decide +kernel
theorem d_A_copyOf_31 : decode c_A_copyOf 31 = .ok (.aload_n 2, 1) := by decide +kernel
theorem d_A_copyOf_32 : decode c_A_copyOf 32 = .ok (.areturn, 1) := by decide +kernel
set_option maxHeartbeats 4000000 in
set_option maxRecDepth 100000 in
theorem m_A_copyOf (l : Launch) (D : va_G) (dA : Nat → ClassId) (S : sS) (sz : Nat) (r cap k : Nat) (kr : S.1 r = some (.inr (0, cap))) (hk : cap < k) (hk2 : k ≤ 32768) :
    cQ l y_A_copyOf c_A_copyOf 3 (some (.array .int)) (rmk 1 1 k) D dA S sz [.ref r, .int (nI k)] (fun x u => ∃ q, x = some q ∧ S.1 q = none ∧ u = (va_up S.1 q (some (.inr (0, k))), upr S.2.1 q (fun _ => none), upr S.2.2.1 q (va_cpy (S.2.2.1 r) (fun _ => 0) 0 0 cap), upr S.2.2.2 q (fun _ => 0))) 1 k := by
  obtain ⟨kd, rf, it, lg⟩ := S
  dsimp only at kr
  refine s_met (cc := c_A_copyOf) (maxL := 3) (by decide) rfl (by simp [Value.category]) (by simp [lg_sl, Value.category]) ?_
  intro p e s m args below meth c ls hx hb hr hts hown hlocks hin hml hK hX hsz hM hl
  have hg := gd_hts hts
  have hl : lc ls 3 [some (va_rf (some r)), some (.int (nI k)), none] := hl
  refine q_iload_n (i := 1) hx hb d_A_copyOf_0 rfl hl rfl ?_
  refine q_al_n (i := 0) hx hb d_A_copyOf_1 rfl hl rfl ?_
  refine s_len (ty := .int) hx hb hK hM kr rfl d_A_copyOf_2 ?_
  refine n_ne (tgt := 14) hx hb d_A_copyOf_3 (by decide) (by omega) (by omega) (fun c1 => ?_) (fun c1 => ?_)
  · refine q_iload_n (i := 1) hx hb d_A_copyOf_14 rfl hl rfl ?_
    refine s_newi (t := 0) (ty := .int) (atype := .int) hx hb (hg _ kw_52) rfl rfl (fun _ h => h) hK rfl rfl hM (nI_pos (by omega)) (nI_clamp (by omega)) (by show k * 4 ≤ _; omega) (by show 0 + 1 ≤ 1; omega) (by show 0 + k ≤ k; omega) d_A_copyOf_15 (fun q H hq hM => ?_)
    refine q_astore_n (i := 2) hx hb (some q) d_A_copyOf_17 rfl hl (by decide) (fun ls hl => ?_)
    simp only [List.set_cons_succ, List.set_cons_zero] at hl
    have hqr : r ≠ q := sk_ne (kd := kd) kr hq
    have kr2 : va_up kd q (some (.inr (0, k))) r = some (.inr (0, cap)) := by rw [va_up_ne _ _ hqr]; exact kr
    have kq2 : va_up kd q (some (.inr (0, k))) q = some (.inr (0, k)) := va_up_self _ _ _
    refine q_al_n (i := 0) hx hb d_A_copyOf_18 rfl hl rfl ?_
    refine lv_iconst (v := 0) hx hb d_A_copyOf_19 (by decide) ?_
    refine q_al_n (i := 2) hx hb d_A_copyOf_20 rfl hl rfl ?_
    refine lv_iconst (v := 0) hx hb d_A_copyOf_21 (by decide) ?_
    refine q_al_n (i := 0) hx hb d_A_copyOf_22 rfl hl rfl ?_
    refine s_len (ty := .int) (t := 0) (n := cap) hx hb hK hM kr2 rfl d_A_copyOf_23 ?_
    refine q_iload_n (i := 1) hx hb d_A_copyOf_24 rfl hl rfl ?_
    refine va_mmin hx hb (by rw [hml]; exact hl.sz.symm) hown (hg _ kw_183) (hg _ kw_184) (hg _ kw_15) (hg _ kw_185) (Nat.le_of_ble_eq_true rfl) (Nat.le_of_ble_eq_true rfl) (by show 0 + 1 ≤ 1; omega) (by show 0 + k ≤ k; omega) d_A_copyOf_25 ?_
    rw [if_neg (show ¬ nI k < nI cap from nI_nlt (by omega) (by omega))]
    refine s_cpy (t := 0) (n0 := cap) (n1 := k) hx hb (by rw [hml]; exact hl.sz.symm) hown (hg _ kw_186) (hg _ kw_188) (hg _ kw_187) (hg _ kw_16) hK hM kr2 kq2 rfl rfl (by decide) (by decide) (nI_pos (by omega)) (by rw [nI_clamp (by omega)]; show 0 + cap ≤ cap; omega) (by rw [nI_clamp (by omega)]; show 0 + cap ≤ k; omega) (Nat.le_of_ble_eq_true rfl) (by show _ ≤ 66; decide +kernel) d_A_copyOf_28 (fun H locs hM => ?_)
    refine q_al_n (i := 2) hx hb d_A_copyOf_31 rfl hl rfl ?_
    have e1 : upr (upr it q (fun _ => 0)) q (va_cpy (upr it q (fun _ => 0) r) (upr it q (fun _ => 0) q) (0 : Int32).toNatClampNeg (0 : Int32).toNatClampNeg (nI cap).toNatClampNeg) = upr it q (va_cpy (it r) (fun _ => 0) 0 0 cap) := by
      rw [upr_upr, upr_self, upr_off _ _ hqr, nI_clamp (by omega)]
      rfl
    have hM : sW sg tk D dA cls (sA (kd, rf, it, lg) sz) s.heap (va_up kd q (some (.inr (0, k))), upr rf q (fun _ => none), upr it q (va_cpy (it r) (fun _ => 0) 0 0 cap), upr lg q (fun _ => 0)) H locs := by rw [← e1]; exact hM
    refine W.widen (k := 1) (n := k) (by omega) (by omega) ?_
    exact s_qret (some q) hx hb hr (Or.inr ⟨_, rfl⟩) hM ⟨q, rfl, hq, rfl⟩ d_A_copyOf_32 hlocks
  · omega
