set_option maxHeartbeats 4000000 in
set_option maxRecDepth 100000 in
theorem m_U_init (l : Launch) (D : va_G) (dA : Nat → ClassId) (S : sS) (sz : Nat) (a : Nat) (h : S.1 a = some (.inl 5)) :
    cV l y_U_init c_U_init 1 (rmk 1 1 16) D dA S sz [.ref a] (fun u => ∃ r, S.1 r = none ∧ u = (va_up S.1 r (some (.inr (0, 16))), up2 (upr S.2.1 r (fun _ => none)) a 0 (some r), upr S.2.2.1 r (fun _ => 0), upr S.2.2.2 r (fun _ => 0))) (1) (16) := by
  obtain ⟨kd, rf, it, lg⟩ := S
  have ka : kd a = some (.inl 5) := h
  refine s_met (cc := c_U_init) (maxL := 1) (by decide) rfl (by simp [Value.category]) (by simp [lg_sl, Value.category]) ?_
  intro p e s m args below meth c ls hx hb hr hts hown hlocks hin hml hK hX hsz hM hl
  have hg := gd_hts hts
  have hl : lc ls 1 [some (va_rf (some a))] := hl
  refine q_al_n (i := 0) hx hb d_U_init_0 rfl hl rfl ?_
  refine W.objInit hx hb hown (hg _ kw_42) (hg _ kw_23) (hg _ kw_24) rfl (by rw [hml]; exact hl.sz) rfl d_U_init_1 (Nat.le_of_ble_eq_true rfl) (Nat.le_of_ble_eq_true rfl) ?_
  refine W.eq (g2 := F0 m 4 ls []) rfl ?_
  refine q_al_n (i := 0) hx hb d_U_init_4 rfl hl rfl ?_
  refine lv_bipush (v := nI 16) hx hb d_U_init_5 (by decide) ?_
  refine s_newi (t := 0) (ty := .int) (atype := .int) hx hb (hg _ kw_52) rfl rfl (fun _ h => h) hK rfl rfl hM (nI_pos (by omega)) (nI_clamp (by omega)) (by decide) (by show 0 + 1 ≤ 1; omega) (by show 0 + 16 ≤ 16; omega) d_U_init_7 (fun r H hr9 hM => ?_)
  have ka2 : va_up kd r (some (.inr (0, 16))) a = some (.inl 5) := by rw [va_up_ne _ _ (sk_ne ka hr9)]; exact ka
  refine s_putr (C := R_U) (T := F_U) (N := 2) (ci := 5) hx hb hg in_U ft_U ft_U_ok fn_U hown hK hM ka2 rfl 0 (by decide) rfl (hg _ kw_43) (fun _ h9 => h9) rfl (some r) (rf_narrowA _ _) (rf_fitsA _ _) d_U_init_9 (fun H locs hM => ?_)
  exact s_vret hx hb hr hM ⟨r, hr9, rfl⟩ d_U_init_12 hlocks
set_option maxHeartbeats 4000000 in
set_option maxRecDepth 100000 in
theorem m_P_init (l : Launch) (D : va_G) (dA : Nat → ClassId) (S : sS) (sz : Nat) (a : Nat) (h : S.1 a = some (.inl 2)) :
    cV l y_P_init c_P_init 1 (rmk 1 1 128) D dA S sz [.ref a] (fun u => ∃ r, S.1 r = none ∧ u = (va_up S.1 r (some (.inr (2, 128))), up2 (upr S.2.1 r (fun _ => none)) a 0 (some r), upr S.2.2.1 r (fun _ => 0), upr S.2.2.2 r (fun _ => 0))) (1) (128) := by
  obtain ⟨kd, rf, it, lg⟩ := S
  have ka : kd a = some (.inl 2) := h
  refine s_met (cc := c_P_init) (maxL := 1) (by decide) rfl (by simp [Value.category]) (by simp [lg_sl, Value.category]) ?_
  intro p e s m args below meth c ls hx hb hr0 hts hown hlocks hin hml hK hX hsz hM hl
  have hg := gd_hts hts
  have hl : lc ls 1 [some (va_rf (some a))] := hl
  refine q_al_n (i := 0) hx hb d_P_init_0 rfl hl rfl ?_
  refine W.objInit hx hb hown (hg _ kw_118) (hg _ kw_23) (hg _ kw_24) rfl (by rw [hml]; exact hl.sz) rfl d_P_init_1 (Nat.le_of_ble_eq_true rfl) (Nat.le_of_ble_eq_true rfl) ?_
  refine W.eq (g2 := F0 m 4 ls []) rfl ?_
  refine q_al_n (i := 0) hx hb d_P_init_4 rfl hl rfl ?_
  refine lv_sipush (v := 128) hx hb d_P_init_5 (by decide) ?_
  refine s_newq (t := 2) (C := "HangOrder$Node") (N' := 128) hx hb hown (hg _ kw_119) (va_AO.use hX.2.2) hK rfl rfl hM (by decide) (by decide) (by decide) (by show 0 + 1 ≤ 1; omega) (by show 0 + 128 ≤ 128; omega) d_P_init_8 (fun r H hr hM => ?_)
  have ka2 : va_up kd r (some (.inr (2, 128))) a = some (.inl 2) := by rw [va_up_ne _ _ (sk_ne ka hr)]; exact ka
  refine s_putFr (C := R_P) (T := F_P) (N := 1) (ci := 2) hx hb hg in_P ft_P ft_P_ok fn_P hown hK hM ka2 rfl 0 (by decide) rfl (hg _ kw_121) (fun _ h9 => h9) rfl hin rfl (some r) (rf_narrowA _ _) (rf_fitsA _ _) d_P_init_11 (fun H locs hM => ?_)
  exact s_vret hx hb hr0 hM ⟨r, hr, rfl⟩ d_P_init_14 hlocks
set_option maxHeartbeats 4000000 in
set_option maxRecDepth 100000 in
theorem m_T_init (l : Launch) (D : va_G) (dA : Nat → ClassId) (S : sS) (sz : Nat) (a : Nat) (h : S.1 a = some (.inl 1)) :
    cV l y_T_init c_T_init 1 (rmk 1 1 128) D dA S sz [.ref a] (fun u => ∃ r, S.1 r = none ∧ u = (va_up S.1 r (some (.inr (1, 128))), up2 (upr S.2.1 r (fun _ => none)) a 0 (some r), upr S.2.2.1 r (fun _ => 0), upr S.2.2.2 r (fun _ => 0))) (1) (128) := by
  obtain ⟨kd, rf, it, lg⟩ := S
  have ka : kd a = some (.inl 1) := h
  refine s_met (cc := c_T_init) (maxL := 1) (by decide) rfl (by simp [Value.category]) (by simp [lg_sl, Value.category]) ?_
  intro p e s m args below meth c ls hx hb hr0 hts hown hlocks hin hml hK hX hsz hM hl
  have hg := gd_hts hts
  have hl : lc ls 1 [some (va_rf (some a))] := hl
  refine q_al_n (i := 0) hx hb d_T_init_0 rfl hl rfl ?_
  refine W.objInit hx hb hown (hg _ kw_30) (hg _ kw_23) (hg _ kw_24) rfl (by rw [hml]; exact hl.sz) rfl d_T_init_1 (Nat.le_of_ble_eq_true rfl) (Nat.le_of_ble_eq_true rfl) ?_
  refine W.eq (g2 := F0 m 4 ls []) rfl ?_
  refine q_al_n (i := 0) hx hb d_T_init_4 rfl hl rfl ?_
  refine lv_sipush (v := 128) hx hb d_T_init_5 (by decide) ?_
  refine s_newq (t := 1) (C := "HangOrder$Page") (N' := 128) hx hb hown (hg _ kw_31) (va_AO.use hX.2.1) hK rfl rfl hM (by decide) (by decide) (by decide) (by show 0 + 1 ≤ 1; omega) (by show 0 + 128 ≤ 128; omega) d_T_init_8 (fun r H hr hM => ?_)
  have ka2 : va_up kd r (some (.inr (1, 128))) a = some (.inl 1) := by rw [va_up_ne _ _ (sk_ne ka hr)]; exact ka
  refine s_putFr (C := R_T) (T := F_T) (N := 1) (ci := 1) hx hb hg in_T ft_T ft_T_ok fn_T hown hK hM ka2 rfl 0 (by decide) rfl (hg _ kw_33) (fun _ h9 => h9) rfl hin rfl (some r) (rf_narrowA _ _) (rf_fitsA _ _) d_T_init_11 (fun H locs hM => ?_)
  exact s_vret hx hb hr0 hM ⟨r, hr, rfl⟩ d_T_init_14 hlocks
set_option maxHeartbeats 4000000 in
set_option maxRecDepth 100000 in
theorem m_N_init (l : Launch) (D : va_G) (dA : Nat → ClassId) (S : sS) (sz : Nat) (a : Nat) (k : Int32) (h : S.1 a = some (.inl 3)) :
    cV l y_N_init c_N_init 2 (rmk 1 0 0) D dA S sz [.ref a, .int k] (fun u => u = (S.1, S.2.1, up2 S.2.2.1 a 0 k, S.2.2.2)) (0) (0) := by
  obtain ⟨kd, rf, it, lg⟩ := S
  have ka : kd a = some (.inl 3) := h
  refine s_met (cc := c_N_init) (maxL := 2) (by decide) rfl (by simp [Value.category]) (by simp [lg_sl, Value.category]) ?_
  intro p e s m args below meth c ls hx hb hr hts hown hlocks hin hml hK hX hsz hM hl
  have hg := gd_hts hts
  have hl : lc ls 2 [some (va_rf (some a)), some (.int k)] := hl
  refine q_al_n (i := 0) hx hb d_N_init_0 rfl hl rfl ?_
  refine W.objInit hx hb hown (hg _ kw_131) (hg _ kw_23) (hg _ kw_24) rfl (by rw [hml]; exact hl.sz) rfl d_N_init_1 (Nat.le_of_ble_eq_true rfl) (Nat.le_of_ble_eq_true rfl) ?_
  refine W.eq (g2 := F0 m 4 ls []) rfl ?_
  refine q_al_n (i := 0) hx hb d_N_init_4 rfl hl rfl ?_
  refine q_iload_n (i := 1) hx hb d_N_init_5 rfl hl rfl ?_
  refine s_putFi (C := R_N) (T := F_N) (N := 9) (ci := 3) hx hb hg in_N ft_N ft_N_ok fn_N hown hK hM (by assumption) rfl 0 (by decide) rfl (hg _ kw_132) (fun _ h9 => h9) rfl hin rfl rfl rfl d_N_init_6 (fun H locs hM => ?_)
  exact s_vret hx hb hr hM rfl d_N_init_9 hlocks
set_option maxHeartbeats 4000000 in
set_option maxRecDepth 100000 in
theorem m_K_init (l : Launch) (D : va_G) (dA : Nat → ClassId) (S : sS) (sz : Nat) (a x y : Nat) (h : S.1 a = some (.inl 4)) :
    cV l y_K_init c_K_init 3 (rmk 1 0 0) D dA S sz [.ref a, .ref x, .ref y] (fun u => u = (S.1, up2 (up2 S.2.1 a 0 (some x)) a 1 (some y), S.2.2.1, S.2.2.2)) (0) (0) := by
  obtain ⟨kd, rf, it, lg⟩ := S
  have ka : kd a = some (.inl 4) := h
  refine s_met (cc := c_K_init) (maxL := 3) (by decide) rfl (by simp [Value.category]) (by simp [lg_sl, Value.category]) ?_
  intro p e s m args below meth c ls hx hb hr hts hown hlocks hin hml hK hX hsz hM hl
  have hg := gd_hts hts
  have hl : lc ls 3 [some (va_rf (some a)), some (va_rf (some x)), some (va_rf (some y))] := hl
  refine q_al_n (i := 0) hx hb d_K_init_0 rfl hl rfl ?_
  refine W.objInit hx hb hown (hg _ kw_376) (hg _ kw_23) (hg _ kw_24) rfl (by rw [hml]; exact hl.sz) rfl d_K_init_1 (Nat.le_of_ble_eq_true rfl) (Nat.le_of_ble_eq_true rfl) ?_
  refine W.eq (g2 := F0 m 4 ls []) rfl ?_
  refine q_al_n (i := 0) hx hb d_K_init_4 rfl hl rfl ?_
  refine q_al_n (i := 1) hx hb d_K_init_5 rfl hl rfl ?_
  refine s_putFr (C := R_K) (T := F_K) (N := 6) (ci := 4) hx hb hg in_K ft_K ft_K_ok fn_K hown hK hM (by assumption) rfl 0 (by decide) rfl (hg _ kw_377) (fun _ h9 => h9) rfl hin rfl (_) (rf_narrow _ _) (rf_fits _ _) d_K_init_6 (fun H locs hM => ?_)
  refine q_al_n (i := 0) hx hb d_K_init_9 rfl hl rfl ?_
  refine q_al_n (i := 2) hx hb d_K_init_10 rfl hl rfl ?_
  refine s_putFr (C := R_K) (T := F_K) (N := 6) (ci := 4) hx hb hg in_K ft_K ft_K_ok fn_K hown hK hM (by assumption) rfl 1 (by decide) rfl (hg _ kw_379) (fun _ h9 => h9) rfl hin rfl (_) (rf_narrow _ _) (rf_fits _ _) d_K_init_11 (fun H locs hM => ?_)
  exact s_vret hx hb hr hM rfl d_K_init_14 hlocks
set_option maxHeartbeats 4000000 in
set_option maxRecDepth 100000 in
theorem m_F_init (l : Launch) (D : va_G) (dA : Nat → ClassId) (S : sS) (sz : Nat) (a : Nat) (h : S.1 a = some (.inl 6)) :
    cV l y_F_init c_F_init 1 (rmk 2 2 18) D dA S sz [.ref a] (fun u => ∃ b r, b ≠ r ∧ S.1 b = none ∧ S.1 r = none ∧ Lf u a b r 16 0 (fun _ => 0) ∧ sFr S u (fun z => z = a) ∧ ∀ z, S.1 z = none → u.1 z ≠ none → z = b ∨ z = r) (2) (18) := by
  obtain ⟨kd, rf, it, lg⟩ := S
  have ka : kd a = some (.inl 6) := h
  refine s_met (cc := c_F_init) (maxL := 1) (by decide) rfl (by simp [Value.category]) (by simp [lg_sl, Value.category]) ?_
  intro p e s m args below meth c ls hx hb hr hts hown hlocks hin hml hK hX hsz hM hl
  have hg := gd_hts hts
  have hl : lc ls 1 [some (va_rf (some a))] := hl
  refine q_al_n (i := 0) hx hb d_F_init_0 rfl hl rfl ?_
  refine W.objInit hx hb hown (hg _ kw_58) (hg _ kw_23) (hg _ kw_24) rfl (by rw [hml]; exact hl.sz) rfl d_F_init_1 (Nat.le_of_ble_eq_true rfl) (Nat.le_of_ble_eq_true rfl) ?_
  refine W.eq (g2 := F0 m 4 ls []) rfl ?_
  refine q_al_n (i := 0) hx hb d_F_init_4 rfl hl rfl ?_
  refine s_new (C := R_U) (T := F_U) (N := 2) (ci := 5) hx hb hg in_U ft_U ft_U_ok hown (hg _ kw_59) (hg _ kw_38) (hg _ kw_3) hK hM rfl df_U (by show 0 + 1 ≤ 2; omega) (by show 0 + 2 ≤ 18; omega) d_F_init_5 (fun b H hb9 hM => ?_)
  dsimp only [sNew] at hM hb9
  refine lv_dup hx hb d_F_init_8 rfl ?_
  have hab : a ≠ b := sk_ne ka hb9
  have kb1 : va_up kd b (some (.inl 5)) b = some (.inl 5) := va_up_self _ _ _
  refine s_callv (r_IN (host := "HangOrder") 0 [] rfl hx hb hml hown hg (m_U_init l D dA _ _ b kb1) (hM.pre hK hX) rfl (hX.1 _ (List.mem_of_getElem? (i := 3) rfl)) kw_40 kw_3 kw_41 (by decide +kernel) ⟨Nat.le_of_ble_eq_true rfl, Nat.le_of_ble_eq_true rfl⟩ rfl rfl hl.sz (by first | exact Nat.le_of_ble_eq_true rfl | simp [rf_cat] | simp [rf_cat, Value.category]) d_F_init_9 ⟨by show 0 + 1 + 1 ≤ 2; omega, by show 0 + 2 + 16 ≤ 18; omega⟩ rfl) hM (fun u H locs hp hM => ?_)
  obtain ⟨r, hr9, rfl⟩ := hp
  dsimp only at hr9 hM
  have hbr : b ≠ r := sk_ne kb1 hr9
  have har : a ≠ r := fun z => by rw [← z, va_up_ne _ _ hab, ka] at hr9; cases hr9
  have hrn : kd r = none := by rw [va_up_ne _ _ (fun z => hbr z.symm)] at hr9; exact hr9
  have ka3 : va_up (va_up kd b (some (.inl 5))) r (some (.inr (0, 16))) a = some (.inl 6) := by rw [va_up_ne _ _ har, va_up_ne _ _ hab]; exact ka
  refine s_putFr (C := R_F) (T := F_F) (N := 1) (ci := 6) hx hb hg in_F ft_F ft_F_ok fn_F hown hK hM ka3 rfl 0 (by decide) rfl (hg _ kw_61) (fun _ h9 => h9) rfl hin rfl (some b) (rf_narrow _ _) (rf_fits _ _) d_F_init_12 (fun H locs hM => ?_)
  refine W.widen (k := 2) (n := 18) (by omega) (by omega) ?_
  refine s_vret hx hb hr hM ⟨b, r, hbr, hb9, hrn, ⟨ka3, up2_self _ _ _ _, ?_, ?_, va_up_self _ _ _, ?_, by omega, by omega, by omega, fun i hi => absurd hi (Nat.not_lt_zero i)⟩, fun z hz => ?_, fun z h1 h2 => ?_⟩ d_F_init_15 hlocks
  · show va_up (va_up kd b (some (.inl 5))) r (some (.inr (0, 16))) b = some (.inl 5)
    rw [va_up_ne _ _ hbr, va_up_self]
  · show up2 (up2 (upr (upr rf b (fun _ => none)) r (fun _ => none)) b 0 (some r)) a 0 (some b) b 0 = some r
    rw [up2_off _ _ (fun z => hab z.symm), up2_self]
  · show upr (upr it b (fun _ => 0)) r (fun _ => 0) b 1 = nI 0
    rw [upr_off _ _ hbr, upr_self]; rfl
  · have hzb : z ≠ b := fun y => hz (by rw [y]; exact hb9)
    have hzr : z ≠ r := fun y => hz (by rw [y]; exact hrn)
    refine ⟨by show va_up (va_up kd b _) r _ z = kd z; rw [va_up_ne _ _ hzr, va_up_ne _ _ hzb], fun hn9 => ⟨?_, ?_, ?_⟩⟩
    · show up2 (up2 (upr (upr rf b _) r _) b 0 (some r)) a 0 (some b) z = rf z
      rw [up2_off _ _ hn9, up2_off _ _ hzb, upr_off _ _ hzr, upr_off _ _ hzb]
    · show upr (upr it b _) r _ z = it z
      rw [upr_off _ _ hzr, upr_off _ _ hzb]
    · show upr (upr lg b _) r _ z = lg z
      rw [upr_off _ _ hzr, upr_off _ _ hzb]
  · by_cases e1 : z = b
    · exact Or.inl e1
    · by_cases e2 : z = r
      · exact Or.inr e2
      · exact absurd (by show va_up (va_up kd b _) r _ z = none; rw [va_up_ne _ _ e2, va_up_ne _ _ e1]; exact h1) h2
