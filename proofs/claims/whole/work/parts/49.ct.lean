theorem num_step {S S2 u : sS} {h0 a r i : Nat} (hh : S.1 h0 = some (.inl 0)) (ha : S.1 a = none) (hr : (sNew S a (.inl 5)).1 r = none) (hu : u = (va_up (sNew S a (.inl 5)).1 r (some (.inr (0, 16))), up2 (upr (sNew S a (.inl 5)).2.1 r (fun _ => none)) a 0 (some r), upr (sNew S a (.inl 5)).2.2.1 r (fun _ => 0), upr (sNew S a (.inl 5)).2.2.2 r (fun _ => 0))) (h2 : S2 = (u.1, up2 u.2.1 h0 i (some a), u.2.2.1, u.2.2.2)) :
    sFr S S2 (fun b => b = h0) ∧ S2.1 h0 = some (.inl 0) ∧ (∀ j, S2.2.1 h0 j = if j = i then some a else S.2.1 h0 j) ∧ S2.2.2.1 h0 = S.2.2.1 h0 ∧ Nm S2 a r 16 0 (fun _ => 0) ∧ S.1 r = none := by
  have hha : h0 ≠ a := sk_ne hh ha
  have har : a ≠ r := by
    intro z
    rw [← z] at hr
    have : va_up S.1 a (some (.inl 5)) a = none := hr
    rw [va_up_self] at this; cases this
  have hrn : S.1 r = none := by
    have : va_up S.1 a (some (.inl 5)) r = none := hr
    rw [va_up_ne _ _ (fun z => har z.symm)] at this; exact this
  have hhr : h0 ≠ r := sk_ne hh hrn
  have k1 : ∀ b, b ≠ a → b ≠ r → S2.1 b = S.1 b := by
    intro b b1 b2
    rw [h2, hu]
    show va_up (va_up S.1 a (some (.inl 5))) r _ b = _
    rw [va_up_ne _ _ b2, va_up_ne _ _ b1]
  have k2 : ∀ b, b ≠ a → b ≠ r → S2.2.1 b = (fun j => if b = h0 ∧ j = i then some a else S.2.1 b j) := by
    intro b b1 b2
    funext j
    rw [h2, hu]
    show up2 (up2 (upr (upr S.2.1 a _) r _) a 0 (some r)) h0 i (some a) b j = _
    by_cases e : b = h0
    · rw [e]
      by_cases e2 : j = i
      · rw [e2, up2_self, if_pos ⟨rfl, rfl⟩]
      · rw [up2_ne _ _ e2, if_neg (fun z => e2 z.2), up2_off _ _ hha, upr_off _ _ hhr, upr_off _ _ hha]
    · rw [up2_off _ _ e, if_neg (fun z => e z.1), up2_off _ _ b1, upr_off _ _ b2, upr_off _ _ b1]
  have k3 : ∀ b, b ≠ a → b ≠ r → S2.2.2.1 b = S.2.2.1 b ∧ S2.2.2.2 b = S.2.2.2 b := by
    intro b b1 b2
    rw [h2, hu]
    refine ⟨?_, ?_⟩
    · show upr (upr S.2.2.1 a _) r _ b = _
      rw [upr_off _ _ b2, upr_off _ _ b1]
    · show upr (upr S.2.2.2 a _) r _ b = _
      rw [upr_off _ _ b2, upr_off _ _ b1]
  refine ⟨fun b hb => ?_, by rw [k1 h0 hha hhr]; exact hh, fun j => ?_, (k3 h0 hha hhr).1, ⟨?_, ?_, ?_, ?_, Nat.zero_le _, by decide, by decide, fun i hi => absurd hi (Nat.not_lt_zero i)⟩, hrn⟩
  · have b1 : b ≠ a := fun z => hb (by rw [z]; exact ha)
    have b2 : b ≠ r := fun z => hb (by rw [z]; exact hrn)
    refine ⟨k1 b b1 b2, fun hn => ⟨?_, (k3 b b1 b2).1, (k3 b b1 b2).2⟩⟩
    rw [k2 b b1 b2]
    funext j
    rw [if_neg (fun z => hn z.1)]
  · rw [k2 h0 hha hhr]
    dsimp only
    by_cases e : j = i
    · rw [if_pos ⟨rfl, e⟩, if_pos e]
    · rw [if_neg (fun z => e z.2), if_neg e]
  · rw [h2, hu]
    show va_up (va_up S.1 a (some (.inl 5))) r _ a = _
    rw [va_up_ne _ _ har, va_up_self]
  · rw [h2, hu]
    show up2 (up2 (upr (upr S.2.1 a _) r _) a 0 (some r)) h0 i (some a) a 0 = _
    rw [up2_off _ _ (fun z => hha z.symm), up2_self]
  · rw [h2, hu]
    show va_up (va_up S.1 a (some (.inl 5))) r _ r = _
    rw [va_up_self]
  · rw [h2, hu]
    show upr (upr S.2.2.1 a _) r _ a 1 = _
    rw [upr_off _ _ har, upr_self]; rfl
theorem tab_step {S S2 u : sS} {h0 a r i : Nat} (hh : S.1 h0 = some (.inl 0)) (ha : S.1 a = none) (hr : (sNew S a (.inl 1)).1 r = none) (hu : u = (va_up (sNew S a (.inl 1)).1 r (some (.inr (1, 128))), up2 (upr (sNew S a (.inl 1)).2.1 r (fun _ => none)) a 0 (some r), upr (sNew S a (.inl 1)).2.2.1 r (fun _ => 0), upr (sNew S a (.inl 1)).2.2.2 r (fun _ => 0))) (h2 : S2 = (u.1, up2 u.2.1 h0 i (some a), u.2.2.1, u.2.2.2)) :
    S2.1 h0 = some (.inl 0) ∧ S2.2.1 h0 i = some a ∧ S2.2.2.1 h0 = S.2.2.1 h0 ∧ S2.1 a = some (.inl 1) ∧ S2.2.1 a 0 = some r ∧ S2.1 r = some (.inr (1, 128)) ∧ ∀ j, S2.2.1 r j = none := by
  have hha : h0 ≠ a := sk_ne hh ha
  have har : a ≠ r := by
    intro z
    rw [← z] at hr
    have : va_up S.1 a (some (.inl 1)) a = none := hr
    rw [va_up_self] at this; cases this
  have hrn : S.1 r = none := by
    have : va_up S.1 a (some (.inl 1)) r = none := hr
    rw [va_up_ne _ _ (fun z => har z.symm)] at this; exact this
  have hhr : h0 ≠ r := sk_ne hh hrn
  rw [h2, hu]
  refine ⟨?_, ?_, ?_, ?_, ?_, ?_, fun j => ?_⟩
  · show va_up (va_up S.1 a _) r _ h0 = _
    rw [va_up_ne _ _ hhr, va_up_ne _ _ hha]; exact hh
  · show up2 _ h0 i (some a) h0 i = _
    rw [up2_self]
  · show upr (upr S.2.2.1 a _) r _ h0 = _
    rw [upr_off _ _ hhr, upr_off _ _ hha]
  · show va_up (va_up S.1 a _) r _ a = _
    rw [va_up_ne _ _ har, va_up_self]
  · show up2 (up2 (upr (upr S.2.1 a _) r _) a 0 (some r)) h0 i (some a) a 0 = _
    rw [up2_off _ _ (fun z => hha z.symm), up2_self]
  · show va_up (va_up S.1 a _) r _ r = _
    rw [va_up_self]
  · show up2 (up2 (upr (upr S.2.1 a _) r _) a 0 (some r)) h0 i (some a) r j = _
    rw [up2_off _ _ (fun z => hhr z.symm), up2_off _ _ (fun z => har z.symm), upr_self]
set_option maxHeartbeats 4000000 in
set_option maxRecDepth 100000 in
theorem m_H_init (l : Launch) (D : va_G) (dA : Nat → ClassId) (S : sS) (sz : Nat) (h0 : Nat) (hh : S.1 h0 = some (.inl 0)) (h5 : S.2.2.1 h0 5 = 0) (h6 : S.2.2.1 h0 6 = 0) :
    cV l y_H_init c_H_init 1 (rmk 3 11 202) D dA S sz [.ref h0] (fun u => Ho u h0 0 (fun _ _ => False) (fun _ => False) (fun _ => False) [] 0) (11) (202) := by
  refine s_met (cc := c_H_init) (maxL := 1) (by decide) rfl (by simp [Value.category]) (by simp [lg_sl, Value.category]) ?_
  intro p e s m args below meth c ls hx hb hr hts hown hlocks hin hml hK hX hsz hM hl
  have hg := gd_hts hts
  have hl : lc ls 1 [some (va_rf (some h0))] := hl
  refine q_al_n (i := 0) hx hb d_H_init_0 rfl hl rfl ?_
  refine W.objInit hx hb hown (hg _ kw_22) (hg _ kw_23) (hg _ kw_24) rfl (by rw [hml]; exact hl.sz) rfl d_H_init_1 (Nat.le_of_ble_eq_true rfl) (Nat.le_of_ble_eq_true rfl) ?_
  refine q_al_n (i := 0) hx hb d_H_init_4 rfl hl rfl ?_
  refine s_new (C := R_T) (T := F_T) (N := 1) (ci := 1) hx hb hg in_T ft_T ft_T_ok hown (hg _ kw_25) (hg _ kw_26) (hg _ kw_2) hK hM rfl df_T (by show _ ≤ 11; omega) (by show _ ≤ 202; omega) d_H_init_5 (fun tb H htb hM => ?_)
  have kT : (sNew S tb (.inl 1)).1 tb = some (.inl 1) := va_up_self _ _ _
  refine lv_dup hx hb d_H_init_8 rfl ?_
  refine s_callv (r_IN (host := "HangOrder") 0 [] rfl hx hb hml hown hg (m_T_init l D dA _ _ tb kT) (hM.pre hK hX) rfl (hX.1 _ (List.mem_of_getElem? (i := 0) rfl)) kw_28 kw_2 kw_29 (by decide +kernel) ⟨Nat.le_of_ble_eq_true rfl, Nat.le_of_ble_eq_true rfl⟩ rfl rfl hl.sz (by first | exact Nat.le_of_ble_eq_true rfl | simp [rf_cat] | simp [rf_cat, Value.category]) d_H_init_9 ⟨by show _ ≤ 11; omega, by show _ ≤ 202; omega⟩ rfl) hM (fun ut H locs hpt hM => ?_)
  obtain ⟨pa, hpa, eut⟩ := hpt
  have khut : ut.1 h0 = some (.inl 0) := (tab_step (i := 0) hh htb hpa eut rfl).1
  obtain ⟨kdt, rft, itt, lgt⟩ := ut
  dsimp only at khut
  refine s_putFr (C := R_H) (T := F_H) (N := 7) (ci := 0) hx hb hg in_H ft_H ft_H_ok fn_H hown hK hM khut rfl 0 (by decide) rfl (hg _ kw_65) (fun _ h9 => h9) rfl hin rfl (some tb) (rf_narrow _ _) (rf_fits _ _) d_H_init_12 (fun H locs hM => ?_)
  obtain ⟨S0, eS0⟩ : ∃ S9 : sS, S9 = (kdt, up2 rft h0 0 (some tb), itt, lgt) := ⟨_, rfl⟩
  rw [← eS0] at hM
  obtain ⟨kh0, tf0, it0, tk0, tr0, pk0, pr0⟩ := tab_step (S2 := S0) (i := 0) hh htb hpa eut eS0
  refine q_al_n (i := 0) hx hb d_H_init_15 rfl hl rfl ?_
  refine s_new (C := R_U) (T := F_U) (N := 2) (ci := 5) hx hb hg in_U ft_U ft_U_ok hown (hg _ kw_37) (hg _ kw_38) (hg _ kw_3) hK hM rfl df_U (by show _ ≤ 11; omega) (by show _ ≤ 202; omega) d_H_init_16 (fun a1 H ha1 hM => ?_)
  have kN1 : (sNew S0 a1 (.inl 5)).1 a1 = some (.inl 5) := va_up_self _ _ _
  refine lv_dup hx hb d_H_init_19 rfl ?_
  refine s_callv (r_IN (host := "HangOrder") 0 [] rfl hx hb hml hown hg (m_U_init l D dA _ _ a1 kN1) (hM.pre hK hX) rfl (hX.1 _ (List.mem_of_getElem? (i := 1) rfl)) kw_40 kw_3 kw_41 (by decide +kernel) ⟨Nat.le_of_ble_eq_true rfl, Nat.le_of_ble_eq_true rfl⟩ rfl rfl hl.sz (by first | exact Nat.le_of_ble_eq_true rfl | simp [rf_cat] | simp [rf_cat, Value.category]) d_H_init_20 ⟨by show _ ≤ 11; omega, by show _ ≤ 202; omega⟩ rfl) hM (fun u1 H locs hp1 hM => ?_)
  obtain ⟨r1, hr1, eu1⟩ := hp1
  have khu1 : u1.1 h0 = some (.inl 0) := (num_step (i := 1) kh0 ha1 hr1 eu1 rfl).2.1
  obtain ⟨kdu1, rfu1, itu1, lgu1⟩ := u1
  dsimp only at khu1
  refine s_putFr (C := R_H) (T := F_H) (N := 7) (ci := 0) hx hb hg in_H ft_H ft_H_ok fn_H hown hK hM khu1 rfl 1 (by decide) rfl (hg _ kw_66) (fun _ h9 => h9) rfl hin rfl (some a1) (rf_narrow _ _) (rf_fits _ _) d_H_init_23 (fun H locs hM => ?_)
  obtain ⟨S1, eS1⟩ : ∃ S9 : sS, S9 = (kdu1, up2 rfu1 h0 1 (some a1), itu1, lgu1) := ⟨_, rfl⟩
  rw [← eS1] at hM
  obtain ⟨F1, kh1, hf1, it1, N1, rn1⟩ := num_step (S2 := S1) (i := 1) kh0 ha1 hr1 eu1 eS1
  refine q_al_n (i := 0) hx hb d_H_init_26 rfl hl rfl ?_
  refine s_new (C := R_U) (T := F_U) (N := 2) (ci := 5) hx hb hg in_U ft_U ft_U_ok hown (hg _ kw_37) (hg _ kw_38) (hg _ kw_3) hK hM rfl df_U (by show _ ≤ 11; omega) (by show _ ≤ 202; omega) d_H_init_27 (fun a2 H ha2 hM => ?_)
  have kN2 : (sNew S1 a2 (.inl 5)).1 a2 = some (.inl 5) := va_up_self _ _ _
  refine lv_dup hx hb d_H_init_30 rfl ?_
  refine s_callv (r_IN (host := "HangOrder") 0 [] rfl hx hb hml hown hg (m_U_init l D dA _ _ a2 kN2) (hM.pre hK hX) rfl (hX.1 _ (List.mem_of_getElem? (i := 1) rfl)) kw_40 kw_3 kw_41 (by decide +kernel) ⟨Nat.le_of_ble_eq_true rfl, Nat.le_of_ble_eq_true rfl⟩ rfl rfl hl.sz (by first | exact Nat.le_of_ble_eq_true rfl | simp [rf_cat] | simp [rf_cat, Value.category]) d_H_init_31 ⟨by show _ ≤ 11; omega, by show _ ≤ 202; omega⟩ rfl) hM (fun u2 H locs hp2 hM => ?_)
  obtain ⟨r2, hr2, eu2⟩ := hp2
  have khu2 : u2.1 h0 = some (.inl 0) := (num_step (i := 2) kh1 ha2 hr2 eu2 rfl).2.1
  obtain ⟨kdu2, rfu2, itu2, lgu2⟩ := u2
  dsimp only at khu2
  refine s_putFr (C := R_H) (T := F_H) (N := 7) (ci := 0) hx hb hg in_H ft_H ft_H_ok fn_H hown hK hM khu2 rfl 2 (by decide) rfl (hg _ kw_67) (fun _ h9 => h9) rfl hin rfl (some a2) (rf_narrow _ _) (rf_fits _ _) d_H_init_34 (fun H locs hM => ?_)
  obtain ⟨S2, eS2⟩ : ∃ S9 : sS, S9 = (kdu2, up2 rfu2 h0 2 (some a2), itu2, lgu2) := ⟨_, rfl⟩
  rw [← eS2] at hM
  obtain ⟨F2, kh2, hf2, it2, N2, rn2⟩ := num_step (S2 := S2) (i := 2) kh1 ha2 hr2 eu2 eS2
  refine q_al_n (i := 0) hx hb d_H_init_37 rfl hl rfl ?_
  refine s_new (C := R_U) (T := F_U) (N := 2) (ci := 5) hx hb hg in_U ft_U ft_U_ok hown (hg _ kw_37) (hg _ kw_38) (hg _ kw_3) hK hM rfl df_U (by show _ ≤ 11; omega) (by show _ ≤ 202; omega) d_H_init_38 (fun a3 H ha3 hM => ?_)
  have kN3 : (sNew S2 a3 (.inl 5)).1 a3 = some (.inl 5) := va_up_self _ _ _
  refine lv_dup hx hb d_H_init_41 rfl ?_
  refine s_callv (r_IN (host := "HangOrder") 0 [] rfl hx hb hml hown hg (m_U_init l D dA _ _ a3 kN3) (hM.pre hK hX) rfl (hX.1 _ (List.mem_of_getElem? (i := 1) rfl)) kw_40 kw_3 kw_41 (by decide +kernel) ⟨Nat.le_of_ble_eq_true rfl, Nat.le_of_ble_eq_true rfl⟩ rfl rfl hl.sz (by first | exact Nat.le_of_ble_eq_true rfl | simp [rf_cat] | simp [rf_cat, Value.category]) d_H_init_42 ⟨by show _ ≤ 11; omega, by show _ ≤ 202; omega⟩ rfl) hM (fun u3 H locs hp3 hM => ?_)
  obtain ⟨r3, hr3, eu3⟩ := hp3
  have khu3 : u3.1 h0 = some (.inl 0) := (num_step (i := 3) kh2 ha3 hr3 eu3 rfl).2.1
  obtain ⟨kdu3, rfu3, itu3, lgu3⟩ := u3
  dsimp only at khu3
  refine s_putFr (C := R_H) (T := F_H) (N := 7) (ci := 0) hx hb hg in_H ft_H ft_H_ok fn_H hown hK hM khu3 rfl 3 (by decide) rfl (hg _ kw_68) (fun _ h9 => h9) rfl hin rfl (some a3) (rf_narrow _ _) (rf_fits _ _) d_H_init_45 (fun H locs hM => ?_)
  obtain ⟨S3, eS3⟩ : ∃ S9 : sS, S9 = (kdu3, up2 rfu3 h0 3 (some a3), itu3, lgu3) := ⟨_, rfl⟩
  rw [← eS3] at hM
  obtain ⟨F3, kh3, hf3, it3, N3, rn3⟩ := num_step (S2 := S3) (i := 3) kh2 ha3 hr3 eu3 eS3
  refine q_al_n (i := 0) hx hb d_H_init_48 rfl hl rfl ?_
  refine s_new (C := R_F) (T := F_F) (N := 1) (ci := 6) hx hb hg in_F ft_F ft_F_ok hown (hg _ kw_53) (hg _ kw_54) (hg _ kw_4) hK hM rfl df_F (by show _ ≤ 11; omega) (by show _ ≤ 202; omega) d_H_init_49 (fun q H hq hM => ?_)
  have kF : (sNew S3 q (.inl 6)).1 q = some (.inl 6) := va_up_self _ _ _
  refine lv_dup hx hb d_H_init_52 rfl ?_
  refine s_callv (r_IN (host := "HangOrder") 0 [] rfl hx hb hml hown hg (m_F_init l D dA _ _ q kF) (hM.pre hK hX) rfl (hX.1 _ (List.mem_of_getElem? (i := 2) rfl)) kw_56 kw_4 kw_57 (by decide +kernel) ⟨Nat.le_of_ble_eq_true rfl, Nat.le_of_ble_eq_true rfl⟩ rfl rfl hl.sz (by first | exact Nat.le_of_ble_eq_true rfl | simp [rf_cat] | simp [rf_cat, Value.category]) d_H_init_53 ⟨by show _ ≤ 11; omega, by show _ ≤ 202; omega⟩ rfl) hM (fun u4 H locs hp4 hM => ?_)
  obtain ⟨a4, r4, hne4, ha4, hr4, hLf, hF4, -⟩ := hp4
  have hqh : h0 ≠ q := sk_ne kh3 hq
  have khn : (sNew S3 q (.inl 6)).1 h0 = some (.inl 0) := by show va_up S3.1 q _ h0 = _; rw [va_up_ne _ _ hqh]; exact kh3
  have khu4 : u4.1 h0 = some (.inl 0) := hF4.kd khn
  have keep4 : ∀ b, S3.1 b ≠ none → u4.1 b = S3.1 b ∧ u4.2.1 b = S3.2.1 b ∧ u4.2.2.1 b = S3.2.2.1 b ∧ u4.2.2.2 b = S3.2.2.2 b := by
    intro b hb9
    have hbq : b ≠ q := fun z => hb9 (by rw [z]; exact hq)
    have e1 : (sNew S3 q (.inl 6)).1 b = S3.1 b := va_up_ne _ _ hbq
    obtain ⟨x1, x2⟩ := hF4 b (by rw [e1]; exact hb9)
    obtain ⟨y1, y2, y3⟩ := x2 hbq
    exact ⟨x1.trans e1, y1.trans (upr_off _ _ hbq), y2.trans (upr_off _ _ hbq), y3.trans (upr_off _ _ hbq)⟩
  obtain ⟨kd4, rf4, it4, lg4⟩ := u4
  dsimp only at khu4 keep4
  refine s_putFr (C := R_H) (T := F_H) (N := 7) (ci := 0) hx hb hg in_H ft_H ft_H_ok fn_H hown hK hM khu4 rfl 4 (by decide) rfl (hg _ kw_69) (fun _ h9 => h9) rfl hin rfl (some q) (rf_narrow _ _) (rf_fits _ _) d_H_init_56 (fun H locs hM => ?_)
  have F5 : sFr S3 (kd4, up2 rf4 h0 4 (some q), it4, lg4) (fun b => b = h0) := by
    intro b hb9
    obtain ⟨x1, x2, x3, x4⟩ := keep4 b hb9
    exact ⟨x1, fun hn => ⟨by show up2 rf4 h0 4 (some q) b = _; rw [up2_off _ _ hn]; exact x2, x3, x4⟩⟩
  obtain ⟨y1, y2, y3, y4⟩ := keep4 h0 (sk_nn kh3)
  have rh : ∀ j, up2 rf4 h0 4 (some q) h0 j = if j = 4 then some q else S3.2.1 h0 j := by
    intro j
    by_cases e : j = 4
    · rw [e, up2_self, if_pos rfl]
    · rw [up2_ne _ _ e, if_neg e, y2]
  have ih : ∀ j, it4 h0 j = S.2.2.1 h0 j := fun j => by rw [y3, it3, it2, it1, it0]
  have nh : ∀ {T : sS} {b c : Nat}, T.1 h0 = some (.inl 0) → T.1 b = some (.inl c) → c ≠ 0 → b ≠ h0 := fun h1 h2 h3 z => by rw [z, h1] at h2; exact h3 (Sum.inl.inj (Option.some.inj h2)).symm
  have nr9 : ∀ {T : sS} {b t n : Nat}, T.1 h0 = some (.inl 0) → T.1 b = some (.inr (t, n)) → b ≠ h0 := fun h1 h2 z => by rw [z, h1] at h2; cases h2
  have N1' := Nm_keep (Nm_keep (Nm_keep N1 F2 (nh kh1 N1.1 (by decide)) (nr9 kh1 N1.2.2.1)) F3 (nh kh2 (F2.kd N1.1) (by decide)) (nr9 kh2 (F2.kd N1.2.2.1))) F5 (nh kh3 (F3.kd (F2.kd N1.1)) (by decide)) (nr9 kh3 (F3.kd (F2.kd N1.2.2.1)))
  have N2' := Nm_keep (Nm_keep N2 F3 (nh kh2 N2.1 (by decide)) (nr9 kh2 N2.2.2.1)) F5 (nh kh3 (F3.kd N2.1) (by decide)) (nr9 kh3 (F3.kd N2.2.2.1))
  have N3' := Nm_keep N3 F5 (nh kh3 N3.1 (by decide)) (nr9 kh3 N3.2.2.1)
  have hb4 : a4 ≠ h0 := fun z => by rw [z, khn] at ha4; cases ha4
  have hr4h : r4 ≠ h0 := fun z => by rw [z, khn] at hr4; cases hr4
  obtain ⟨l1, l2, n1, n2, n3, n4, n5, n6, n7, n8⟩ := hLf
  dsimp only at l1 l2 n1 n2 n3 n4
  have N4' : Nm (kd4, up2 rf4 h0 4 (some q), it4, lg4) a4 r4 16 0 (fun _ => 0) := ⟨n1, by show up2 rf4 h0 4 (some q) a4 0 = _; rw [up2_off _ _ hb4]; exact n2, n3, n4, n5, n6, n7, n8⟩
  have F05 : ∀ {b c : Nat}, S0.1 b = some (.inl c) → c ≠ 0 → kd4 b = some (.inl c) ∧ up2 rf4 h0 4 (some q) b = S0.2.1 b := by
    intro b c hb9 hc
    have m1 := F1.kd hb9
    have m2 := F2.kd m1
    have m3 := F3.kd m2
    have m4 := F5.kd m3
    refine ⟨m4, ?_⟩
    have e1 := ((F1 b (sk_nn hb9)).2 (nh kh0 hb9 hc)).1
    have e2 := ((F2 b (sk_nn m1)).2 (nh kh1 m1 hc)).1
    have e3 := ((F3 b (sk_nn m2)).2 (nh kh2 m2 hc)).1
    have e4 := ((F5 b (sk_nn m3)).2 (nh kh3 m3 hc)).1
    exact e4.trans (e3.trans (e2.trans e1))
  have F0r : ∀ {b t n : Nat}, S0.1 b = some (.inr (t, n)) → kd4 b = some (.inr (t, n)) ∧ up2 rf4 h0 4 (some q) b = S0.2.1 b := by
    intro b t n hb9
    have m1 := F1.kd hb9
    have m2 := F2.kd m1
    have m3 := F3.kd m2
    have m4 := F5.kd m3
    refine ⟨m4, ?_⟩
    have e1 := ((F1 b (sk_nn hb9)).2 (nr9 kh0 hb9)).1
    have e2 := ((F2 b (sk_nn m1)).2 (nr9 kh1 m1)).1
    have e3 := ((F3 b (sk_nn m2)).2 (nr9 kh2 m2)).1
    have e4 := ((F5 b (sk_nn m3)).2 (nr9 kh3 m3)).1
    exact e4.trans (e3.trans (e2.trans e1))
  have q4 : ∀ {b : Nat} {k : sK}, S3.1 b = some k → b ≠ a4 ∧ b ≠ r4 := by
    intro b k hb9
    have hbq : b ≠ q := fun z => by rw [z, hq] at hb9; cases hb9
    have e1 : (sNew S3 q (.inl 6)).1 b = some k := by show va_up S3.1 q _ b = _; rw [va_up_ne _ _ hbq]; exact hb9
    exact ⟨fun z => (by rw [← z, e1] at ha4; cases ha4), fun z => (by rw [← z, e1] at hr4; cases hr4)⟩
  have d12 : a1 ≠ a2 := sk_ne N1.1 ha2
  have d13 : a1 ≠ a3 := sk_ne (F2.kd N1.1) ha3
  have d23 : a2 ≠ a3 := sk_ne N2.1 ha3
  have d14 := (q4 (F3.kd (F2.kd N1.1))).1
  have d24 := (q4 (F3.kd N2.1)).1
  have d34 := (q4 N3.1).1
  have s12 : r1 ≠ r2 := sk_ne N1.2.2.1 rn2
  have s13 : r1 ≠ r3 := sk_ne (F2.kd N1.2.2.1) rn3
  have s23 : r2 ≠ r3 := sk_ne N2.2.2.1 rn3
  have s14 := (q4 (F3.kd (F2.kd N1.2.2.1))).2
  have s24 := (q4 (F3.kd N2.2.2.1)).2
  have s34 := (q4 N3.2.2.1).2
  refine W.widen (k := 11) (n := 202) (by omega) (by omega) ?_
  refine s_vret hx hb hr hM ?_ d_H_init_59 hlocks
  refine ⟨tb, pa, q, (fun i => match i with | 0 => a1 | 1 => a2 | 2 => a3 | _ => a4), (fun _ => none), (fun _ => []), (fun _ => []), (fun i => match i with | 0 => r1 | 1 => r2 | 2 => r3 | _ => r4), (fun _ => 16), (fun _ => 0), (fun _ _ => 0), ⟨⟨khu4, ?_, ?_, ?_, ?_, ?_⟩, ⟨l1, ?_⟩, ⟨⟨(F05 tk0 (by decide)).1, ?_, (F0r pk0).1, fun i hi => Or.inl ⟨?_, fun _ _ => rfl⟩, fun i i' pg pg' row h1 h2 h3 => ?_, fun n a hn => (by cases hn)⟩, fun v a hv => (by cases hv), fun v => ⟨List.nodup_nil, List.nodup_nil, List.nodup_nil, fun _ => ⟨rfl, rfl⟩⟩, fun v k u hk => absurd hk List.not_mem_nil, fun v k u hk => absurd hk List.not_mem_nil⟩, fun i hi => ?_, fun i j hi hj e => ?_, fun i j hi hj e => ?_⟩, fun v u => ⟨fun z => z.elim, fun ⟨k, hk⟩ => absurd hk List.not_mem_nil⟩, fun i _ => Or.inl rfl, ⟨[], Nat.zero_le _, fun v hv => absurd rfl hv⟩, fun v => ⟨Nat.zero_le _, Nat.zero_le _⟩, fun i j hi => absurd hi (Nat.not_lt_zero i), fun i hi => absurd hi (Nat.not_lt_zero i), fun v => ⟨fun z => z.elim, fun ⟨i, hi, _⟩ => absurd hi (Nat.not_lt_zero i)⟩, fun v => ⟨fun z => z.elim, fun _ => rfl⟩, fun v => rfl, rfl, rfl, fun i hi => absurd hi (Nat.not_lt_zero i), fun v => ⟨fun z => z.elim, fun _ => rfl⟩, ⟨fun _ _ => False, fun v => ⟨fun z => z.elim, fun z => z (gN_mk fun u hu => hu.elim)⟩, fun v _ u => Iff.rfl⟩, ?_, ⟨0, ?_, by decide, by decide⟩⟩
  · show up2 rf4 h0 4 (some q) h0 0 = _
    rw [rh, if_neg (by decide), hf3, if_neg (by decide), hf2, if_neg (by decide), hf1, if_neg (by decide)]; exact tf0
  · show up2 rf4 h0 4 (some q) h0 1 = some a1
    rw [rh, if_neg (by decide), hf3, if_neg (by decide), hf2, if_neg (by decide), hf1, if_pos rfl]
  · show up2 rf4 h0 4 (some q) h0 2 = some a2
    rw [rh, if_neg (by decide), hf3, if_neg (by decide), hf2, if_pos rfl]
  · show up2 rf4 h0 4 (some q) h0 3 = some a3
    rw [rh, if_neg (by decide), hf3, if_pos rfl]
  · show up2 rf4 h0 4 (some q) h0 4 = _
    rw [rh, if_pos rfl]
  · show up2 rf4 h0 4 (some q) q 0 = _
    rw [up2_off _ _ (fun z => hqh z.symm)]; exact l2
  · show up2 rf4 h0 4 (some q) tb 0 = _
    rw [(F05 tk0 (by decide)).2]; exact tr0
  · show up2 rf4 h0 4 (some q) pa i = _
    rw [(F0r pk0).2]; exact pr0 i
  · have z : up2 rf4 h0 4 (some q) pa i = some pg := h3
    rw [(F0r pk0).2, pr0] at z; cases z
  · match i, hi with
    | 0, _ => exact N1'
    | 1, _ => exact N2'
    | 2, _ => exact N3'
    | 3, _ => exact N4'
  · match i, j, hi, hj, e with
    | 0, 0, _, _, _ => rfl
    | 0, 1, _, _, e => exact absurd e d12
    | 0, 2, _, _, e => exact absurd e d13
    | 0, 3, _, _, e => exact absurd e d14
    | 1, 0, _, _, e => exact absurd e.symm d12
    | 1, 1, _, _, _ => rfl
    | 1, 2, _, _, e => exact absurd e d23
    | 1, 3, _, _, e => exact absurd e d24
    | 2, 0, _, _, e => exact absurd e.symm d13
    | 2, 1, _, _, e => exact absurd e.symm d23
    | 2, 2, _, _, _ => rfl
    | 2, 3, _, _, e => exact absurd e d34
    | 3, 0, _, _, e => exact absurd e.symm d14
    | 3, 1, _, _, e => exact absurd e.symm d24
    | 3, 2, _, _, e => exact absurd e.symm d34
    | 3, 3, _, _, _ => rfl
  · match i, j, hi, hj, e with
    | 0, 0, _, _, _ => rfl
    | 0, 1, _, _, e => exact absurd e s12
    | 0, 2, _, _, e => exact absurd e s13
    | 0, 3, _, _, e => exact absurd e s14
    | 1, 0, _, _, e => exact absurd e.symm s12
    | 1, 1, _, _, _ => rfl
    | 1, 2, _, _, e => exact absurd e s23
    | 1, 3, _, _, e => exact absurd e s24
    | 2, 0, _, _, e => exact absurd e.symm s13
    | 2, 1, _, _, e => exact absurd e.symm s23
    | 2, 2, _, _, _ => rfl
    | 2, 3, _, _, e => exact absurd e s34
    | 3, 0, _, _, e => exact absurd e.symm s14
    | 3, 1, _, _, e => exact absurd e.symm s24
    | 3, 2, _, _, e => exact absurd e.symm s34
    | 3, 3, _, _, _ => rfl
  · show it4 h0 6 = nI 0
    rw [ih, h6]; rfl
  · show it4 h0 5 = Int32.ofInt 0
    rw [ih, h5]; rfl
