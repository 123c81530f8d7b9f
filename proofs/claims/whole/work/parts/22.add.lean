set_option maxHeartbeats 4000000 in
set_option maxRecDepth 100000 in
theorem m_U_add0 (l : Launch) (D : va_G) (dA : Nat → ClassId) (S : sS) (sz : Nat) (a r cap n : Nat) (f : Nat → Nat) (x : Nat) (h : Nm S a r cap n f) (hlt : n < 16384) (hc : n < cap) :
    cV l y_U_add c_U_add 2 (rmk 2 0 0) D dA S sz [.ref a, .int (nI x)] (fun u => u = (S.1, S.2.1, up2 (up2 S.2.2.1 r n (nI x)) a 1 (nI (n + 1)), S.2.2.2)) (0) (0) := by
  obtain ⟨kd, rf, it, lg⟩ := S
  obtain ⟨ka, hrow, kr, hn, hle, h16, hcap, hf⟩ := h
  dsimp only at ka hrow kr hn hf
  have har : a ≠ r := fun z => by rw [z, kr] at ka; cases ka
  have e1 : up2 it r n (nI x) a 1 = nI n := by rw [up2_off _ _ har]; exact hn
  refine s_met (cc := c_U_add) (maxL := 2) (by decide) rfl (by simp [Value.category]) (by simp [lg_sl, Value.category]) ?_
  intro p e s m args below meth c ls hx hb hr hts hown hlocks hin hml hK hX hsz hM hl
  have hg := gd_hts hts
  have hl : lc ls 2 [some (va_rf (some a)), some (.int (nI x))] := hl
  refine q_al_n (i := 0) hx hb d_U_add_0 rfl hl rfl ?_
  refine s_geti (C := R_U) (T := F_U) (N := 2) (ci := 5) hx hb hg in_U hown hK hM (by assumption) rfl 1 (by decide) rfl (hg _ kw_44) (fun _ h9 => h9) d_U_add_1 ?_
  rw [hn]
  refine lv_sipush (v := nI 16384) hx hb d_U_add_4 (by decide) ?_
  refine n_lt (tgt := 11) hx hb d_U_add_7 (by decide) (by omega) (by omega) (fun c1 => ?_) (fun c1 => ?_)
  · refine q_al_n (i := 0) hx hb d_U_add_11 rfl hl rfl ?_
    refine s_geti (C := R_U) (T := F_U) (N := 2) (ci := 5) hx hb hg in_U hown hK hM (by assumption) rfl 1 (by decide) rfl (hg _ kw_44) (fun _ h9 => h9) d_U_add_12 ?_
    rw [hn]
    refine q_al_n (i := 0) hx hb d_U_add_15 rfl hl rfl ?_
    refine s_getr (C := R_U) (T := F_U) (N := 2) (ci := 5) hx hb hg in_U hown hK hM (by assumption) rfl 0 (by decide) rfl (hg _ kw_43) (fun _ h9 => h9) d_U_add_16 ?_
    rw [hrow]
    refine s_len (ty := .int) hx hb hK hM kr rfl d_U_add_19 ?_
    refine n_lt (tgt := 40) hx hb d_U_add_20 (by decide) (by omega) (by omega) (fun c2 => ?_) (fun c2 => ?_)
    · refine q_al_n (i := 0) hx hb d_U_add_40 rfl hl rfl ?_
      refine s_getr (C := R_U) (T := F_U) (N := 2) (ci := 5) hx hb hg in_U hown hK hM (by assumption) rfl 0 (by decide) rfl (hg _ kw_43) (fun _ h9 => h9) d_U_add_41 ?_
      rw [hrow]
      refine q_al_n (i := 0) hx hb d_U_add_44 rfl hl rfl ?_
      refine s_geti (C := R_U) (T := F_U) (N := 2) (ci := 5) hx hb hg in_U hown hK hM (by assumption) rfl 1 (by decide) rfl (hg _ kw_44) (fun _ h9 => h9) d_U_add_45 ?_
      rw [hn]
      refine q_iload_n (i := 1) hx hb d_U_add_48 rfl hl rfl ?_
      refine s_ist (t := 0) hx hb hK hM kr rfl rfl (vp_in_nI hc (by omega)) d_U_add_49 (fun H locs hM => ?_)
      rw [nI_clamp (by omega)] at hM
      refine q_al_n (i := 0) hx hb d_U_add_50 rfl hl rfl ?_
      refine lv_dup hx hb d_U_add_51 rfl ?_
      refine s_geti (C := R_U) (T := F_U) (N := 2) (ci := 5) hx hb hg in_U hown hK hM (by assumption) rfl 1 (by decide) rfl (hg _ kw_44) (fun _ h9 => h9) d_U_add_52 ?_
      rw [e1]
      refine lv_iconst (v := 1) hx hb d_U_add_55 (by decide) ?_
      refine lv_iadd hx hb d_U_add_56 ?_
      rw [nI_1]
      refine s_puti (C := R_U) (T := F_U) (N := 2) (ci := 5) hx hb hg in_U ft_U ft_U_ok fn_U hown hK hM (by assumption) rfl 1 (by decide) rfl (hg _ kw_44) (fun _ h9 => h9) rfl rfl rfl d_U_add_57 (fun H locs hM => ?_)
      exact s_vret hx hb hr hM rfl d_U_add_60 hlocks
    · omega
  · omega
set_option maxHeartbeats 4000000 in
set_option maxRecDepth 100000 in
theorem m_U_add1 (l : Launch) (D : va_G) (dA : Nat → ClassId) (S : sS) (sz : Nat) (a r cap n : Nat) (f : Nat → Nat) (x : Nat) (h : Nm S a r cap n f) (hlt : n < 16384) (hc : n = cap) :
    cV l y_U_add c_U_add 2 (rmk 2 1 (2 * n)) D dA S sz [.ref a, .int (nI x)] (fun u => ∃ q, S.1 q = none ∧ u = (va_up S.1 q (some (.inr (0, 2 * n))), up2 (upr S.2.1 q (fun _ => none)) a 0 (some q), up2 (up2 (upr S.2.2.1 q (va_cpy (S.2.2.1 r) (fun _ => 0) 0 0 cap)) q n (nI x)) a 1 (nI (n + 1)), upr S.2.2.2 q (fun _ => 0))) (1) (2 * n) := by
  obtain ⟨kd, rf, it, lg⟩ := S
  obtain ⟨ka, hrow, kr, hn, hle, h16, hcap, hf⟩ := h
  dsimp only at ka hrow kr hn hf
  refine s_met (cc := c_U_add) (maxL := 2) (by decide) rfl (by simp [Value.category]) (by simp [lg_sl, Value.category]) ?_
  intro p e s m args below meth c ls hx hb hr hts hown hlocks hin hml hK hX hsz hM hl
  have hg := gd_hts hts
  have hl : lc ls 2 [some (va_rf (some a)), some (.int (nI x))] := hl
  refine q_al_n (i := 0) hx hb d_U_add_0 rfl hl rfl ?_
  refine s_geti (C := R_U) (T := F_U) (N := 2) (ci := 5) hx hb hg in_U hown hK hM (by assumption) rfl 1 (by decide) rfl (hg _ kw_44) (fun _ h9 => h9) d_U_add_1 ?_
  rw [hn]
  refine lv_sipush (v := nI 16384) hx hb d_U_add_4 (by decide) ?_
  refine n_lt (tgt := 11) hx hb d_U_add_7 (by decide) (by omega) (by omega) (fun c1 => ?_) (fun c1 => ?_)
  · refine q_al_n (i := 0) hx hb d_U_add_11 rfl hl rfl ?_
    refine s_geti (C := R_U) (T := F_U) (N := 2) (ci := 5) hx hb hg in_U hown hK hM (by assumption) rfl 1 (by decide) rfl (hg _ kw_44) (fun _ h9 => h9) d_U_add_12 ?_
    rw [hn]
    refine q_al_n (i := 0) hx hb d_U_add_15 rfl hl rfl ?_
    refine s_getr (C := R_U) (T := F_U) (N := 2) (ci := 5) hx hb hg in_U hown hK hM (by assumption) rfl 0 (by decide) rfl (hg _ kw_43) (fun _ h9 => h9) d_U_add_16 ?_
    rw [hrow]
    refine s_len (ty := .int) hx hb hK hM kr rfl d_U_add_19 ?_
    refine n_lt (tgt := 40) hx hb d_U_add_20 (by decide) (by omega) (by omega) (fun c2 => ?_) (fun c2 => ?_)
    · omega
    · refine q_al_n (i := 0) hx hb d_U_add_23 rfl hl rfl ?_
      refine q_al_n (i := 0) hx hb d_U_add_24 rfl hl rfl ?_
      refine s_getr (C := R_U) (T := F_U) (N := 2) (ci := 5) hx hb hg in_U hown hK hM (by assumption) rfl 0 (by decide) rfl (hg _ kw_43) (fun _ h9 => h9) d_U_add_25 ?_
      rw [hrow]
      refine lv_iconst (v := nI 2) hx hb d_U_add_28 (by decide) ?_
      refine q_al_n (i := 0) hx hb d_U_add_29 rfl hl rfl ?_
      refine s_geti (C := R_U) (T := F_U) (N := 2) (ci := 5) hx hb hg in_U hown hK hM (by assumption) rfl 1 (by decide) rfl (hg _ kw_44) (fun _ h9 => h9) d_U_add_30 ?_
      rw [hn]
      refine lv_imul hx hb d_U_add_33 ?_
      rw [pk_mul]
      refine s_callq (r_S 2 [.ref r, .int (nI (2 * n))] rfl hx hb hml hown hg (m_A_copyOf l D dA _ _ r cap (2 * n) kr (by omega) (by omega)) (hM.pre hK hX) kw_173 kw_174 kw_14 kw_175 (by decide +kernel) ⟨Nat.le_of_ble_eq_true rfl, Nat.le_of_ble_eq_true rfl⟩ rfl rfl hl.sz (by first | exact Nat.le_of_ble_eq_true rfl | simp [rf_cat] | simp [rf_cat, Value.category]) d_U_add_34 ⟨by show 0 + 1 ≤ 1; omega, by show 0 + 2 * n ≤ 2 * n; omega⟩ rfl) hM (fun r1 u H locs hp hM => ?_)
      obtain ⟨q, rfl, hq, rfl⟩ := hp
      dsimp only at hq hM
      have haq : a ≠ q := sk_ne ka hq
      have ka2 : va_up kd q (some (.inr (0, 2 * n))) a = some (.inl 5) := by rw [va_up_ne _ _ haq]; exact ka
      have kq2 : va_up kd q (some (.inr (0, 2 * n))) q = some (.inr (0, 2 * n)) := va_up_self _ _ _
      have e2 : upr it q (va_cpy (it r) (fun _ => 0) 0 0 cap) a 1 = nI n := by rw [upr_off _ _ haq]; exact hn
      have e3 : up2 (upr it q (va_cpy (it r) (fun _ => 0) 0 0 cap)) q n (nI x) a 1 = nI n := by rw [up2_off _ _ haq]; exact e2
      refine s_putr (C := R_U) (T := F_U) (N := 2) (ci := 5) hx hb hg in_U ft_U ft_U_ok fn_U hown hK hM ka2 rfl 0 (by decide) rfl (hg _ kw_43) (fun _ h9 => h9) rfl (some q) (rf_narrowA _ _) (rf_fitsA _ _) d_U_add_37 (fun H locs hM => ?_)
      refine q_al_n (i := 0) hx hb d_U_add_40 rfl hl rfl ?_
      refine s_getr (C := R_U) (T := F_U) (N := 2) (ci := 5) hx hb hg in_U hown hK hM ka2 rfl 0 (by decide) rfl (hg _ kw_43) (fun _ h9 => h9) d_U_add_41 ?_
      rw [up2_self]
      refine q_al_n (i := 0) hx hb d_U_add_44 rfl hl rfl ?_
      refine s_geti (C := R_U) (T := F_U) (N := 2) (ci := 5) hx hb hg in_U hown hK hM ka2 rfl 1 (by decide) rfl (hg _ kw_44) (fun _ h9 => h9) d_U_add_45 ?_
      rw [e2]
      refine q_iload_n (i := 1) hx hb d_U_add_48 rfl hl rfl ?_
      refine s_ist (t := 0) hx hb hK hM kq2 rfl rfl (vp_in_nI (by omega) (by omega)) d_U_add_49 (fun H locs hM => ?_)
      rw [nI_clamp (by omega)] at hM
      refine q_al_n (i := 0) hx hb d_U_add_50 rfl hl rfl ?_
      refine lv_dup hx hb d_U_add_51 rfl ?_
      refine s_geti (C := R_U) (T := F_U) (N := 2) (ci := 5) hx hb hg in_U hown hK hM ka2 rfl 1 (by decide) rfl (hg _ kw_44) (fun _ h9 => h9) d_U_add_52 ?_
      rw [e3]
      refine lv_iconst (v := 1) hx hb d_U_add_55 (by decide) ?_
      refine lv_iadd hx hb d_U_add_56 ?_
      rw [nI_1]
      refine s_puti (C := R_U) (T := F_U) (N := 2) (ci := 5) hx hb hg in_U ft_U ft_U_ok fn_U hown hK hM ka2 rfl 1 (by decide) rfl (hg _ kw_44) (fun _ h9 => h9) rfl rfl rfl d_U_add_57 (fun H locs hM => ?_)
      refine W.widen (k := 1) (n := 2 * n) (by omega) (by omega) ?_
      exact s_vret hx hb hr hM ⟨q, hq, rfl⟩ d_U_add_60 hlocks
  · omega
/-- what add does: x behind the others; the row may be a new one -/
def AddP (S : sS) (a r cap n : Nat) (f : Nat → Nat) (x : Nat) (u : sS) : Prop :=
  ∃ r' cap', Nm u a r' cap' (n + 1) (fun i => if i = n then x else f i) ∧ sFr S u (fun b => b = a ∨ b = r) ∧ (r' = r ∨ S.1 r' = none) ∧ cap' = (if n < cap then cap else 2 * n) ∧ (∀ b, S.1 b = none → u.1 b ≠ none → b = r') ∧ (∀ i, i ≠ 0 → u.2.1 a i = S.2.1 a i) ∧ ∀ i, i ≠ 1 → u.2.2.1 a i = S.2.2.1 a i
theorem m_U_add (l : Launch) (D : va_G) (dA : Nat → ClassId) (S : sS) (sz : Nat) (a r cap n : Nat) (f : Nat → Nat) (x : Nat) (h : Nm S a r cap n f) (hlt : n < 16384) :
    cV l y_U_add c_U_add 2 (rmk 2 (if n < cap then 0 else 1) (if n < cap then 0 else 2 * n)) D dA S sz [.ref a, .int (nI x)] (AddP S a r cap n f x) (if n < cap then 0 else 1) (if n < cap then 0 else 2 * n) := by
  have hh := h
  obtain ⟨ka, hrow, kr, hn, hle, h16, hcap, hf⟩ := hh
  have har : a ≠ r := fun z => by rw [z, kr] at ka; cases ka
  by_cases hc : n < cap
  · rw [if_pos hc, if_pos hc]
    refine cV_mono (m_U_add0 l D dA S sz a r cap n f x h hlt hc) ?_
    rintro u rfl
    refine ⟨r, cap, ⟨ka, hrow, kr, up2_self _ _ _ _, by omega, h16, hcap, fun i hi => ?_⟩, fun b hb => ⟨rfl, fun hP => ⟨rfl, ?_, rfl⟩⟩, Or.inl rfl, by rw [if_pos hc], fun b h1 h2 => absurd h1 h2, fun _ _ => rfl, fun i hi => ?_⟩
    · show up2 (up2 S.2.2.1 r n (nI x)) a 1 (nI (n + 1)) r i = nI (if i = n then x else f i)
      rw [up2_off _ _ (fun z => har z.symm)]
      by_cases e : i = n
      · subst e; rw [up2_self, if_pos rfl]
      · rw [if_neg e, up2_ne _ _ e]; exact hf i (by omega)
    · show up2 (up2 S.2.2.1 r n (nI x)) a 1 (nI (n + 1)) b = _
      rw [up2_off _ _ (fun z => hP (Or.inl z)), up2_off _ _ (fun z => hP (Or.inr z))]
    · show up2 (up2 S.2.2.1 r n (nI x)) a 1 (nI (n + 1)) a i = _
      rw [up2_ne _ _ hi, up2_off _ _ har]
  · rw [if_neg hc, if_neg hc]
    refine cV_mono (m_U_add1 l D dA S sz a r cap n f x h hlt (by omega)) ?_
    rintro u ⟨q, hq, rfl⟩
    have haq : a ≠ q := sk_ne ka hq
    have hrq : r ≠ q := sk_ne kr hq
    refine ⟨q, 2 * n, ⟨?_, up2_self _ _ _ _, va_up_self _ _ _, up2_self _ _ _ _, by omega, by omega, by omega, fun i hi => ?_⟩, fun b hb => ?_, Or.inr hq, by rw [if_neg hc], fun b h1 h2 => ?_, fun i hi => ?_, fun i hi => ?_⟩
    · show va_up S.1 q _ a = _
      rw [va_up_ne _ _ haq]; exact ka
    · show up2 (up2 (upr S.2.2.1 q (va_cpy (S.2.2.1 r) (fun _ => 0) 0 0 cap)) q n (nI x)) a 1 (nI (n + 1)) q i = nI (if i = n then x else f i)
      rw [up2_off _ _ (fun z => haq z.symm)]
      by_cases e : i = n
      · subst e; rw [up2_self, if_pos rfl]
      · rw [if_neg e, up2_ne _ _ e, upr_self, pk_cpy_in (Nat.zero_le _) (by omega)]
        rw [show 0 + (i - 0) = i by omega]; exact hf i (by omega)
    · have hbq : b ≠ q := fun z => hb (by rw [z]; exact hq)
      refine ⟨by show va_up S.1 q _ b = _; rw [va_up_ne _ _ hbq], fun hP => ⟨?_, ?_, ?_⟩⟩
      · show up2 (upr S.2.1 q (fun _ => none)) a 0 (some q) b = _
        rw [up2_off _ _ (fun z => hP (Or.inl z)), upr_off _ _ hbq]
      · show up2 (up2 (upr S.2.2.1 q _) q n (nI x)) a 1 (nI (n + 1)) b = _
        rw [up2_off _ _ (fun z => hP (Or.inl z)), up2_off _ _ hbq, upr_off _ _ hbq]
      · show upr S.2.2.2 q (fun _ => 0) b = _
        rw [upr_off _ _ hbq]
    · by_cases e : b = q
      · exact e
      · exact absurd (by show va_up S.1 q _ b = none; rw [va_up_ne _ _ e]; exact h1) h2
    · show up2 (upr S.2.1 q (fun _ => none)) a 0 (some q) a i = _
      rw [up2_ne _ _ hi, upr_off _ _ haq]
    · show up2 (up2 (upr S.2.2.1 q _) q n (nI x)) a 1 (nI (n + 1)) a i = _
      rw [up2_ne _ _ hi, up2_off _ _ haq, upr_off _ _ haq]
