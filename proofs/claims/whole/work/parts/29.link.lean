/-- what a link's joining does: k before the first of a -/
def JoinP (S : sS) (k a ff fc fp fn : Nat) (u : sS) : Prop := u.1 = S.1 ∧ u.2.2.2 = S.2.2.2 ∧ u.2.2.1 = up2 S.2.2.1 a fc (S.2.2.1 a fc + 1) ∧
  ∀ b i, u.2.1 b i = if b = a ∧ i = ff then some k else if i = fp ∧ S.2.1 a ff = some b then some k else if b = k ∧ i = fn then S.2.1 a ff else S.2.1 b i
/-- what its leaving does -/
def LeaveP (S : sS) (k a ff fc fp fn : Nat) (u : sS) : Prop := u.1 = S.1 ∧ u.2.2.2 = S.2.2.2 ∧ u.2.2.1 = up2 S.2.2.1 a fc (S.2.2.1 a fc - 1) ∧
  ∀ b i, u.2.1 b i = if i = fp ∧ S.2.1 k fn = some b then S.2.1 k fp else if S.2.1 k fp = none then (if b = a ∧ i = ff then S.2.1 k fn else S.2.1 b i) else if i = fn ∧ S.2.1 k fp = some b then S.2.1 k fn else S.2.1 b i
set_option maxHeartbeats 4000000 in
set_option maxRecDepth 100000 in
theorem m_K_joinReader (l : Launch) (D : va_G) (dA : Nat → ClassId) (S : sS) (sz : Nat) (k a : Nat) (kk : S.1 k = some (.inl 4)) (ka : S.1 a = some (.inl 3)) (ho : S.2.1 k 0 = some a) (hy : ∀ y, S.2.1 a 1 = some y → S.1 y = some (.inl 4)) :
    cV l y_K_joinReader c_K_joinReader 1 (rmk 0 0 0) D dA S sz [.ref k] (JoinP S k a 1 3 2 3) (0) (0) := by
  obtain ⟨kd, rf, it, lg⟩ := S
  dsimp only at kk ka ho hy
  have hka : k ≠ a := sk_d kk ka (by decide)
  refine s_met (cc := c_K_joinReader) (maxL := 1) (by decide) rfl (by simp [Value.category]) (by simp [lg_sl, Value.category]) ?_
  intro p e s m args below meth c ls hx hb hr hts hown hlocks hin hml hK hX hsz hM hl
  have hg := gd_hts hts
  have hl : lc ls 1 [some (va_rf (some k))] := hl
  have tail : ∀ (rf2 : Nat → Nat → Option Nat) (H : Heap) (locs : List Loc), SW D dA (sA (kd, rf, it, lg) sz) s.heap (kd, rf2, it, lg) H locs → rf2 k 0 = some a → (∀ b i, up2 rf2 a 1 (some k) b i = if b = a ∧ i = 1 then some k else if i = 2 ∧ rf a 1 = some b then some k else if b = k ∧ i = 3 then rf a 1 else rf b i) → W p l e (rmk 0 0 0) s m args below meth c H locs 0 0 (MQ below (va_Qv (JoinP (kd, rf, it, lg) k a 1 3 2 3) (SB D dA (kd, rf, it, lg) sz) (sA (kd, rf, it, lg) sz)) args s 0 0 (sA (kd, rf, it, lg) sz)) (F0 m 26 ls []) := by
    intro rf2 H locs hM h1 h2
    refine q_al_n (i := 0) hx hb d_K_joinReader_26 rfl hl rfl ?_
    refine s_getr (C := R_K) (T := F_K) (N := 6) (ci := 4) hx hb hg in_K hown hK hM kk rfl 0 (by decide) rfl (hg _ kw_377) (fun _ h9 => h9) d_K_joinReader_27 ?_
    rw [h1]
    refine q_al_n (i := 0) hx hb d_K_joinReader_30 rfl hl rfl ?_
    refine s_putr (C := R_N) (T := F_N) (N := 9) (ci := 3) hx hb hg in_N ft_N ft_N_ok fn_N hown hK hM ka rfl 1 (by decide) rfl (hg _ kw_134) (fun _ h9 => h9) rfl (some k) (rf_narrow _ _) (rf_fits _ _) d_K_joinReader_31 (fun H locs hM => ?_)
    refine q_al_n (i := 0) hx hb d_K_joinReader_34 rfl hl rfl ?_
    refine s_getr (C := R_K) (T := F_K) (N := 6) (ci := 4) hx hb hg in_K hown hK hM kk rfl 0 (by decide) rfl (hg _ kw_377) (fun _ h9 => h9) d_K_joinReader_35 ?_
    rw [up2_off _ _ hka, h1]
    refine lv_dup hx hb d_K_joinReader_38 rfl ?_
    refine s_geti (C := R_N) (T := F_N) (N := 9) (ci := 3) hx hb hg in_N hown hK hM ka rfl 3 (by decide) rfl (hg _ kw_139) (fun _ h9 => h9) d_K_joinReader_39 ?_
    refine lv_iconst (v := 1) hx hb d_K_joinReader_42 (by decide) ?_
    refine lv_iadd hx hb d_K_joinReader_43 ?_
    refine s_puti (C := R_N) (T := F_N) (N := 9) (ci := 3) hx hb hg in_N ft_N ft_N_ok fn_N hown hK hM ka rfl 3 (by decide) rfl (hg _ kw_139) (fun _ h9 => h9) rfl rfl rfl d_K_joinReader_44 (fun H locs hM => ?_)
    exact s_vret hx hb hr hM ⟨rfl, rfl, rfl, h2⟩ d_K_joinReader_47 hlocks
  refine q_al_n (i := 0) hx hb d_K_joinReader_0 rfl hl rfl ?_
  refine q_al_n (i := 0) hx hb d_K_joinReader_1 rfl hl rfl ?_
  refine s_getr (C := R_K) (T := F_K) (N := 6) (ci := 4) hx hb hg in_K hown hK hM kk rfl 0 (by decide) rfl (hg _ kw_377) (fun _ h9 => h9) d_K_joinReader_2 ?_
  rw [ho]
  refine s_getr (C := R_N) (T := F_N) (N := 9) (ci := 3) hx hb hg in_N hown hK hM ka rfl 1 (by decide) rfl (hg _ kw_134) (fun _ h9 => h9) d_K_joinReader_5 ?_
  refine s_putr (C := R_K) (T := F_K) (N := 6) (ci := 4) hx hb hg in_K ft_K ft_K_ok fn_K hown hK hM kk rfl 3 (by decide) rfl (hg _ kw_382) (fun _ h9 => h9) rfl (_) (rf_narrow _ _) (rf_fits _ _) d_K_joinReader_8 (fun H locs hM => ?_)
  refine q_al_n (i := 0) hx hb d_K_joinReader_11 rfl hl rfl ?_
  refine s_getr (C := R_K) (T := F_K) (N := 6) (ci := 4) hx hb hg in_K hown hK hM kk rfl 3 (by decide) rfl (hg _ kw_382) (fun _ h9 => h9) d_K_joinReader_12 ?_
  rw [up2_self]
  refine q_ifnull (tgt := 26) hx hb d_K_joinReader_15 (by decide) (fun c1 => ?_) (fun y c1 => ?_)
  · refine tail _ H locs hM (by rw [up2_ne _ _ (by decide)]; exact ho) (fun b i => ?_)
    rw [c1]
    simp only [up2]
    by_cases e1 : b = a ∧ i = 1
    · simp [e1]
    · by_cases e2 : b = k ∧ i = 3
      · simp [e1, e2, c1]
      · simp [e1, e2]
  · refine q_al_n (i := 0) hx hb d_K_joinReader_18 rfl hl rfl ?_
    refine s_getr (C := R_K) (T := F_K) (N := 6) (ci := 4) hx hb hg in_K hown hK hM kk rfl 3 (by decide) rfl (hg _ kw_382) (fun _ h9 => h9) d_K_joinReader_19 ?_
    rw [up2_self, c1]
    refine q_al_n (i := 0) hx hb d_K_joinReader_22 rfl hl rfl ?_
    have ky : kd y = some (.inl 4) := hy y c1
    refine s_putr (C := R_K) (T := F_K) (N := 6) (ci := 4) hx hb hg in_K ft_K ft_K_ok fn_K hown hK hM ky rfl 2 (by decide) rfl (hg _ kw_381) (fun _ h9 => h9) rfl (some k) (rf_narrow _ _) (rf_fits _ _) d_K_joinReader_23 (fun H locs hM => ?_)
    refine tail _ H locs hM (by rw [up2_ne _ _ (by decide), up2_ne _ _ (by decide)]; exact ho) (fun b i => ?_)
    rw [c1]
    simp only [up2]
    by_cases e1 : b = a ∧ i = 1
    · simp [e1]
    · by_cases e2 : b = y ∧ i = 2
      · simp [e1, e2]
      · have e3 : ¬ (i = 2 ∧ some y = some b) := fun z => e2 ⟨(Option.some.inj z.2).symm, z.1⟩
        rw [if_neg e1, if_neg e2, if_neg e1, if_neg e3]
set_option maxHeartbeats 4000000 in
set_option maxRecDepth 100000 in
theorem m_K_leaveReader (l : Launch) (D : va_G) (dA : Nat → ClassId) (S : sS) (sz : Nat) (k a : Nat) (kk : S.1 k = some (.inl 4)) (ka : S.1 a = some (.inl 3)) (ho : S.2.1 k 0 = some a) (hp0 : ∀ y, S.2.1 k 2 = some y → S.1 y = some (.inl 4) ∧ y ≠ k) (hn0 : ∀ y, S.2.1 k 3 = some y → S.1 y = some (.inl 4) ∧ y ≠ k) :
    cV l y_K_leaveReader c_K_leaveReader 1 (rmk 0 0 0) D dA S sz [.ref k] (LeaveP S k a 1 3 2 3) (0) (0) := by
  obtain ⟨kd, rf, it, lg⟩ := S
  dsimp only at kk ka ho hp0 hn0
  have hka : k ≠ a := sk_d kk ka (by decide)
  refine s_met (cc := c_K_leaveReader) (maxL := 1) (by decide) rfl (by simp [Value.category]) (by simp [lg_sl, Value.category]) ?_
  intro p e s m args below meth c ls hx hb hr hts hown hlocks hin hml hK hX hsz hM hl
  have hg := gd_hts hts
  have hl : lc ls 1 [some (va_rf (some k))] := hl
  have tail2 : ∀ (rf2 : Nat → Nat → Option Nat) (H : Heap) (locs : List Loc), SW D dA (sA (kd, rf, it, lg) sz) s.heap (kd, rf2, it, lg) H locs → rf2 k 0 = some a → (∀ b i, rf2 b i = if i = 2 ∧ rf k 3 = some b then rf k 2 else if rf k 2 = none then (if b = a ∧ i = 1 then rf k 3 else rf b i) else if i = 3 ∧ rf k 2 = some b then rf k 3 else rf b i) → W p l e (rmk 0 0 0) s m args below meth c H locs 0 0 (MQ below (va_Qv (LeaveP (kd, rf, it, lg) k a 1 3 2 3) (SB D dA (kd, rf, it, lg) sz) (sA (kd, rf, it, lg) sz)) args s 0 0 (sA (kd, rf, it, lg) sz)) (F0 m 50 ls []) := by
    intro rf2 H locs hM h1 h2
    refine q_al_n (i := 0) hx hb d_K_leaveReader_50 rfl hl rfl ?_
    refine s_getr (C := R_K) (T := F_K) (N := 6) (ci := 4) hx hb hg in_K hown hK hM kk rfl 0 (by decide) rfl (hg _ kw_377) (fun _ h9 => h9) d_K_leaveReader_51 ?_
    rw [h1]
    refine lv_dup hx hb d_K_leaveReader_54 rfl ?_
    refine s_geti (C := R_N) (T := F_N) (N := 9) (ci := 3) hx hb hg in_N hown hK hM ka rfl 3 (by decide) rfl (hg _ kw_139) (fun _ h9 => h9) d_K_leaveReader_55 ?_
    refine lv_iconst (v := 1) hx hb d_K_leaveReader_58 (by decide) ?_
    refine lv_isub hx hb d_K_leaveReader_59 ?_
    refine s_puti (C := R_N) (T := F_N) (N := 9) (ci := 3) hx hb hg in_N ft_N ft_N_ok fn_N hown hK hM ka rfl 3 (by decide) rfl (hg _ kw_139) (fun _ h9 => h9) rfl rfl rfl d_K_leaveReader_60 (fun H locs hM => ?_)
    exact s_vret hx hb hr hM ⟨rfl, rfl, rfl, h2⟩ d_K_leaveReader_63 hlocks
  have tail : ∀ (rf1 : Nat → Nat → Option Nat) (H : Heap) (locs : List Loc), SW D dA (sA (kd, rf, it, lg) sz) s.heap (kd, rf1, it, lg) H locs → (∀ i, rf1 k i = rf k i) → (∀ b i, rf1 b i = if rf k 2 = none then (if b = a ∧ i = 1 then rf k 3 else rf b i) else if i = 3 ∧ rf k 2 = some b then rf k 3 else rf b i) → W p l e (rmk 0 0 0) s m args below meth c H locs 0 0 (MQ below (va_Qv (LeaveP (kd, rf, it, lg) k a 1 3 2 3) (SB D dA (kd, rf, it, lg) sz) (sA (kd, rf, it, lg) sz)) args s 0 0 (sA (kd, rf, it, lg) sz)) (F0 m 32 ls []) := by
    intro rf1 H locs hM h1 h2
    refine q_al_n (i := 0) hx hb d_K_leaveReader_32 rfl hl rfl ?_
    refine s_getr (C := R_K) (T := F_K) (N := 6) (ci := 4) hx hb hg in_K hown hK hM kk rfl 3 (by decide) rfl (hg _ kw_382) (fun _ h9 => h9) d_K_leaveReader_33 ?_
    rw [h1]
    refine q_ifnull (tgt := 50) hx hb d_K_leaveReader_36 (by decide) (fun c2 => ?_) (fun y c2 => ?_)
    · refine tail2 rf1 H locs hM (by rw [h1]; exact ho) (fun b i => ?_)
      rw [h2, c2, if_neg (fun z : i = 2 ∧ none = some b => by cases z.2)]
    · refine q_al_n (i := 0) hx hb d_K_leaveReader_39 rfl hl rfl ?_
      refine s_getr (C := R_K) (T := F_K) (N := 6) (ci := 4) hx hb hg in_K hown hK hM kk rfl 3 (by decide) rfl (hg _ kw_382) (fun _ h9 => h9) d_K_leaveReader_40 ?_
      rw [h1, c2]
      refine q_al_n (i := 0) hx hb d_K_leaveReader_43 rfl hl rfl ?_
      refine s_getr (C := R_K) (T := F_K) (N := 6) (ci := 4) hx hb hg in_K hown hK hM kk rfl 2 (by decide) rfl (hg _ kw_381) (fun _ h9 => h9) d_K_leaveReader_44 ?_
      rw [h1]
      obtain ⟨ky, hyk⟩ := hn0 y c2
      refine s_putr (C := R_K) (T := F_K) (N := 6) (ci := 4) hx hb hg in_K ft_K ft_K_ok fn_K hown hK hM ky rfl 2 (by decide) rfl (hg _ kw_381) (fun _ h9 => h9) rfl (_) (rf_narrow _ _) (rf_fits _ _) d_K_leaveReader_47 (fun H locs hM => ?_)
      refine tail2 _ H locs hM (by rw [up2_ne _ _ (by decide), h1]; exact ho) (fun b i => ?_)
      by_cases e : b = y ∧ i = 2
      · rw [e.1, e.2, up2_self, if_pos ⟨rfl, c2⟩]
      · rw [if_neg (fun z : i = 2 ∧ rf k 3 = some b => e ⟨Option.some.inj (z.2.symm.trans c2), z.1⟩), ← h2]
        simp only [up2]
        rw [if_neg e]
  refine q_al_n (i := 0) hx hb d_K_leaveReader_0 rfl hl rfl ?_
  refine s_getr (C := R_K) (T := F_K) (N := 6) (ci := 4) hx hb hg in_K hown hK hM kk rfl 2 (by decide) rfl (hg _ kw_381) (fun _ h9 => h9) d_K_leaveReader_1 ?_
  refine q_ifnonnull (tgt := 21) hx hb d_K_leaveReader_4 (by decide) (fun y c1 => ?_) (fun c1 => ?_)
  · refine q_al_n (i := 0) hx hb d_K_leaveReader_21 rfl hl rfl ?_
    refine s_getr (C := R_K) (T := F_K) (N := 6) (ci := 4) hx hb hg in_K hown hK hM kk rfl 2 (by decide) rfl (hg _ kw_381) (fun _ h9 => h9) d_K_leaveReader_22 ?_
    rw [c1]
    refine q_al_n (i := 0) hx hb d_K_leaveReader_25 rfl hl rfl ?_
    refine s_getr (C := R_K) (T := F_K) (N := 6) (ci := 4) hx hb hg in_K hown hK hM kk rfl 3 (by decide) rfl (hg _ kw_382) (fun _ h9 => h9) d_K_leaveReader_26 ?_
    obtain ⟨ky, hyk⟩ := hp0 y c1
    refine s_putr (C := R_K) (T := F_K) (N := 6) (ci := 4) hx hb hg in_K ft_K ft_K_ok fn_K hown hK hM ky rfl 3 (by decide) rfl (hg _ kw_382) (fun _ h9 => h9) rfl (_) (rf_narrow _ _) (rf_fits _ _) d_K_leaveReader_29 (fun H locs hM => ?_)
    refine tail _ H locs hM (fun i => by rw [up2_off _ _ (fun z => hyk z.symm)]) (fun b i => ?_)
    rw [if_neg (by rw [c1]; exact fun z => by cases z)]
    simp only [up2]
    by_cases e : b = y ∧ i = 3
    · rw [if_pos e, if_pos ⟨e.2, by rw [e.1]; exact c1⟩]
    · rw [if_neg e, if_neg (fun z => e ⟨Option.some.inj (z.2.symm.trans c1), z.1⟩)]
  · refine q_al_n (i := 0) hx hb d_K_leaveReader_7 rfl hl rfl ?_
    refine s_getr (C := R_K) (T := F_K) (N := 6) (ci := 4) hx hb hg in_K hown hK hM kk rfl 0 (by decide) rfl (hg _ kw_377) (fun _ h9 => h9) d_K_leaveReader_8 ?_
    rw [ho]
    refine q_al_n (i := 0) hx hb d_K_leaveReader_11 rfl hl rfl ?_
    refine s_getr (C := R_K) (T := F_K) (N := 6) (ci := 4) hx hb hg in_K hown hK hM kk rfl 3 (by decide) rfl (hg _ kw_382) (fun _ h9 => h9) d_K_leaveReader_12 ?_
    refine s_putr (C := R_N) (T := F_N) (N := 9) (ci := 3) hx hb hg in_N ft_N ft_N_ok fn_N hown hK hM ka rfl 1 (by decide) rfl (hg _ kw_134) (fun _ h9 => h9) rfl (_) (rf_narrow _ _) (rf_fits _ _) d_K_leaveReader_15 (fun H locs hM => ?_)
    refine lv_goto (tgt := 32) hx hb d_K_leaveReader_18 (by decide) ?_
    refine tail _ H locs hM (fun i => by rw [up2_off _ _ hka]) (fun b i => ?_)
    rw [if_pos c1]
    rfl
set_option maxHeartbeats 4000000 in
set_option maxRecDepth 100000 in
theorem m_K_joinSource (l : Launch) (D : va_G) (dA : Nat → ClassId) (S : sS) (sz : Nat) (k a : Nat) (kk : S.1 k = some (.inl 4)) (ka : S.1 a = some (.inl 3)) (ho : S.2.1 k 1 = some a) (hy : ∀ y, S.2.1 a 2 = some y → S.1 y = some (.inl 4)) :
    cV l y_K_joinSource c_K_joinSource 1 (rmk 0 0 0) D dA S sz [.ref k] (JoinP S k a 2 4 4 5) (0) (0) := by
  obtain ⟨kd, rf, it, lg⟩ := S
  dsimp only at kk ka ho hy
  have hka : k ≠ a := sk_d kk ka (by decide)
  refine s_met (cc := c_K_joinSource) (maxL := 1) (by decide) rfl (by simp [Value.category]) (by simp [lg_sl, Value.category]) ?_
  intro p e s m args below meth c ls hx hb hr hts hown hlocks hin hml hK hX hsz hM hl
  have hg := gd_hts hts
  have hl : lc ls 1 [some (va_rf (some k))] := hl
  have tail : ∀ (rf2 : Nat → Nat → Option Nat) (H : Heap) (locs : List Loc), SW D dA (sA (kd, rf, it, lg) sz) s.heap (kd, rf2, it, lg) H locs → rf2 k 1 = some a → (∀ b i, up2 rf2 a 2 (some k) b i = if b = a ∧ i = 2 then some k else if i = 4 ∧ rf a 2 = some b then some k else if b = k ∧ i = 5 then rf a 2 else rf b i) → W p l e (rmk 0 0 0) s m args below meth c H locs 0 0 (MQ below (va_Qv (JoinP (kd, rf, it, lg) k a 2 4 4 5) (SB D dA (kd, rf, it, lg) sz) (sA (kd, rf, it, lg) sz)) args s 0 0 (sA (kd, rf, it, lg) sz)) (F0 m 26 ls []) := by
    intro rf2 H locs hM h1 h2
    refine q_al_n (i := 0) hx hb d_K_joinSource_26 rfl hl rfl ?_
    refine s_getr (C := R_K) (T := F_K) (N := 6) (ci := 4) hx hb hg in_K hown hK hM kk rfl 1 (by decide) rfl (hg _ kw_379) (fun _ h9 => h9) d_K_joinSource_27 ?_
    rw [h1]
    refine q_al_n (i := 0) hx hb d_K_joinSource_30 rfl hl rfl ?_
    refine s_putr (C := R_N) (T := F_N) (N := 9) (ci := 3) hx hb hg in_N ft_N ft_N_ok fn_N hown hK hM ka rfl 2 (by decide) rfl (hg _ kw_136) (fun _ h9 => h9) rfl (some k) (rf_narrow _ _) (rf_fits _ _) d_K_joinSource_31 (fun H locs hM => ?_)
    refine q_al_n (i := 0) hx hb d_K_joinSource_34 rfl hl rfl ?_
    refine s_getr (C := R_K) (T := F_K) (N := 6) (ci := 4) hx hb hg in_K hown hK hM kk rfl 1 (by decide) rfl (hg _ kw_379) (fun _ h9 => h9) d_K_joinSource_35 ?_
    rw [up2_off _ _ hka, h1]
    refine lv_dup hx hb d_K_joinSource_38 rfl ?_
    refine s_geti (C := R_N) (T := F_N) (N := 9) (ci := 3) hx hb hg in_N hown hK hM ka rfl 4 (by decide) rfl (hg _ kw_140) (fun _ h9 => h9) d_K_joinSource_39 ?_
    refine lv_iconst (v := 1) hx hb d_K_joinSource_42 (by decide) ?_
    refine lv_iadd hx hb d_K_joinSource_43 ?_
    refine s_puti (C := R_N) (T := F_N) (N := 9) (ci := 3) hx hb hg in_N ft_N ft_N_ok fn_N hown hK hM ka rfl 4 (by decide) rfl (hg _ kw_140) (fun _ h9 => h9) rfl rfl rfl d_K_joinSource_44 (fun H locs hM => ?_)
    exact s_vret hx hb hr hM ⟨rfl, rfl, rfl, h2⟩ d_K_joinSource_47 hlocks
  refine q_al_n (i := 0) hx hb d_K_joinSource_0 rfl hl rfl ?_
  refine q_al_n (i := 0) hx hb d_K_joinSource_1 rfl hl rfl ?_
  refine s_getr (C := R_K) (T := F_K) (N := 6) (ci := 4) hx hb hg in_K hown hK hM kk rfl 1 (by decide) rfl (hg _ kw_379) (fun _ h9 => h9) d_K_joinSource_2 ?_
  rw [ho]
  refine s_getr (C := R_N) (T := F_N) (N := 9) (ci := 3) hx hb hg in_N hown hK hM ka rfl 2 (by decide) rfl (hg _ kw_136) (fun _ h9 => h9) d_K_joinSource_5 ?_
  refine s_putr (C := R_K) (T := F_K) (N := 6) (ci := 4) hx hb hg in_K ft_K ft_K_ok fn_K hown hK hM kk rfl 5 (by decide) rfl (hg _ kw_385) (fun _ h9 => h9) rfl (_) (rf_narrow _ _) (rf_fits _ _) d_K_joinSource_8 (fun H locs hM => ?_)
  refine q_al_n (i := 0) hx hb d_K_joinSource_11 rfl hl rfl ?_
  refine s_getr (C := R_K) (T := F_K) (N := 6) (ci := 4) hx hb hg in_K hown hK hM kk rfl 5 (by decide) rfl (hg _ kw_385) (fun _ h9 => h9) d_K_joinSource_12 ?_
  rw [up2_self]
  refine q_ifnull (tgt := 26) hx hb d_K_joinSource_15 (by decide) (fun c1 => ?_) (fun y c1 => ?_)
  · refine tail _ H locs hM (by rw [up2_ne _ _ (by decide)]; exact ho) (fun b i => ?_)
    rw [c1]
    simp only [up2]
    by_cases e1 : b = a ∧ i = 2
    · simp [e1]
    · by_cases e2 : b = k ∧ i = 5
      · simp [e1, e2, c1]
      · simp [e1, e2]
  · refine q_al_n (i := 0) hx hb d_K_joinSource_18 rfl hl rfl ?_
    refine s_getr (C := R_K) (T := F_K) (N := 6) (ci := 4) hx hb hg in_K hown hK hM kk rfl 5 (by decide) rfl (hg _ kw_385) (fun _ h9 => h9) d_K_joinSource_19 ?_
    rw [up2_self, c1]
    refine q_al_n (i := 0) hx hb d_K_joinSource_22 rfl hl rfl ?_
    have ky : kd y = some (.inl 4) := hy y c1
    refine s_putr (C := R_K) (T := F_K) (N := 6) (ci := 4) hx hb hg in_K ft_K ft_K_ok fn_K hown hK hM ky rfl 4 (by decide) rfl (hg _ kw_384) (fun _ h9 => h9) rfl (some k) (rf_narrow _ _) (rf_fits _ _) d_K_joinSource_23 (fun H locs hM => ?_)
    refine tail _ H locs hM (by rw [up2_ne _ _ (by decide), up2_ne _ _ (by decide)]; exact ho) (fun b i => ?_)
    rw [c1]
    simp only [up2]
    by_cases e1 : b = a ∧ i = 2
    · simp [e1]
    · by_cases e2 : b = y ∧ i = 4
      · simp [e1, e2]
      · have e3 : ¬ (i = 4 ∧ some y = some b) := fun z => e2 ⟨(Option.some.inj z.2).symm, z.1⟩
        rw [if_neg e1, if_neg e2, if_neg e1, if_neg e3]
set_option maxHeartbeats 4000000 in
set_option maxRecDepth 100000 in
theorem m_K_leaveSource (l : Launch) (D : va_G) (dA : Nat → ClassId) (S : sS) (sz : Nat) (k a : Nat) (kk : S.1 k = some (.inl 4)) (ka : S.1 a = some (.inl 3)) (ho : S.2.1 k 1 = some a) (hp0 : ∀ y, S.2.1 k 4 = some y → S.1 y = some (.inl 4) ∧ y ≠ k) (hn0 : ∀ y, S.2.1 k 5 = some y → S.1 y = some (.inl 4) ∧ y ≠ k) :
    cV l y_K_leaveSource c_K_leaveSource 1 (rmk 0 0 0) D dA S sz [.ref k] (LeaveP S k a 2 4 4 5) (0) (0) := by
  obtain ⟨kd, rf, it, lg⟩ := S
  dsimp only at kk ka ho hp0 hn0
  have hka : k ≠ a := sk_d kk ka (by decide)
  refine s_met (cc := c_K_leaveSource) (maxL := 1) (by decide) rfl (by simp [Value.category]) (by simp [lg_sl, Value.category]) ?_
  intro p e s m args below meth c ls hx hb hr hts hown hlocks hin hml hK hX hsz hM hl
  have hg := gd_hts hts
  have hl : lc ls 1 [some (va_rf (some k))] := hl
  have tail2 : ∀ (rf2 : Nat → Nat → Option Nat) (H : Heap) (locs : List Loc), SW D dA (sA (kd, rf, it, lg) sz) s.heap (kd, rf2, it, lg) H locs → rf2 k 1 = some a → (∀ b i, rf2 b i = if i = 4 ∧ rf k 5 = some b then rf k 4 else if rf k 4 = none then (if b = a ∧ i = 2 then rf k 5 else rf b i) else if i = 5 ∧ rf k 4 = some b then rf k 5 else rf b i) → W p l e (rmk 0 0 0) s m args below meth c H locs 0 0 (MQ below (va_Qv (LeaveP (kd, rf, it, lg) k a 2 4 4 5) (SB D dA (kd, rf, it, lg) sz) (sA (kd, rf, it, lg) sz)) args s 0 0 (sA (kd, rf, it, lg) sz)) (F0 m 50 ls []) := by
    intro rf2 H locs hM h1 h2
    refine q_al_n (i := 0) hx hb d_K_leaveSource_50 rfl hl rfl ?_
    refine s_getr (C := R_K) (T := F_K) (N := 6) (ci := 4) hx hb hg in_K hown hK hM kk rfl 1 (by decide) rfl (hg _ kw_379) (fun _ h9 => h9) d_K_leaveSource_51 ?_
    rw [h1]
    refine lv_dup hx hb d_K_leaveSource_54 rfl ?_
    refine s_geti (C := R_N) (T := F_N) (N := 9) (ci := 3) hx hb hg in_N hown hK hM ka rfl 4 (by decide) rfl (hg _ kw_140) (fun _ h9 => h9) d_K_leaveSource_55 ?_
    refine lv_iconst (v := 1) hx hb d_K_leaveSource_58 (by decide) ?_
    refine lv_isub hx hb d_K_leaveSource_59 ?_
    refine s_puti (C := R_N) (T := F_N) (N := 9) (ci := 3) hx hb hg in_N ft_N ft_N_ok fn_N hown hK hM ka rfl 4 (by decide) rfl (hg _ kw_140) (fun _ h9 => h9) rfl rfl rfl d_K_leaveSource_60 (fun H locs hM => ?_)
    exact s_vret hx hb hr hM ⟨rfl, rfl, rfl, h2⟩ d_K_leaveSource_63 hlocks
  have tail : ∀ (rf1 : Nat → Nat → Option Nat) (H : Heap) (locs : List Loc), SW D dA (sA (kd, rf, it, lg) sz) s.heap (kd, rf1, it, lg) H locs → (∀ i, rf1 k i = rf k i) → (∀ b i, rf1 b i = if rf k 4 = none then (if b = a ∧ i = 2 then rf k 5 else rf b i) else if i = 5 ∧ rf k 4 = some b then rf k 5 else rf b i) → W p l e (rmk 0 0 0) s m args below meth c H locs 0 0 (MQ below (va_Qv (LeaveP (kd, rf, it, lg) k a 2 4 4 5) (SB D dA (kd, rf, it, lg) sz) (sA (kd, rf, it, lg) sz)) args s 0 0 (sA (kd, rf, it, lg) sz)) (F0 m 32 ls []) := by
    intro rf1 H locs hM h1 h2
    refine q_al_n (i := 0) hx hb d_K_leaveSource_32 rfl hl rfl ?_
    refine s_getr (C := R_K) (T := F_K) (N := 6) (ci := 4) hx hb hg in_K hown hK hM kk rfl 5 (by decide) rfl (hg _ kw_385) (fun _ h9 => h9) d_K_leaveSource_33 ?_
    rw [h1]
    refine q_ifnull (tgt := 50) hx hb d_K_leaveSource_36 (by decide) (fun c2 => ?_) (fun y c2 => ?_)
    · refine tail2 rf1 H locs hM (by rw [h1]; exact ho) (fun b i => ?_)
      rw [h2, c2, if_neg (fun z : i = 4 ∧ none = some b => by cases z.2)]
    · refine q_al_n (i := 0) hx hb d_K_leaveSource_39 rfl hl rfl ?_
      refine s_getr (C := R_K) (T := F_K) (N := 6) (ci := 4) hx hb hg in_K hown hK hM kk rfl 5 (by decide) rfl (hg _ kw_385) (fun _ h9 => h9) d_K_leaveSource_40 ?_
      rw [h1, c2]
      refine q_al_n (i := 0) hx hb d_K_leaveSource_43 rfl hl rfl ?_
      refine s_getr (C := R_K) (T := F_K) (N := 6) (ci := 4) hx hb hg in_K hown hK hM kk rfl 4 (by decide) rfl (hg _ kw_384) (fun _ h9 => h9) d_K_leaveSource_44 ?_
      rw [h1]
      obtain ⟨ky, hyk⟩ := hn0 y c2
      refine s_putr (C := R_K) (T := F_K) (N := 6) (ci := 4) hx hb hg in_K ft_K ft_K_ok fn_K hown hK hM ky rfl 4 (by decide) rfl (hg _ kw_384) (fun _ h9 => h9) rfl (_) (rf_narrow _ _) (rf_fits _ _) d_K_leaveSource_47 (fun H locs hM => ?_)
      refine tail2 _ H locs hM (by rw [up2_ne _ _ (by decide), h1]; exact ho) (fun b i => ?_)
      by_cases e : b = y ∧ i = 4
      · rw [e.1, e.2, up2_self, if_pos ⟨rfl, c2⟩]
      · rw [if_neg (fun z : i = 4 ∧ rf k 5 = some b => e ⟨Option.some.inj (z.2.symm.trans c2), z.1⟩), ← h2]
        simp only [up2]
        rw [if_neg e]
  refine q_al_n (i := 0) hx hb d_K_leaveSource_0 rfl hl rfl ?_
  refine s_getr (C := R_K) (T := F_K) (N := 6) (ci := 4) hx hb hg in_K hown hK hM kk rfl 4 (by decide) rfl (hg _ kw_384) (fun _ h9 => h9) d_K_leaveSource_1 ?_
  refine q_ifnonnull (tgt := 21) hx hb d_K_leaveSource_4 (by decide) (fun y c1 => ?_) (fun c1 => ?_)
  · refine q_al_n (i := 0) hx hb d_K_leaveSource_21 rfl hl rfl ?_
    refine s_getr (C := R_K) (T := F_K) (N := 6) (ci := 4) hx hb hg in_K hown hK hM kk rfl 4 (by decide) rfl (hg _ kw_384) (fun _ h9 => h9) d_K_leaveSource_22 ?_
    rw [c1]
    refine q_al_n (i := 0) hx hb d_K_leaveSource_25 rfl hl rfl ?_
    refine s_getr (C := R_K) (T := F_K) (N := 6) (ci := 4) hx hb hg in_K hown hK hM kk rfl 5 (by decide) rfl (hg _ kw_385) (fun _ h9 => h9) d_K_leaveSource_26 ?_
    obtain ⟨ky, hyk⟩ := hp0 y c1
    refine s_putr (C := R_K) (T := F_K) (N := 6) (ci := 4) hx hb hg in_K ft_K ft_K_ok fn_K hown hK hM ky rfl 5 (by decide) rfl (hg _ kw_385) (fun _ h9 => h9) rfl (_) (rf_narrow _ _) (rf_fits _ _) d_K_leaveSource_29 (fun H locs hM => ?_)
    refine tail _ H locs hM (fun i => by rw [up2_off _ _ (fun z => hyk z.symm)]) (fun b i => ?_)
    rw [if_neg (by rw [c1]; exact fun z => by cases z)]
    simp only [up2]
    by_cases e : b = y ∧ i = 5
    · rw [if_pos e, if_pos ⟨e.2, by rw [e.1]; exact c1⟩]
    · rw [if_neg e, if_neg (fun z => e ⟨Option.some.inj (z.2.symm.trans c1), z.1⟩)]
  · refine q_al_n (i := 0) hx hb d_K_leaveSource_7 rfl hl rfl ?_
    refine s_getr (C := R_K) (T := F_K) (N := 6) (ci := 4) hx hb hg in_K hown hK hM kk rfl 1 (by decide) rfl (hg _ kw_379) (fun _ h9 => h9) d_K_leaveSource_8 ?_
    rw [ho]
    refine q_al_n (i := 0) hx hb d_K_leaveSource_11 rfl hl rfl ?_
    refine s_getr (C := R_K) (T := F_K) (N := 6) (ci := 4) hx hb hg in_K hown hK hM kk rfl 5 (by decide) rfl (hg _ kw_385) (fun _ h9 => h9) d_K_leaveSource_12 ?_
    refine s_putr (C := R_N) (T := F_N) (N := 9) (ci := 3) hx hb hg in_N ft_N ft_N_ok fn_N hown hK hM ka rfl 2 (by decide) rfl (hg _ kw_136) (fun _ h9 => h9) rfl (_) (rf_narrow _ _) (rf_fits _ _) d_K_leaveSource_15 (fun H locs hM => ?_)
    refine lv_goto (tgt := 32) hx hb d_K_leaveSource_18 (by decide) ?_
    refine tail _ H locs hM (fun i => by rw [up2_off _ _ hka]) (fun b i => ?_)
    rw [if_pos c1]
    rfl
set_option maxHeartbeats 4000000 in
set_option maxRecDepth 100000 in
theorem m_K_fasten (l : Launch) (D : va_G) (dA : Nat → ClassId) (S : sS) (sz : Nat) (k a b : Nat) (hya : ∀ y, S.2.1 a 1 = some y → S.1 y = some (.inl 4)) (hyb : ∀ y, S.2.1 b 2 = some y → S.1 y = some (.inl 4)) (kk : S.1 k = some (.inl 4)) (ka : S.1 a = some (.inl 3)) (kb : S.1 b = some (.inl 3)) (h0 : S.2.1 k 0 = some a) (h1 : S.2.1 k 1 = some b) :
    cV l y_K_fasten c_K_fasten 1 (rmk 1 0 0) D dA S sz [.ref k] (fun u => ∃ u1, JoinP S k a 1 3 2 3 u1 ∧ JoinP u1 k b 2 4 4 5 u) (0) (0) := by
  obtain ⟨kd, rf, it, lg⟩ := S
  dsimp only at kk ka kb h0 h1
  refine s_met (cc := c_K_fasten) (maxL := 1) (by decide) rfl (by simp [Value.category]) (by simp [lg_sl, Value.category]) ?_
  intro p e s m args below meth c ls hx hb hr hts hown hlocks hin hml hK hX hsz hM hl
  have hg := gd_hts hts
  have hl : lc ls 1 [some (va_rf (some k))] := hl
  refine q_al_n (i := 0) hx hb d_K_fasten_0 rfl hl rfl ?_
  refine s_callv (r_V 0 [] rfl hx hb hml hown hg (m_K_joinReader l D dA _ _ k a kk ka h0 hya) (hM.pre hK hX) (hM.recv hK kk (q := cls.getD 4 (R_H, F_H, 7)) rfl) kw_404 kw_406 ks_12 kw_13 kw_407 (by decide +kernel) ⟨Nat.le_of_ble_eq_true rfl, Nat.le_of_ble_eq_true rfl⟩ rfl rfl hl.sz (by first | exact Nat.le_of_ble_eq_true rfl | simp [rf_cat] | simp [rf_cat, Value.category]) d_K_fasten_1 ⟨Nat.le_refl _, Nat.le_refl _⟩ rfl) hM (fun u H locs hp hM => ?_)
  have hp1 := hp
  obtain ⟨e1, e2, e3, e4⟩ := hp
  obtain ⟨kd1, rf1, it1, lg1⟩ := u
  dsimp only at e1 e2 e3 e4
  subst e1
  have hka : k ≠ a := sk_d kk ka (by decide)
  have hkb : b ≠ k := sk_d kb kk (by decide)
  have h11 : rf1 k 1 = some b := by rw [e4, if_neg (fun z => hka z.1), if_neg (fun z => by cases z.1), if_neg (fun z => by cases z.2)]; exact h1
  have h12 : rf1 b 2 = rf b 2 := by
    rw [e4, if_neg (fun z => by cases z.2), if_neg (fun z => ?_), if_neg (fun z => hkb z.1)]
    have := hya b z.2
    exact sk_d this kb (by decide) rfl
  refine q_al_n (i := 0) hx hb d_K_fasten_4 rfl hl rfl ?_
  refine s_callv (r_V 0 [] rfl hx hb hml hown hg (m_K_joinSource l D dA _ _ k b kk kb h11 (fun y hy => by have hy2 : rf1 b 2 = some y := hy; rw [h12] at hy2; exact hyb y hy2)) (hM.pre hK hX) (hM.recv hK kk (q := cls.getD 4 (R_H, F_H, 7)) rfl) kw_408 kw_410 ks_13 kw_13 kw_411 (by decide +kernel) ⟨Nat.le_of_ble_eq_true rfl, Nat.le_of_ble_eq_true rfl⟩ rfl rfl hl.sz (by first | exact Nat.le_of_ble_eq_true rfl | simp [rf_cat] | simp [rf_cat, Value.category]) d_K_fasten_5 ⟨Nat.le_refl _, Nat.le_refl _⟩ rfl) hM (fun u H locs hp hM => ?_)
  exact s_vret hx hb hr hM ⟨_, hp1, hp⟩ d_K_fasten_8 hlocks
set_option maxHeartbeats 4000000 in
set_option maxRecDepth 100000 in
theorem m_K_loosen (l : Launch) (D : va_G) (dA : Nat → ClassId) (S : sS) (sz : Nat) (k a b : Nat) (hk4 : ∀ i y, 2 ≤ i → i ≤ 5 → S.2.1 k i = some y → S.1 y = some (.inl 4)) (kk : S.1 k = some (.inl 4)) (ka : S.1 a = some (.inl 3)) (kb : S.1 b = some (.inl 3)) (h0 : S.2.1 k 0 = some a) (h1 : S.2.1 k 1 = some b) (hs : ∀ i, 2 ≤ i → i ≤ 5 → S.2.1 k i ≠ some k) :
    cV l y_K_loosen c_K_loosen 1 (rmk 1 0 0) D dA S sz [.ref k] (fun u => ∃ u1, LeaveP S k a 1 3 2 3 u1 ∧ LeaveP u1 k b 2 4 4 5 u) (0) (0) := by
  obtain ⟨kd, rf, it, lg⟩ := S
  dsimp only at kk ka kb h0 h1 hs
  refine s_met (cc := c_K_loosen) (maxL := 1) (by decide) rfl (by simp [Value.category]) (by simp [lg_sl, Value.category]) ?_
  intro p e s m args below meth c ls hx hb hr hts hown hlocks hin hml hK hX hsz hM hl
  have hg := gd_hts hts
  have hl : lc ls 1 [some (va_rf (some k))] := hl
  refine q_al_n (i := 0) hx hb d_K_loosen_0 rfl hl rfl ?_
  refine s_callv (r_V 0 [] rfl hx hb hml hown hg (m_K_leaveReader l D dA _ _ k a kk ka h0 (fun y hy => ⟨hk4 2 y (by decide) (by decide) hy, fun z => hs 2 (by decide) (by decide) (by rw [z] at hy; exact hy)⟩) (fun y hy => ⟨hk4 3 y (by decide) (by decide) hy, fun z => hs 3 (by decide) (by decide) (by rw [z] at hy; exact hy)⟩)) (hM.pre hK hX) (hM.recv hK kk (q := cls.getD 4 (R_H, F_H, 7)) rfl) kw_427 kw_429 ks_15 kw_13 kw_430 (by decide +kernel) ⟨Nat.le_of_ble_eq_true rfl, Nat.le_of_ble_eq_true rfl⟩ rfl rfl hl.sz (by first | exact Nat.le_of_ble_eq_true rfl | simp [rf_cat] | simp [rf_cat, Value.category]) d_K_loosen_1 ⟨Nat.le_refl _, Nat.le_refl _⟩ rfl) hM (fun u H locs hp hM => ?_)
  have hp1 := hp
  obtain ⟨e1, e2, e3, e4⟩ := hp
  obtain ⟨kd1, rf1, it1, lg1⟩ := u
  dsimp only at e1 e2 e3 e4
  subst e1
  have hka : k ≠ a := sk_d kk ka (by decide)
  have hk1 : ∀ i, i ≠ 2 → i ≠ 3 → rf1 k i = rf k i := by
    intro i i2 i3
    rw [e4, if_neg (fun z => i2 z.1)]
    by_cases c : rf k 2 = none
    · rw [if_pos c, if_neg (fun z => hka z.1)]
    · rw [if_neg c, if_neg (fun z => i3 z.1)]
  have h11 : rf1 k 1 = some b := by rw [hk1 1 (by decide) (by decide)]; exact h1
  have h14 : rf1 k 4 = rf k 4 := hk1 4 (by decide) (by decide)
  have h15 : rf1 k 5 = rf k 5 := hk1 5 (by decide) (by decide)
  refine q_al_n (i := 0) hx hb d_K_loosen_4 rfl hl rfl ?_
  refine s_callv (r_V 0 [] rfl hx hb hml hown hg (m_K_leaveSource l D dA _ _ k b kk kb h11 (fun y hy => by have hy2 : rf1 k 4 = some y := hy; rw [h14] at hy2; exact ⟨hk4 4 y (by decide) (by decide) hy2, fun z => hs 4 (by decide) (by decide) (by rw [z] at hy2; exact hy2)⟩) (fun y hy => by have hy2 : rf1 k 5 = some y := hy; rw [h15] at hy2; exact ⟨hk4 5 y (by decide) (by decide) hy2, fun z => hs 5 (by decide) (by decide) (by rw [z] at hy2; exact hy2)⟩)) (hM.pre hK hX) (hM.recv hK kk (q := cls.getD 4 (R_H, F_H, 7)) rfl) kw_431 kw_433 ks_16 kw_13 kw_434 (by decide +kernel) ⟨Nat.le_of_ble_eq_true rfl, Nat.le_of_ble_eq_true rfl⟩ rfl rfl hl.sz (by first | exact Nat.le_of_ble_eq_true rfl | simp [rf_cat] | simp [rf_cat, Value.category]) d_K_loosen_5 ⟨Nat.le_refl _, Nat.le_refl _⟩ rfl) hM (fun u H locs hp hM => ?_)
  exact s_vret hx hb hr hM ⟨_, hp1, hp⟩ d_K_loosen_8 hlocks
