/-- a row of numbers stays where nobody touched it -/
theorem Nm_keep {S u : sS} {a r cap n : Nat} {f : Nat → Nat} {P : Nat → Prop} (h : Nm S a r cap n f) (hF : sFr S u P) (ha : ¬ P a) (hr : ¬ P r) : Nm u a r cap n f := by
  obtain ⟨ka, hrow, kr, hn, hle, h16, hcap, hf⟩ := h
  obtain ⟨a1, a2⟩ := hF a (by rw [ka]; exact fun z => by cases z)
  obtain ⟨b1, b2⟩ := hF r (by rw [kr]; exact fun z => by cases z)
  obtain ⟨a3, a4, -⟩ := a2 ha
  obtain ⟨b3, b4, -⟩ := b2 hr
  exact ⟨by rw [a1]; exact ka, by rw [a3]; exact hrow, by rw [b1]; exact kr, by rw [a4]; exact hn, hle, h16, hcap, fun i hi => by rw [b4]; exact hf i hi⟩
theorem Nm_ne {S : sS} {a r cap n : Nat} {f : Nat → Nat} (h : Nm S a r cap n f) : a ≠ r := fun z => by
  obtain ⟨ka, hrow, kr, -⟩ := h
  rw [z, kr] at ka
  cases ka
theorem Nm_fun {S : sS} {a r cap n : Nat} {f g : Nat → Nat} (h : Nm S a r cap n f) (hg : ∀ i, i < n → g i = f i) : Nm S a r cap n g := by
  obtain ⟨ka, hrow, kr, hn, hle, h16, hcap, hf⟩ := h
  exact ⟨ka, hrow, kr, hn, hle, h16, hcap, fun i hi => by rw [hg i hi]; exact hf i hi⟩
theorem nI_par {p : Nat} (h0 : 0 < p) (h : p < 2 ^ 31) : (nI p - 1) >>> ((1 : Int32) &&& 31) = nI ((p - 1) / 2) := by
  obtain ⟨j, rfl⟩ : ∃ j, p = j + 1 := ⟨p - 1, by omega⟩
  rw [nI_pred, show j + 1 - 1 = j by omega]
  exact pk_shrN (by omega) _ 1 (by decide)
/-- LeastFirst at q: its Numbers at b -/
def Lf (S : sS) (q b r cap n : Nat) (v : Nat → Nat) : Prop := S.1 q = some (.inl 6) ∧ S.2.1 q 0 = some b ∧ Nm S b r cap n v
set_option maxHeartbeats 4000000 in
set_option maxRecDepth 100000 in
theorem m_F_isEmpty (l : Launch) (D : va_G) (dA : Nat → ClassId) (S : sS) (sz : Nat) (q b r cap n : Nat) (v : Nat → Nat) (h : Lf S q b r cap n v) :
    cI l y_F_isEmpty c_F_isEmpty 1 (some .boolean) (rmk 0 0 0) D dA S sz [.ref q] (fun x u => u = S ∧ ((x = 1 ∧ n = 0) ∨ (x = 0 ∧ 0 < n))) (0) (0) := by
  obtain ⟨kd, rf, it, lg⟩ := S
  obtain ⟨kq, hq, ka, hrow, kr, hn, hle, h16, hcap, hf⟩ := h
  dsimp only at kq hq ka hrow kr hn hf
  refine s_met (cc := c_F_isEmpty) (maxL := 1) (by decide) rfl (by simp [Value.category]) (by simp [lg_sl, Value.category]) ?_
  intro p e s m args below meth c ls hx hb hr hts hown hlocks hin hml hK hX hsz hM hl
  have hg := gd_hts hts
  have hl : lc ls 1 [some (va_rf (some q))] := hl
  refine q_al_n (i := 0) hx hb d_F_isEmpty_0 rfl hl rfl ?_
  refine s_getr (C := R_F) (T := F_F) (N := 1) (ci := 6) hx hb hg in_F hown hK hM (by assumption) rfl 0 (by decide) rfl (hg _ kw_61) (fun _ h9 => h9) d_F_isEmpty_1 ?_
  rw [hq]
  refine s_geti (C := R_U) (T := F_U) (N := 2) (ci := 5) hx hb hg in_U hown hK hM (by assumption) rfl 1 (by decide) rfl (hg _ kw_45) (fun _ h9 => h9) d_F_isEmpty_4 ?_
  rw [hn]
  refine lv_if_ne (tgt := 14) hx hb d_F_isEmpty_7 (by decide) (fun c1 => ?_) (fun c1 => ?_)
  · refine lv_iconst (v := 0) hx hb d_F_isEmpty_14 (by decide) ?_
    exact s_zret hx hb hr rfl hM ⟨rfl, Or.inr ⟨rfl, Nat.pos_of_ne_zero fun z => c1 (by rw [z]; rfl)⟩⟩ d_F_isEmpty_15 hlocks
  · refine lv_iconst (v := 1) hx hb d_F_isEmpty_10 (by decide) ?_
    refine lv_goto (tgt := 15) hx hb d_F_isEmpty_11 (by decide) ?_
    exact s_zret hx hb hr rfl hM ⟨rfl, Or.inl ⟨rfl, Decidable.byContradiction fun z => nI_ne0 (Nat.pos_of_ne_zero z) (by omega) c1⟩⟩ d_F_isEmpty_15 hlocks
set_option maxHeartbeats 4000000 in
set_option maxRecDepth 100000 in
theorem put_loop {p : Program} {l : Launch} {e : Env} {s : State} {m : MethodId} {args : Array Value} {below : List Frame} {meth : Method} {c : Code} {D : va_G} {dA : Nat → ClassId} {A : Nat → Prop} {Q : State → Prop} (hx : p.tables.exec = Jvm.exec) (hb : c.code = c_F_put) (hml : c.maxLocals = 4) (hown : s.vm.findClass R_F = some m.cls) (hg : ∀ w ∈ gd, w.before args s = true) (hK : va_K D cls (tys dA) s) (hX : sKx s) {mc ms cells slots : Nat} (hcs : cells ≤ mc ∧ slots ≤ ms) {kd : Nat → Option sK} {rf : Nat → Nat → Option Nat} {lg : Nat → Nat → Int64} {q b r cap N x : Nat} (kq : kd q = some (.inl 6)) (hq : rf q 0 = some b) (hx9 : x < 16384) (it0 : Nat → Nat → Int32) (P : (Nat → Nat) → Prop) (hP : ∀ v i j, i < N → j < N → P v → P (hp_sw v i j))
    (kk : ∀ (it : Nat → Nat → Int32) (v : Nat → Nat) (H : Heap) (locs : List Loc) (ls : Array Slot), SW D dA A s.heap (kd, rf, it, lg) H locs → Nm (kd, rf, it, lg) b r cap N v → hp_ok v N → P v → (∀ z, z ≠ r → it z = it0 z) → W p l e (rmk 3 mc ms) s m args below meth c H locs cells slots Q (F0 m 73 ls [])) :
    ∀ (pl : Nat) (it : Nat → Nat → Int32) (v h : Nat → Nat) (H : Heap) (locs : List Loc) (ls : Array Slot), SW D dA A s.heap (kd, rf, it, lg) H locs → lc ls 4 [some (va_rf (some q)), some (.int (nI x)), some (.int (nI pl)), none] → Nm (kd, rf, it, lg) b r cap N h → hp_up v N pl → v pl = x → (∀ i, i < N → i ≠ pl → h i = v i) → (∀ i, i < N → v i < 16384) → P v → (∀ z, z ≠ r → it z = it0 z) → W p l e (rmk 3 mc ms) s m args below meth c H locs cells slots Q (F0 m 18 ls []) := by
  intro pl
  induction pl using Nat.strongRecOn with
  | _ pl ih =>
    intro it v h H locs ls hM hl hNm hup hvp hhv hv9 hPv hit
    have hNm' := hNm
    obtain ⟨kb, hrow, kr, hn, hle, h16, hcap, hf⟩ := hNm'
    dsimp only at kb hrow kr hn hf
    have hpl : pl < N := hup.1
    have ks : (vp_in (nI pl) N) := vp_in_nI hpl (by omega)
    have fin : ∀ (H : Heap) (locs : List Loc) (ls : Array Slot) (o : Option Value), SW D dA A s.heap (kd, rf, it, lg) H locs → lc ls 4 [some (va_rf (some q)), some (.int (nI x)), some (.int (nI pl)), o] → (pl = 0 ∨ v ((pl - 1) / 2) ≤ v pl) → W p l e (rmk 3 mc ms) s m args below meth c H locs cells slots Q (F0 m 64 ls []) := by
      intro H locs ls o hM hl hend
      refine q_al_n (i := 0) hx hb d_F_put_64 rfl hl rfl ?_
      refine s_getr (C := R_F) (T := F_F) (N := 1) (ci := 6) hx hb hg in_F hown hK hM (by assumption) rfl 0 (by decide) rfl (hg _ kw_61) (fun _ h9 => h9) d_F_put_65 ?_
      rw [hq]
      refine q_iload_n (i := 2) hx hb d_F_put_68 rfl hl rfl ?_
      refine q_iload_n (i := 1) hx hb d_F_put_69 rfl hl rfl ?_
      refine s_callv (r_V 2 [.int (nI pl), .int (nI x)] rfl hx hb hml hown hg (m_U_set l D dA _ _ b r cap N h (nI pl) (nI x) hNm) (hM.pre hK hX) (hM.recv hK kb (q := cls.getD 5 (R_H, F_H, 7)) rfl) kw_206 kw_207 kw_208 kw_3 kw_209 (by decide +kernel) ⟨Nat.le_of_ble_eq_true rfl, Nat.le_of_ble_eq_true rfl⟩ rfl rfl hl.sz (by first | exact Nat.le_of_ble_eq_true rfl | simp [rf_cat] | simp [rf_cat, Value.category]) d_F_put_70 ⟨hcs.1, hcs.2⟩ rfl) hM (fun u H locs hp hM => ?_)
      rcases hp with ⟨-, rfl⟩ | ⟨hz, -⟩
      · dsimp only at hM
        rw [nI_clamp (by omega)] at hM
        refine kk _ v H locs ls hM ⟨kb, hrow, kr, ?_, hle, h16, hcap, fun i hi => ?_⟩ (hp_up_end hup hend) hPv (fun z hz => by rw [up2_off _ _ hz]; exact hit z hz)
        · show up2 it r pl (nI x) b 1 = nI N
          rw [up2_off _ _ (Nm_ne hNm)]; exact hn
        · show up2 it r pl (nI x) r i = nI (v i)
          by_cases e : i = pl
          · rw [e, up2_self, hvp]
          · rw [up2_ne _ _ e, ← hhv i hi e]; exact hf i hi
      · exact absurd ks hz
    refine q_iload_n (i := 2) hx hb d_F_put_18 rfl hl rfl ?_
    refine lv_if_le (tgt := 64) hx hb d_F_put_19 (by decide) (fun c1 => ?_) (fun c1 => ?_)
    · exact fin _ _ _ _ hM hl (Or.inl (Decidable.byContradiction fun z => nI_nle (Nat.pos_of_ne_zero z) (by omega) c1))
    · have h0 : 0 < pl := Nat.pos_of_ne_zero fun z => c1 (by rw [z]; decide)
      have hpar : (pl - 1) / 2 < N := by omega
      have epar : h ((pl - 1) / 2) = v ((pl - 1) / 2) := hhv _ hpar (by omega)
      refine q_iload_n (i := 2) hx hb d_F_put_22 rfl hl rfl ?_
      refine lv_iconst (v := 1) hx hb d_F_put_23 (by decide) ?_
      refine lv_isub hx hb d_F_put_24 ?_
      refine lv_iconst (v := 1) hx hb d_F_put_25 (by decide) ?_
      refine lv_ishr hx hb d_F_put_26 ?_
      rw [nI_par h0 (by omega)]
      refine q_istore_n (i := 3) hx hb d_F_put_27 rfl hl (by decide) (fun ls hl => ?_)
      simp only [List.set_cons_succ, List.set_cons_zero] at hl
      refine q_al_n (i := 0) hx hb d_F_put_28 rfl hl rfl ?_
      refine s_getr (C := R_F) (T := F_F) (N := 1) (ci := 6) hx hb hg in_F hown hK hM (by assumption) rfl 0 (by decide) rfl (hg _ kw_61) (fun _ h9 => h9) d_F_put_29 ?_
      rw [hq]
      refine q_iload_n (i := 3) hx hb d_F_put_32 rfl hl rfl ?_
      refine s_calli (r_V 1 [.int (nI ((pl - 1) / 2))] rfl hx hb hml hown hg (m_U_at l D dA _ _ b r cap N h (nI ((pl - 1) / 2)) hNm) (hM.pre hK hX) (hM.recv hK kb (q := cls.getD 5 (R_H, F_H, 7)) rfl) kw_205 kw_100 kw_101 kw_3 kw_102 (by decide +kernel) ⟨Nat.le_of_ble_eq_true rfl, Nat.le_of_ble_eq_true rfl⟩ rfl rfl hl.sz (by first | exact Nat.le_of_ble_eq_true rfl | simp [rf_cat] | simp [rf_cat, Value.category]) d_F_put_33 ⟨hcs.1, hcs.2⟩ rfl) hM (fun r1 u H locs hp hM => ?_)
      obtain ⟨rfl, hp⟩ := hp
      have e1 : r1 = nI (v ((pl - 1) / 2)) := by
        rcases hp with ⟨-, e⟩ | ⟨z, -⟩
        · rw [e, nI_clamp (by omega), epar]
        · exact absurd (vp_in_nI hpar (by omega)) z
      subst e1
      refine q_iload_n (i := 1) hx hb d_F_put_36 rfl hl rfl ?_
      refine n_gt (tgt := 43) hx hb d_F_put_37 (by decide) (by have := hv9 _ hpar; omega) (by omega) (fun c2 => ?_) (fun c2 => ?_)
      · refine q_al_n (i := 0) hx hb d_F_put_43 rfl hl rfl ?_
        refine s_getr (C := R_F) (T := F_F) (N := 1) (ci := 6) hx hb hg in_F hown hK hM (by assumption) rfl 0 (by decide) rfl (hg _ kw_61) (fun _ h9 => h9) d_F_put_44 ?_
        rw [hq]
        refine q_iload_n (i := 2) hx hb d_F_put_47 rfl hl rfl ?_
        refine q_al_n (i := 0) hx hb d_F_put_48 rfl hl rfl ?_
        refine s_getr (C := R_F) (T := F_F) (N := 1) (ci := 6) hx hb hg in_F hown hK hM (by assumption) rfl 0 (by decide) rfl (hg _ kw_61) (fun _ h9 => h9) d_F_put_49 ?_
        rw [hq]
        refine q_iload_n (i := 3) hx hb d_F_put_52 rfl hl rfl ?_
        refine s_calli (r_V 1 [.int (nI ((pl - 1) / 2))] rfl hx hb hml hown hg (m_U_at l D dA _ _ b r cap N h (nI ((pl - 1) / 2)) hNm) (hM.pre hK hX) (hM.recv hK kb (q := cls.getD 5 (R_H, F_H, 7)) rfl) kw_205 kw_100 kw_101 kw_3 kw_102 (by decide +kernel) ⟨Nat.le_of_ble_eq_true rfl, Nat.le_of_ble_eq_true rfl⟩ rfl rfl hl.sz (by first | exact Nat.le_of_ble_eq_true rfl | simp [rf_cat] | simp [rf_cat, Value.category]) d_F_put_53 ⟨hcs.1, hcs.2⟩ rfl) hM (fun r1 u H locs hp hM => ?_)
        obtain ⟨rfl, hp⟩ := hp
        have e1 : r1 = nI (v ((pl - 1) / 2)) := by
          rcases hp with ⟨-, e⟩ | ⟨z, -⟩
          · rw [e, nI_clamp (by omega), epar]
          · exact absurd (vp_in_nI hpar (by omega)) z
        subst e1
        refine s_callv (r_V 2 [.int (nI pl), .int (nI (v ((pl - 1) / 2)))] rfl hx hb hml hown hg (m_U_set l D dA _ _ b r cap N h (nI pl) (nI (v ((pl - 1) / 2))) hNm) (hM.pre hK hX) (hM.recv hK kb (q := cls.getD 5 (R_H, F_H, 7)) rfl) kw_206 kw_207 kw_208 kw_3 kw_209 (by decide +kernel) ⟨Nat.le_of_ble_eq_true rfl, Nat.le_of_ble_eq_true rfl⟩ rfl rfl hl.sz (by first | exact Nat.le_of_ble_eq_true rfl | simp [rf_cat] | simp [rf_cat, Value.category]) d_F_put_56 ⟨hcs.1, hcs.2⟩ rfl) hM (fun u H locs hp hM => ?_)
        rcases hp with ⟨-, rfl⟩ | ⟨hz, -⟩
        · dsimp only at hM
          rw [nI_clamp (by omega)] at hM
          refine q_iload_n (i := 3) hx hb d_F_put_59 rfl hl rfl ?_
          refine q_istore_n (i := 2) hx hb d_F_put_60 rfl hl (by decide) (fun ls hl => ?_)
          simp only [List.set_cons_succ, List.set_cons_zero] at hl
          refine lv_goto (tgt := 18) hx hb d_F_put_61 (by decide) ?_
          refine ih ((pl - 1) / 2) (by omega) _ (hp_sw v pl ((pl - 1) / 2)) (fun i => if i = pl then v ((pl - 1) / 2) else h i) H locs ls hM (hl.weak ?_) ⟨kb, hrow, kr, ?_, hle, h16, hcap, fun i hi => ?_⟩ (hp_up_step hup h0 (by rw [hvp]; exact c2)) (by rw [hp_sw_q]; exact hvp) (fun i hi hne => ?_) (fun i hi => ?_) (hP v pl ((pl - 1) / 2) hpl hpar hPv) (fun z hz => by rw [up2_off _ _ hz]; exact hit z hz)
          · intro i y hy
            match i, hy with
            | 0, hy => exact hy
            | 1, hy => exact hy
            | 2, hy => exact hy
            | 3, hy => cases hy
            | i + 4, hy => cases hy
          · show up2 it r pl (nI (v ((pl - 1) / 2))) b 1 = nI N
            rw [up2_off _ _ (Nm_ne hNm)]; exact hn
          · show up2 it r pl (nI (v ((pl - 1) / 2))) r i = nI (if i = pl then v ((pl - 1) / 2) else h i)
            by_cases e : i = pl
            · rw [e, up2_self, if_pos rfl]
            · rw [up2_ne _ _ e, if_neg e]; exact hf i hi
          · show (if i = pl then v ((pl - 1) / 2) else h i) = _
            by_cases e : i = pl
            · rw [e, if_pos rfl, hp_sw_p]
            · rw [if_neg e, hp_sw_o v e hne]; exact hhv i hi e
          · by_cases e : i = pl
            · rw [e, hp_sw_p]; exact hv9 _ hpar
            · by_cases e2 : i = (pl - 1) / 2
              · rw [e2, hp_sw_q]; exact hv9 _ hpl
              · rw [hp_sw_o v e e2]; exact hv9 _ hi
        · exact absurd ks hz
      · refine lv_goto (tgt := 64) hx hb d_F_put_40 (by decide) ?_
        exact fin _ _ _ _ hM hl (Or.inr (by rw [hvp]; exact c2))
