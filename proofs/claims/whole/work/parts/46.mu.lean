theorem fewN_up {nd : Nat → Option Nat} {m v a : Nat} (h : fewN nd m) : fewN (va_up nd v (some a)) (m + 1) := by
  obtain ⟨L, h1, h2⟩ := h
  refine ⟨v :: L, by rw [List.length_cons]; omega, fun w hw => ?_⟩
  by_cases e : w = v
  · rw [e]; exact List.mem_cons_self
  · rw [va_up_ne _ _ e] at hw; exact List.mem_cons_of_mem _ (h2 w hw)
theorem Mz_of {S u : sS} {h0 tb pa q : Nat} {na : Nat → Nat} {nd : Nat → Option Nat} {rd sr : Nat → List (Nat × Nat)} {nr nc nn : Nat → Nat} {nf : Nat → Nat → Nat} (h : Mz S h0 tb pa q na nd rd sr nr nc nn nf) {j a : Nat} (hO : OfP S tb pa nd j a u) : Mz u h0 tb pa q na (va_up nd j (some a)) rd sr nr nc nn nf ∧ (∀ i v, i ≠ 0 → fl u (va_up nd j (some a)) i v = fl S nd i v) ∧ (∀ v b, nd v = some b → va_up nd j (some a) v = some b) ∧ ∀ i, u.2.2.1 h0 i = S.2.2.1 h0 i := by
  obtain ⟨g1, g2, g3⟩ := Gr9_of h.2.2.1 hO
  obtain ⟨m1, m2⟩ := Mz_gr h (hO.2.2.1.weak (fun b _ z => Or.inr z)) g1
  exact ⟨m1, g2, g3, m2⟩
theorem Mz_new {S : sS} {h0 tb pa q : Nat} {na : Nat → Nat} {nd : Nat → Option Nat} {rd sr : Nat → List (Nat × Nat)} {nr nc nn : Nat → Nat} {nf : Nat → Nat → Nat} (h : Mz S h0 tb pa q na nd rd sr nr nc nn nf) {k : Nat} {K : sK} (hk : S.1 k = none) : Mz (sNew S k K) h0 tb pa q na nd rd sr nr nc nn nf ∧ (∀ i v, fl (sNew S k K) nd i v = fl S nd i v) ∧ ∀ i, (sNew S k K).2.2.1 h0 i = S.2.2.1 h0 i := by
  have keep : ∀ b, S.1 b ≠ none → (sNew S k K).1 b = S.1 b ∧ (sNew S k K).2.1 b = S.2.1 b ∧ (sNew S k K).2.2.1 b = S.2.2.1 b ∧ (sNew S k K).2.2.2 b = S.2.2.2 b := by
    intro b hb
    have e : b ≠ k := fun z => hb (by rw [z]; exact hk)
    exact ⟨va_up_ne _ _ e, upr_off _ _ e, upr_off _ _ e, upr_off _ _ e⟩
  have hG : Gr9 (sNew S k K) tb pa nd rd sr := Gr9_dep h.2.2.1 (fun b c hb _ => ⟨(keep b (sk_nn hb)).1, (keep b (sk_nn hb)).2.1⟩) (fun v a hv i _ => by rw [(keep a (sk_nn (h.2.2.1.nk hv).2.1)).2.2.1])
  obtain ⟨m1, m2⟩ := Mz_gr h (u := sNew S k K) (fun b hb => ⟨(keep b hb).1, fun _ => (keep b hb).2⟩) hG
  refine ⟨m1, fun i v => ?_, m2⟩
  cases hv : nd v with
  | none => rw [fl_no hv, fl_no hv]
  | some b => rw [fl_at hv, fl_at hv, (keep b (sk_nn (h.2.2.1.nk hv).2.1)).2.2.1]
/-- markTouched, in the world's words -/
theorem touch_step {S u : sS} {h0 tb pa q : Nat} {na : Nat → Nat} {nd : Nat → Option Nat} {rd sr : Nat → List (Nat × Nat)} {nr nc nn : Nat → Nat} {nf : Nat → Nat → Nat} {T : Nat → Prop} (h : Mz S h0 tb pa q na nd rd sr nr nc nn nf) (hL : fewN nd 1024) (t1 : hp_inj (nf 0) (nn 0)) (t2 : ∀ i, i < nn 0 → nd (nf 0 i) ≠ none) (t3 : ∀ v, T v ↔ hp_set (nf 0) (nn 0) v) (f5 : ∀ v, (T v → fl S nd 5 v = 1) ∧ (¬ T v → fl S nd 5 v = 0)) (hc : pw (nc 0)) {v a : Nat} (hv : nd v = some a) (hm : MarkTouchedP S a (na 0) (nr 0) (nc 0) (nn 0) (nf 0) v u) :
    ∃ nr' nc' nn' nf', Mz u h0 tb pa q na nd rd sr nr' nc' nn' nf' ∧ hp_inj (nf' 0) (nn' 0) ∧ (∀ i, i < nn' 0 → nd (nf' 0 i) ≠ none) ∧ (∀ x, (T x ∨ x = v) ↔ hp_set (nf' 0) (nn' 0) x) ∧ (∀ x, ((T x ∨ x = v) → fl u nd 5 x = 1) ∧ (¬ (T x ∨ x = v) → fl u nd 5 x = 0)) ∧ pw (nc' 0) ∧ (∀ i, i ≠ 0 → nn' i = nn i ∧ nf' i = nf i ∧ nc' i = nc i) ∧ (∀ j x, j ≠ 5 → fl u nd j x = fl S nd j x) ∧ ∀ j, u.2.2.1 h0 j = S.2.2.1 h0 j := by
  have e5 : S.2.2.1 a 5 = fl S nd 5 v := (fl_at hv).symm
  rcases hm with ⟨z, rfl⟩ | ⟨z, hA⟩
  · have hT : T v := Classical.byContradiction fun y => z (by rw [e5]; exact (f5 v).2 y)
    have hTx : ∀ x, (T x ∨ x = v) ↔ T x := fun x => ⟨fun y => y.elim id (fun y => by rw [y]; exact hT), Or.inl⟩
    refine ⟨nr, nc, nn, nf, h, t1, t2, fun x => by rw [hTx, t3], fun x => by rw [hTx]; exact f5 x, hc, fun i _ => ⟨rfl, rfl, rfl⟩, fun _ _ _ => rfl, fun _ => rfl⟩
  · have hT : ¬ T v := fun y => by have := (f5 v).1 y; rw [← e5, z] at this; cases this
    have hout : ¬ hp_set (nf 0) (nn 0) v := fun y => hT ((t3 v).mpr y)
    obtain ⟨hZ2, g2⟩ := Mz_flag h hv (i := 5) (by decide) 1
    obtain ⟨r', hZ3, g3, q3⟩ := Mz_add hZ2 (i := 0) (by decide) hA
    have hg : ∀ i, i < nn 0 → (fun k => if k = nn 0 then v else nf 0 k) i = nf 0 i := fun i hi => if_neg (by omega)
    have hgn : (fun k => if k = nn 0 then v else nf 0 k) (nn 0) = v := if_pos rfl
    have hle : nn 0 ≤ nc 0 := (h.2.2.2.1 0 (by decide)).2.2.2.2.1
    have hro := inj_room hL t1 t2 (x := v) (by rw [hv]; exact fun y => by cases y) hout
    have efl : ∀ j x, fl u nd j x = if x = v ∧ j = 5 then 1 else fl S nd j x := fun j x => by rw [g3, g2]
    have hha : h0 ≠ a := sk_d h.1.1 (h.2.2.1.nk hv).2.1 (by decide)
    refine ⟨_, _, _, _, hZ3, ?_, ?_, fun x => ?_, fun x => ?_, ?_, fun i hi => ?_, fun j x hj => ?_, fun j => ?_⟩
    · rw [va_up_self, va_up_self]; exact hp_inj_push t1 hg hgn hout
    · intro i hi
      rw [va_up_self] at hi
      rw [va_up_self]
      by_cases e : i = nn 0
      · rw [if_pos e, hv]; exact fun y => by cases y
      · rw [if_neg e]; exact t2 i (by omega)
    · rw [va_up_self, va_up_self, hp_set_push hg hgn, t3]
    · rw [efl]
      by_cases e : x = v
      · rw [if_pos ⟨e, rfl⟩]; exact ⟨fun _ => rfl, fun y => absurd (Or.inr e) y⟩
      · rw [if_neg (fun y => e y.1)]
        exact ⟨fun y => (f5 x).1 (y.elim id (fun y => absurd y e)), fun y => (f5 x).2 (fun q9 => y (Or.inl q9))⟩
    · rw [va_up_self]; split <;> omega
    · rw [va_up_ne _ _ hi, va_up_ne _ _ hi, va_up_ne _ _ hi]; exact ⟨rfl, rfl, rfl⟩
    · rw [efl, if_neg (fun y => hj y.2)]
    · rw [q3]
      show up2 S.2.2.1 a 5 1 h0 j = _
      rw [up2_off _ _ hha]
theorem touch_cost {S : sS} {h0 tb pa q : Nat} {na : Nat → Nat} {nd : Nat → Option Nat} {rd sr : Nat → List (Nat × Nat)} {nr nc nn : Nat → Nat} {nf : Nat → Nat → Nat} {T : Nat → Prop} (h : Mz S h0 tb pa q na nd rd sr nr nc nn nf) (hL : fewN nd 1024) (t1 : hp_inj (nf 0) (nn 0)) (t2 : ∀ i, i < nn 0 → nd (nf 0 i) ≠ none) (t3 : ∀ v, T v ↔ hp_set (nf 0) (nn 0) v) (f5 : ∀ v, (T v → fl S nd 5 v = 1) ∧ (¬ T v → fl S nd 5 v = 0)) (hc : pw (nc 0)) {v a : Nat} (hv : nd v = some a) :
    (if S.2.2.1 a 5 = 0 ∧ ¬ nn 0 < nc 0 then 1 else 0) ≤ 1 ∧ (if S.2.2.1 a 5 = 0 ∧ ¬ nn 0 < nc 0 then 2 * nn 0 else 0) ≤ 1024 := by
  refine ⟨by split <;> omega, ?_⟩
  by_cases z : S.2.2.1 a 5 = 0 ∧ ¬ nn 0 < nc 0
  · rw [if_pos z]
    have hT : ¬ T v := fun y => by have := (f5 v).1 y; rw [fl_at hv, z.1] at this; cases this
    have hro := inj_room hL t1 t2 (x := v) (by rw [hv]; exact fun y => by cases y) (fun y => hT ((t3 v).mpr y))
    have hle : nn 0 ≤ nc 0 := (h.2.2.2.1 0 (by decide)).2.2.2.2.1
    have z2 := z.2
    omega
  · rw [if_neg z]; omega
theorem Ho_mono {S : sS} {h0 m m' : Nat} {E : Nat → Nat → Prop} {T Rg : Nat → Prop} {wl : List Nat} {rc : Nat} (h : Ho S h0 m E T Rg wl rc) (hm : m ≤ m') : Ho S h0 m' E T Rg wl rc := by
  obtain ⟨tb, pa, q, na, nd, rd, sr, nr, nc, nn, nf, hZ, hX⟩ := h
  obtain ⟨z, z1, z2, z3⟩ := hX.c5
  exact ⟨tb, pa, q, na, nd, rd, sr, nr, nc, nn, nf, hZ, hX.hE, hX.hc, fewN_le hX.hL (by omega), fun v => ⟨Nat.le_trans (hX.hlen v).1 hm, Nat.le_trans (hX.hlen v).2 hm⟩, hX.t1, hX.t2, hX.t3, hX.f5, hX.f7, hX.n3, hX.n2, hX.w2, hX.f6, hX.old, hX.c6, z, z1, by omega, by omega⟩
set_option maxHeartbeats 4000000 in
set_option maxRecDepth 100000 in
theorem m_H_requireNode (l : Launch) (D : va_G) (dA : Nat → ClassId) (S : sS) (sz : Nat) (k : Int32) (hv : vp_in k 16384) :
    cV l y_H_requireNode c_H_requireNode 1 (rmk 1 0 0) D dA S sz [.int k] (fun u => u = S) (0) (0) := by
  refine s_met (cc := c_H_requireNode) (maxL := 1) (by decide) rfl (by simp [Value.category]) (by simp [lg_sl, Value.category]) ?_
  intro p e s m args below meth c ls hx hb hr hts hown hlocks hin hml hK hX hsz hM hl
  have hg := gd_hts hts
  have hl : lc ls 1 [some (.int k)] := hl
  refine q_iload_n (i := 0) hx hb d_H_requireNode_0 rfl hl rfl ?_
  refine s_calli (r_S 1 [.int k] rfl hx hb hml hown hg (m_H_isNode l D dA _ _ k) (hM.pre hK hX) kw_266 kw_260 kw_1 kw_261 (by decide +kernel) ⟨Nat.le_of_ble_eq_true rfl, Nat.le_of_ble_eq_true rfl⟩ rfl rfl hl.sz (by first | exact Nat.le_of_ble_eq_true rfl | simp [rf_cat] | simp [rf_cat, Value.category]) d_H_requireNode_1 ⟨Nat.le_refl _, Nat.le_refl _⟩ rfl) hM (fun r1 u H locs hp hM => ?_)
  obtain ⟨rfl, hp⟩ := hp
  refine lv_if_ne (tgt := 17) hx hb d_H_requireNode_4 (by decide) (fun c1 => ?_) (fun c1 => ?_)
  · exact s_vret hx hb hr hM rfl d_H_requireNode_17 hlocks
  · rcases hp with ⟨e, -⟩ | ⟨-, z⟩
    · exact absurd c1 (by rw [e]; decide)
    · exact absurd hv z
set_option maxHeartbeats 4000000 in
set_option maxRecDepth 100000 in
theorem lb_loop {p : Program} {l : Launch} {e : Env} {s : State} {m : MethodId} {args : Array Value} {below : List Frame} {meth : Method} {c : Code} {D : va_G} {dA : Nat → ClassId} {A : Nat → Prop} {Q : State → Prop} (hx : p.tables.exec = Jvm.exec) (hb : c.code = c_H_linkBetween) (hml : c.maxLocals = 5) (hown : s.vm.findClass R_H = some m.cls) (hg : ∀ w ∈ gd, w.before args s = true) (hK : va_K D cls (tys dA) s) (hX : sKx s) {S : sS} {h0 tb pa : Nat} {nd : Nat → Option Nat} {rd sr : Nat → List (Nat × Nat)} (hG : Gr9 S tb pa nd rd sr) {v t a : Nat} (hv : nd v = some a) (ht9 : t < 16384) {H : Heap} {locs : List Loc} (hM : SW D dA A s.heap S H locs)
    (kk : ∀ (ls : Array Slot) (x : Option Nat), ((x = none ∧ ¬ rE rd v t) ∨ ∃ k, x = some k ∧ (k, t) ∈ rd v) → lc ls 5 [some (va_rf (some h0)), some (.int (nI v)), some (.int (nI t)), some (va_rf (some a)), some (va_rf x)] → W p l e (rmk 2 0 0) s m args below meth c H locs 0 0 Q (F0 m 48 ls [])) :
    ∀ (d j : Nat) (ls : Array Slot), j + d = (rd v).length → (∀ i c, i < j → (rd v)[i]? ≠ some (c, t)) → lc ls 5 [some (va_rf (some h0)), some (.int (nI v)), some (.int (nI t)), some (va_rf (some a)), some (va_rf (((rd v).map Prod.fst)[j]?))] → W p l e (rmk 2 0 0) s m args below meth c H locs 0 0 Q (F0 m 21 ls []) := by
  obtain ⟨kd, rf, it, lg⟩ := S
  intro d
  induction d with
  | zero =>
    intro j ls hj hdone hl
    have e : ((rd v).map Prod.fst)[j]? = none := List.getElem?_eq_none (by rw [List.length_map]; omega)
    rw [e] at hl
    refine q_al hx hb d_H_linkBetween_21 hl rfl ?_
    refine q_ifnull (tgt := 48) hx hb d_H_linkBetween_23 (by decide) (fun c1 => ?_) (fun y c1 => ?_)
    · refine kk ls none (Or.inl ⟨rfl, fun ⟨c9, hc⟩ => ?_⟩) hl
      obtain ⟨i, hi⟩ := List.getElem?_of_mem hc
      exact hdone i c9 (by have := (List.getElem?_eq_some_iff.mp hi).1; omega) hi
    · cases c1
  | succ d ih =>
    intro j ls hj hdone hl
    have hjl : j < ((rd v).map Prod.fst).length := by rw [List.length_map]; omega
    obtain ⟨lk, elk⟩ : ∃ lk, ((rd v).map Prod.fst)[j]? = some lk := ⟨_, List.getElem?_eq_getElem hjl⟩
    obtain ⟨x, ex⟩ := ml_at elk
    obtain ⟨klk, -, ⟨b, hb9, r1⟩, -⟩ := hG.2.2.2.1 v lk x (List.mem_of_getElem? ex)
    dsimp only at klk r1
    have r3 : rf lk 3 = ((rd v).map Prod.fst)[j + 1]? := ((hG.2.1 v a hv).1.2 j lk elk).1
    obtain ⟨hx9, kb, hib⟩ := hG.nk hb9
    dsimp only at kb hib
    rw [elk] at hl
    refine q_al hx hb d_H_linkBetween_21 hl rfl ?_
    refine q_ifnull (tgt := 48) hx hb d_H_linkBetween_23 (by decide) (fun c1 => ?_) (fun y c1 => ?_)
    · cases c1
    · refine q_al hx hb d_H_linkBetween_26 hl rfl ?_
      refine s_getr (C := R_K) (T := F_K) (N := 6) (ci := 4) hx hb hg in_K hown hK hM klk rfl 1 (by decide) rfl (hg _ kw_380) (fun _ h9 => h9) d_H_linkBetween_28 ?_
      rw [r1]
      refine s_geti (C := R_N) (T := F_N) (N := 9) (ci := 3) hx hb hg in_N hown hK hM kb rfl 0 (by decide) rfl (hg _ kw_133) (fun _ h9 => h9) d_H_linkBetween_31 ?_
      rw [hib]
      refine q_iload_n (i := 2) hx hb d_H_linkBetween_34 rfl hl rfl ?_
      refine n_eq (tgt := 48) hx hb d_H_linkBetween_35 (by decide) (by omega) (by omega) (fun c2 => ?_) (fun c2 => ?_)
      · refine kk ls (some lk) (Or.inr ⟨lk, rfl, ?_⟩) hl
        rw [← c2]; exact List.mem_of_getElem? ex
      · refine q_al hx hb d_H_linkBetween_38 hl rfl ?_
        refine s_getr (C := R_K) (T := F_K) (N := 6) (ci := 4) hx hb hg in_K hown hK hM klk rfl 3 (by decide) rfl (hg _ kw_383) (fun _ h9 => h9) d_H_linkBetween_40 ?_
        rw [r3]
        refine q_astore hx hb (_) d_H_linkBetween_43 hl (by decide) (fun ls hl => ?_)
        simp only [List.set_cons_succ, List.set_cons_zero] at hl
        refine lv_goto (tgt := 21) hx hb d_H_linkBetween_45 (by decide) ?_
        refine ih (j + 1) ls (by omega) (fun i c9 hi hz => ?_) hl
        by_cases e : i = j
        · rw [e, ex] at hz; exact c2 (congrArg Prod.snd (Option.some.inj hz))
        · exact hdone i c9 (by omega) hz
set_option maxHeartbeats 4000000 in
set_option maxRecDepth 100000 in
theorem m_H_linkBetween (l : Launch) (D : va_G) (dA : Nat → ClassId) (S : sS) (sz : Nat) (h0 tb tr fr wr q pa : Nat) (nd : Nat → Option Nat) (rd sr : Nat → List (Nat × Nat)) (v t : Nat) (hH : Hd S h0 tb tr fr wr q) (hG : Gr9 S tb pa nd rd sr) (hv9 : v < 16384) (ht9 : t < 16384) :
    cQ l y_H_linkBetween c_H_linkBetween 5 (some (.object "HangOrder$Link")) (rmk 2 0 0) D dA S sz [.ref h0, .int (nI v), .int (nI t)] (fun x u => u = S ∧ ((x = none ∧ ¬ rE rd v t) ∨ ∃ k, x = some k ∧ (k, t) ∈ rd v)) (0) (0) := by
  obtain ⟨kd, rf, it, lg⟩ := S
  obtain ⟨kh, e0, -⟩ := hH
  dsimp only at kh e0
  refine s_met (cc := c_H_linkBetween) (maxL := 5) (by decide) rfl (by simp [Value.category]) (by simp [lg_sl, Value.category]) ?_
  intro p e s m args below meth c ls hx hb hr hts hown hlocks hin hml hK hX hsz hM hl
  have hg := gd_hts hts
  have hl : lc ls 5 [some (va_rf (some h0)), some (.int (nI v)), some (.int (nI t)), none, none] := hl
  refine q_al_n (i := 0) hx hb d_H_linkBetween_0 rfl hl rfl ?_
  refine s_getr (C := R_H) (T := F_H) (N := 7) (ci := 0) hx hb hg in_H hown hK hM kh rfl 0 (by decide) rfl (hg _ kw_65) (fun _ h9 => h9) d_H_linkBetween_1 ?_
  rw [e0]
  refine q_iload_n (i := 1) hx hb d_H_linkBetween_4 rfl hl rfl ?_
  refine s_callq (r_V 1 [.int (nI v)] rfl hx hb hml hown hg (m_T_at l D dA _ _ tb pa nd (nI v) hG.1) (hM.pre hK hX) (hM.recv hK hG.1.1 (q := cls.getD 1 (R_H, F_H, 7)) rfl) kw_255 kw_256 kw_257 kw_2 kw_258 (by decide +kernel) ⟨Nat.le_of_ble_eq_true rfl, Nat.le_of_ble_eq_true rfl⟩ rfl rfl hl.sz (by first | exact Nat.le_of_ble_eq_true rfl | simp [rf_cat] | simp [rf_cat, Value.category]) d_H_linkBetween_5 ⟨Nat.le_refl _, Nat.le_refl _⟩ rfl) hM (fun r1 u H locs hp hM => ?_)
  obtain ⟨rfl, hp⟩ := hp
  have er : r1 = nd v := by
    rcases hp with ⟨-, e⟩ | ⟨z, -⟩
    · rw [e, nI_clamp (by omega)]
    · exact absurd (vp_in_nI hv9 (by omega)) z
  subst er
  refine q_astore_n (i := 3) hx hb (_) d_H_linkBetween_8 rfl hl (by decide) (fun ls hl => ?_)
  simp only [List.set_cons_succ, List.set_cons_zero] at hl
  refine q_al_n (i := 3) hx hb d_H_linkBetween_9 rfl hl rfl ?_
  refine q_ifnonnull (tgt := 15) hx hb d_H_linkBetween_10 (by decide) (fun a c1 => ?_) (fun c1 => ?_)
  · have ka := (hG.nk c1).2.1
    have h1 : rf a 1 = ((rd v).map Prod.fst)[0]? := (hG.2.1 v a c1).1.1
    dsimp only at ka
    rw [c1] at hl
    refine q_al_n (i := 3) hx hb d_H_linkBetween_15 rfl hl rfl ?_
    refine s_getr (C := R_N) (T := F_N) (N := 9) (ci := 3) hx hb hg in_N hown hK hM ka rfl 1 (by decide) rfl (hg _ kw_135) (fun _ h9 => h9) d_H_linkBetween_16 ?_
    rw [h1]
    refine q_astore hx hb (_) d_H_linkBetween_19 hl (by decide) (fun ls hl => ?_)
    simp only [List.set_cons_succ, List.set_cons_zero] at hl
    refine lb_loop hx hb hml hown hg hK hX hG c1 ht9 hM ?_ (rd v).length 0 ls (by omega) (fun i c9 hi => absurd hi (Nat.not_lt_zero i)) hl
    intro ls x hx9 hl
    refine q_al hx hb d_H_linkBetween_48 hl rfl ?_
    exact s_qret x hx hb hr (Or.inl ⟨_, rfl⟩) hM ⟨rfl, hx9⟩ d_H_linkBetween_50 hlocks
  · refine lv_null hx hb d_H_linkBetween_13 ?_
    refine s_qret none hx hb hr (Or.inl ⟨_, rfl⟩) hM ⟨rfl, Or.inl ⟨rfl, fun ⟨c9, hc⟩ => ?_⟩⟩ d_H_linkBetween_14 hlocks
    rw [((hG.2.2.1 v).2.2.2 c1).1] at hc; cases hc
