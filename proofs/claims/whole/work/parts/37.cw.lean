/-- of those that are read, how many must be waited for -/
def wp (S : sS) (nd : Nat → Option Nat) (u : Nat) : Bool := decide (fl S nd 7 u ≠ 0 ∨ fl S nd 6 u ≠ 0)
def cnt (p : Nat → Bool) (l : List (Nat × Nat)) : Nat := (l.filter (fun x => p x.2)).length
theorem cnt_le (p : Nat → Bool) (l : List (Nat × Nat)) : cnt p l ≤ l.length := List.length_filter_le _ _
theorem cnt_take {p : Nat → Bool} {l : List (Nat × Nat)} {j k u : Nat} (h : l[j]? = some (k, u)) : cnt p (l.take (j + 1)) = cnt p (l.take j) + (if p u = true then 1 else 0) := by
  unfold cnt
  rw [List.take_add_one, h, List.filter_append, List.length_append]
  by_cases e : p u = true
  · simp [e]
  · simp [e]
set_option maxHeartbeats 4000000 in
set_option maxRecDepth 100000 in
theorem rw_loop {p : Program} {l : Launch} {e : Env} {s : State} {m : MethodId} {args : Array Value} {below : List Frame} {meth : Method} {c : Code} {D : va_G} {dA : Nat → ClassId} {A : Nat → Prop} {Q : State → Prop} (hx : p.tables.exec = Jvm.exec) (hb : c.code = c_H_readsToWaitFor) (hml : c.maxLocals = 3) (hown : s.vm.findClass R_H = some m.cls) (hg : ∀ w ∈ gd, w.before args s = true) (hK : va_K D cls (tys dA) s) (hX : sKx s) {mc ms cells slots : Nat} {S : sS} {tb pa : Nat} {nd : Nat → Option Nat} {rd sr : Nat → List (Nat × Nat)} (hG : Gr9 S tb pa nd rd sr) {v a : Nat} (hv : nd v = some a) {H : Heap} {locs : List Loc} (hM : SW D dA A s.heap S H locs) (hlen : (rd v).length < 2 ^ 31)
    (kk : ∀ (ls : Array Slot) (o : Option Value), lc ls 3 [some (va_rf (some a)), some (.int (nI (cnt (wp S nd) (rd v)))), o] → W p l e (rmk 0 mc ms) s m args below meth c H locs cells slots Q (F0 m 42 ls [])) :
    ∀ (d j : Nat) (ls : Array Slot), j + d = (rd v).length → lc ls 3 [some (va_rf (some a)), some (.int (nI (cnt (wp S nd) ((rd v).take j)))), some (va_rf (((rd v).map Prod.fst)[j]?))] → W p l e (rmk 0 mc ms) s m args below meth c H locs cells slots Q (F0 m 7 ls []) := by
  obtain ⟨kd, rf, it, lg⟩ := S
  intro d
  induction d with
  | zero =>
    intro j ls hj hl
    have e : ((rd v).map Prod.fst)[j]? = none := List.getElem?_eq_none (by rw [List.length_map]; omega)
    have e2 : (rd v).take j = rd v := List.take_of_length_le (by omega)
    rw [e, e2] at hl
    refine q_al_n (i := 2) hx hb d_H_readsToWaitFor_7 rfl hl rfl ?_
    refine q_ifnull (tgt := 42) hx hb d_H_readsToWaitFor_8 (by decide) (fun c1 => ?_) (fun y c1 => ?_)
    · exact kk ls _ hl
    · cases c1
  | succ d ih =>
    intro j ls hj hl
    have hjl : j < ((rd v).map Prod.fst).length := by rw [List.length_map]; omega
    obtain ⟨lk, elk⟩ : ∃ lk, ((rd v).map Prod.fst)[j]? = some lk := ⟨_, List.getElem?_eq_getElem hjl⟩
    obtain ⟨x, ex⟩ := ml_at elk
    obtain ⟨klk, -, ⟨b, hb9, r1⟩, -⟩ := hG.2.2.2.1 v lk x (List.mem_of_getElem? ex)
    dsimp only at klk r1
    have r3 : rf lk 3 = ((rd v).map Prod.fst)[j + 1]? := ((hG.2.1 v a hv).1.2 j lk elk).1
    obtain ⟨-, kb, -⟩ := hG.nk hb9
    dsimp only at kb
    have f7 : fl (kd, rf, it, lg) nd 7 x = it b 7 := fl_at hb9
    have f6 : fl (kd, rf, it, lg) nd 6 x = it b 6 := fl_at hb9
    have ec := cnt_take (p := wp (kd, rf, it, lg) nd) ex
    have hcl : cnt (wp (kd, rf, it, lg) nd) ((rd v).take j) ≤ j := by
      have := cnt_le (wp (kd, rf, it, lg) nd) ((rd v).take j)
      rw [List.length_take] at this; omega
    rw [elk] at hl
    have tail : ∀ (ls : Array Slot) (n : Nat), n = cnt (wp (kd, rf, it, lg) nd) ((rd v).take (j + 1)) → lc ls 3 [some (va_rf (some a)), some (.int (nI n)), some (va_rf (some lk))] → W p l e (rmk 0 mc ms) s m args below meth c H locs cells slots Q (F0 m 34 ls []) := by
      intro ls n hn hl
      rw [hn] at hl
      refine q_al_n (i := 2) hx hb d_H_readsToWaitFor_34 rfl hl rfl ?_
      refine s_getr (C := R_K) (T := F_K) (N := 6) (ci := 4) hx hb hg in_K hown hK hM klk rfl 3 (by decide) rfl (hg _ kw_383) (fun _ h9 => h9) d_H_readsToWaitFor_35 ?_
      rw [r3]
      refine q_astore_n (i := 2) hx hb (_) d_H_readsToWaitFor_38 rfl hl (by decide) (fun ls hl => ?_)
      simp only [List.set_cons_succ, List.set_cons_zero] at hl
      refine lv_goto (tgt := 7) hx hb d_H_readsToWaitFor_39 (by decide) ?_
      exact ih (j + 1) ls (by omega) hl
    have inc : ∀ (ls : Array Slot), wp (kd, rf, it, lg) nd x = true → lc ls 3 [some (va_rf (some a)), some (.int (nI (cnt (wp (kd, rf, it, lg) nd) ((rd v).take j)))), some (va_rf (some lk))] → W p l e (rmk 0 mc ms) s m args below meth c H locs cells slots Q (F0 m 31 ls []) := by
      intro ls hw hl
      refine q_iinc hx hb (nI (cnt (wp (kd, rf, it, lg) nd) ((rd v).take j) + 1)) d_H_readsToWaitFor_31 hl rfl (nI_1 _) (by decide) (fun ls hl => ?_)
      simp only [List.set_cons_succ, List.set_cons_zero] at hl
      exact tail ls _ (by rw [ec, if_pos hw]) hl
    refine q_al_n (i := 2) hx hb d_H_readsToWaitFor_7 rfl hl rfl ?_
    refine q_ifnull (tgt := 42) hx hb d_H_readsToWaitFor_8 (by decide) (fun c1 => ?_) (fun y c1 => ?_)
    · cases c1
    · refine q_al_n (i := 2) hx hb d_H_readsToWaitFor_11 rfl hl rfl ?_
      refine s_getr (C := R_K) (T := F_K) (N := 6) (ci := 4) hx hb hg in_K hown hK hM klk rfl 1 (by decide) rfl (hg _ kw_380) (fun _ h9 => h9) d_H_readsToWaitFor_12 ?_
      rw [r1]
      refine s_geti (C := R_N) (T := F_N) (N := 9) (ci := 3) hx hb hg in_N hown hK hM kb rfl 7 (by decide) rfl (hg _ kw_144) (fun _ h9 => h9) d_H_readsToWaitFor_15 ?_
      refine lv_if_ne (tgt := 31) hx hb d_H_readsToWaitFor_18 (by decide) (fun c2 => ?_) (fun c2 => ?_)
      · exact inc ls (decide_eq_true (Or.inl (by rw [f7]; exact c2))) hl
      · refine q_al_n (i := 2) hx hb d_H_readsToWaitFor_21 rfl hl rfl ?_
        refine s_getr (C := R_K) (T := F_K) (N := 6) (ci := 4) hx hb hg in_K hown hK hM klk rfl 1 (by decide) rfl (hg _ kw_380) (fun _ h9 => h9) d_H_readsToWaitFor_22 ?_
        rw [r1]
        refine s_geti (C := R_N) (T := F_N) (N := 9) (ci := 3) hx hb hg in_N hown hK hM kb rfl 6 (by decide) rfl (hg _ kw_143) (fun _ h9 => h9) d_H_readsToWaitFor_25 ?_
        refine lv_if_eq (tgt := 34) hx hb d_H_readsToWaitFor_28 (by decide) (fun c3 => ?_) (fun c3 => ?_)
        · refine tail ls _ ?_ hl
          rw [ec, if_neg]
          · rfl
          · intro z
            rcases of_decide_eq_true z with y | y
            · rw [f7] at y; exact y c2
            · rw [f6] at y; exact y c3
        · exact inc ls (decide_eq_true (Or.inr (by rw [f6]; exact c3))) hl
set_option maxHeartbeats 4000000 in
set_option maxRecDepth 100000 in
theorem m_H_readsToWaitFor (l : Launch) (D : va_G) (dA : Nat → ClassId) (S : sS) (sz : Nat) (tb pa : Nat) (nd : Nat → Option Nat) (rd sr : Nat → List (Nat × Nat)) (v a : Nat) (hG : Gr9 S tb pa nd rd sr) (hv : nd v = some a) (hlen : (rd v).length < 2 ^ 31) :
    cI l y_H_readsToWaitFor c_H_readsToWaitFor 3 (some .int) (rmk 0 0 0) D dA S sz [.ref a] (fun x u => u = S ∧ x = nI (cnt (wp S nd) (rd v))) (0) (0) := by
  obtain ⟨kd, rf, it, lg⟩ := S
  have ka := (hG.nk hv).2.1
  have h1 : rf a 1 = ((rd v).map Prod.fst)[0]? := (hG.2.1 v a hv).1.1
  dsimp only at ka
  refine s_met (cc := c_H_readsToWaitFor) (maxL := 3) (by decide) rfl (by simp [Value.category]) (by simp [lg_sl, Value.category]) ?_
  intro p e s m args below meth c ls hx hb hr hts hown hlocks hin hml hK hX hsz hM hl
  have hg := gd_hts hts
  have hl : lc ls 3 [some (va_rf (some a)), none, none] := hl
  refine lv_iconst (v := nI 0) hx hb d_H_readsToWaitFor_0 (by decide) ?_
  refine q_istore_n (i := 1) hx hb d_H_readsToWaitFor_1 rfl hl (by decide) (fun ls hl => ?_)
  simp only [List.set_cons_succ, List.set_cons_zero] at hl
  refine q_al_n (i := 0) hx hb d_H_readsToWaitFor_2 rfl hl rfl ?_
  refine s_getr (C := R_N) (T := F_N) (N := 9) (ci := 3) hx hb hg in_N hown hK hM ka rfl 1 (by decide) rfl (hg _ kw_135) (fun _ h9 => h9) d_H_readsToWaitFor_3 ?_
  rw [h1]
  refine q_astore_n (i := 2) hx hb (_) d_H_readsToWaitFor_6 rfl hl (by decide) (fun ls hl => ?_)
  simp only [List.set_cons_succ, List.set_cons_zero] at hl
  refine rw_loop hx hb hml hown hg hK hX hG hv hM hlen ?_ (rd v).length 0 ls (by omega) hl
  intro ls o hl
  refine q_iload_n (i := 1) hx hb d_H_readsToWaitFor_42 rfl hl rfl ?_
  exact s_iret hx hb hr hM ⟨rfl, rfl⟩ d_H_readsToWaitFor_43 hlocks
/-- the heap of the ready ones: n4 numbers v4 -/
def Wz (S : sS) (h0 tb pa q : Nat) (na : Nat → Nat) (nd : Nat → Option Nat) (rd sr : Nat → List (Nat × Nat)) (nr nc nn : Nat → Nat) (nf : Nat → Nat → Nat) (r4 c4 n4 : Nat) (v4 : Nat → Nat) : Prop :=
  Mz S h0 tb pa q na nd rd sr (va_up nr 3 r4) (va_up nc 3 c4) (va_up nn 3 n4) (va_up nf 3 v4) ∧ hp_ok v4 n4 ∧ hp_inj v4 n4 ∧ (∀ i, i < n4 → nd (v4 i) ≠ none) ∧ pw (c4)
theorem Wz_lf {S : sS} {h0 tb pa q : Nat} {na : Nat → Nat} {nd : Nat → Option Nat} {rd sr : Nat → List (Nat × Nat)} {nr nc nn : Nat → Nat} {nf : Nat → Nat → Nat} {r4 c4 n4 : Nat} {v4 : Nat → Nat} (h : Wz S h0 tb pa q na nd rd sr nr nc nn nf r4 c4 n4 v4) : Lf S q (na 3) r4 c4 n4 v4 := by
  have := h.1.2.2.2.1 3 (by decide)
  simp only [va_up_self] at this
  exact ⟨h.1.2.1.1, h.1.2.1.2, this⟩
theorem Wz_lt {S : sS} {h0 tb pa q : Nat} {na : Nat → Nat} {nd : Nat → Option Nat} {rd sr : Nat → List (Nat × Nat)} {nr nc nn : Nat → Nat} {nf : Nat → Nat → Nat} {r4 c4 n4 : Nat} {v4 : Nat → Nat} (h : Wz S h0 tb pa q na nd rd sr nr nc nn nf r4 c4 n4 v4) : ∀ i, i < n4 → v4 i < 16384 := by
  intro i hi
  obtain ⟨a, ha⟩ := Option.ne_none_iff_exists'.mp (h.2.2.2.1 i hi)
  exact (h.1.2.2.1.nk ha).1
theorem Wz_put {S u : sS} {h0 tb pa q : Nat} {na : Nat → Nat} {nd : Nat → Option Nat} {rd sr : Nat → List (Nat × Nat)} {nr nc nn : Nat → Nat} {nf : Nat → Nat → Nat} {r4 c4 n4 : Nat} {v4 : Nat → Nat} (h : Wz S h0 tb pa q na nd rd sr nr nc nn nf r4 c4 n4 v4) (hL : fewN nd 1024) {x : Nat} (hx : nd x ≠ none) (hP : PutP S q (na 3) r4 c4 n4 v4 x u) :
    ∃ r' c' v', Wz u h0 tb pa q na nd rd sr nr nc nn nf r' c' (n4 + 1) v' ∧ (∀ y, hp_set v' (n4 + 1) y ↔ hp_set v4 n4 y ∨ y = x) ∧ (∀ j w, fl u nd j w = fl S nd j w) ∧ (∀ j, u.2.2.1 h0 j = S.2.2.1 h0 j) ∧ c4 / 16 + (if n4 < c4 then 0 else 1) ≤ c' / 16 ∧ 2 * c4 + (if n4 < c4 then 0 else 2 * n4) ≤ 2 * c' := by
  obtain ⟨r', c', v', hLf, hok, ⟨hs, hinj, -⟩, hF, hr', hc', -⟩ := hP
  have hN := (Wz_lf h).2.2
  have hle := hN.2.2.2.2.1
  have h16 := hN.2.2.2.2.2.1
  have hF2 : sFr S u (fun z => z = na 3 ∨ z = va_up nr 3 r4 3) := by rw [va_up_self]; exact hF
  have hr2 : r' = va_up nr 3 r4 3 ∨ S.1 r' = none := by rw [va_up_self]; exact hr'
  obtain ⟨m1, m2, m3⟩ := Mz_num h.1 (i := 3) (by decide) hLf.2.2 hF2 hr2
  simp only [bx_uu] at m1
  have hnd : ∀ i, i < n4 + 1 → nd (v' i) ≠ none := by
    intro i hi
    rcases (hs (v' i)).mp ⟨i, hi, rfl⟩ with ⟨k, hk, e⟩ | e
    · rw [← e]; exact h.2.2.2.1 k hk
    · rw [e]; exact hx
  have hle9 := few_le hL hinj hnd
  refine ⟨r', c', v', ⟨m1, hok, hinj, hnd, ?_⟩, hs, m2, m3, ?_, ?_⟩
  · have := h.2.2.2.2; rw [hc']; split <;> omega
  · rw [hc']
    by_cases e : n4 < c4
    · rw [if_pos e, if_pos e]; omega
    · rw [if_neg e, if_neg e]; omega
  · rw [hc']
    by_cases e : n4 < c4
    · rw [if_pos e, if_pos e]; omega
    · rw [if_neg e, if_neg e]; omega
theorem Wz_take {S u : sS} {h0 tb pa q : Nat} {na : Nat → Nat} {nd : Nat → Option Nat} {rd sr : Nat → List (Nat × Nat)} {nr nc nn : Nat → Nat} {nf : Nat → Nat → Nat} {r4 c4 n4 : Nat} {v4 : Nat → Nat} {x : Int32} (h : Wz S h0 tb pa q na nd rd sr nr nc nn nf r4 c4 n4 v4) (hP : TakeP S q (na 3) r4 c4 n4 v4 x u) :
    x = nI (v4 0) ∧ ∃ v', Wz u h0 tb pa q na nd rd sr nr nc nn nf r4 c4 (n4 - 1) v' ∧ (∀ y, hp_set v' (n4 - 1) y ↔ hp_set v4 n4 y ∧ y ≠ v4 0) ∧ (∀ j w, fl u nd j w = fl S nd j w) ∧ ∀ j, u.2.2.1 h0 j = S.2.2.1 h0 j := by
  obtain ⟨hx, -, v', hLf, hok, ⟨hs, hinj, -⟩, hF⟩ := hP
  have hF2 : sFr S u (fun z => z = na 3 ∨ z = va_up nr 3 r4 3) := by rw [va_up_self]; exact hF
  obtain ⟨m1, m2, m3⟩ := Mz_num h.1 (i := 3) (by decide) hLf.2.2 hF2 (Or.inl (va_up_self _ _ _).symm)
  simp only [bx_uu] at m1
  refine ⟨hx, v', ⟨m1, hok, hinj, fun i hi => ?_, h.2.2.2.2⟩, hs, m2, m3⟩
  obtain ⟨⟨k, hk, e⟩, -⟩ := (hs (v' i)).mp ⟨i, hi, rfl⟩
  rw [← e]; exact h.2.2.2.1 k hk
