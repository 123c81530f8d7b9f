set_option maxHeartbeats 4000000 in
set_option maxRecDepth 100000 in
theorem x_H_requireNode (l : Launch) (hst : ∀ e : Env, l.admits e → e.platform.stackTraces = false) (D : va_G) (dA : Nat → ClassId) (k : Int32) (hv : ¬ vp_in k 16384) :
    MetX l y_H_requireNode (.code y_H_requireNode c_H_requireNode 1 none :: gd) (rmk 6 1 6) (va_Pc [.int k] (xP D dA)) := by
  refine x_met (cc := c_H_requireNode) (maxL := 1) (by decide) rfl (by simp [Value.category]) (by simp [lg_sl, Value.category]) ?_
  intro p e s m args below meth c ls hx hb hts hown hlocks hml hex hK hX hT hM hl
  have hg := gd_hts hts
  have hl : lc ls 1 [some (.int k)] := hl
  refine q_iload_n (i := 0) hx hb d_H_requireNode_0 rfl hl rfl ?_
  refine s_calli (r_S 1 [.int k] rfl hx hb hml hown hg (m_H_isNode l D dA _ _ k) (hM.pre hK hX) kw_266 kw_260 kw_1 kw_261 (by decide +kernel) ⟨Nat.le_of_ble_eq_true rfl, Nat.le_of_ble_eq_true rfl⟩ rfl rfl hl.sz (by first | exact Nat.le_of_ble_eq_true rfl | simp [rf_cat] | simp [rf_cat, Value.category]) d_H_requireNode_1 ⟨Nat.le_of_ble_eq_true rfl, Nat.le_of_ble_eq_true rfl⟩ rfl) hM (fun r1 u H locs hp hM => ?_)
  obtain ⟨rfl, hp⟩ := hp
  refine va_forget (fun q9 hq9 => (hM.locs q9 hq9).elim (fun z => absurd rfl z) id) ?_
  have hold : ∀ (q : Nat) (cell : Cell), s.heap[q]? = some cell → H[q]? = some cell := fun q cell hq => by
    obtain ⟨-, ws9, -, -, -, hS9⟩ := hM
    have hlt := (Array.getElem?_eq_some_iff.mp hq).1
    rw [hS9.2.1 q hlt (fun z => z.elim (fun y => absurd rfl y) (fun y => absurd y (Nat.not_le.mpr hlt)))]
    exact hq
  have hszH : s.heap.size ≤ H.size := by
    obtain ⟨-, ws9, -, -, -, hS9⟩ := hM
    exact hS9.1
  refine lv_if_ne (tgt := 17) hx hb d_H_requireNode_4 (by decide) (fun c1 => ?_) (fun c1 => ?_)
  · rcases hp with ⟨-, z⟩ | ⟨z, -⟩
    · exact absurd z hv
    · exact absurd z c1
  · obtain ⟨cX, c4, f3, -, -⟩ := Cond.castable_spec (va_Nw.use (A := args) rfl hT.2.1)
    refine W.newcK hx hb hown (hg _ kw_283) (hg _ kw_284) (hg _ kw_9) rfl d_H_requireNode_7 (Nat.le_of_ble_eq_true rfl) (Nat.le_of_ble_eq_true rfl) f3 rfl fun H1 kC hkC e1 z1 o1 => ?_
    refine lv_dup hx hb d_H_requireNode_10 rfl ?_
    exact x_throw hx hb hml hown hlocks hex hst hg hT f3 hkC e1 hszH hl.sz ⟨rfl, rfl⟩ d_H_requireNode_11 d_H_requireNode_13 d_H_requireNode_16
set_option maxHeartbeats 4000000 in
set_option maxRecDepth 100000 in
theorem x_H_clear (l : Launch) (hst : ∀ e : Env, l.admits e → e.platform.stackTraces = false) (D : va_G) (dA : Nat → ClassId) (h0 : Nat) (k : Int32) (hv : ¬ vp_in k 16384) :
    MetX l y_H_clear (.code y_H_clear c_H_clear 6 (some .int) :: gd) (rmk 7 1 6) (va_Pc [.ref h0, .int k] (xP D dA)) := by
  refine x_met (cc := c_H_clear) (maxL := 6) (by decide) rfl (by simp [Value.category]) (by simp [lg_sl, Value.category]) ?_
  intro p e s m args below meth c ls hx hb hts hown hlocks hml hex hK hX hT hM hl
  have hg := gd_hts hts
  have hl : lc ls 6 [some (va_rf (some h0)), some (.int k), none, none, none, none] := hl
  have hold : ∀ (q : Nat) (cell : Cell), s.heap[q]? = some cell → s.heap[q]? = some cell := fun _ _ h => h
  have hszH : s.heap.size ≤ s.heap.size := Nat.le_refl _
  refine q_iload_n (i := 1) hx hb d_H_clear_0 rfl hl rfl ?_
  exact x_S 1 [.int k] rfl hx hb hml hown hlocks hex hg (x_H_requireNode l hst D dA k hv) hK hX hT hold hszH kw_280 kw_281 kw_1 kw_282 (by decide +kernel) ⟨Nat.le_of_ble_eq_true rfl, Nat.le_of_ble_eq_true rfl⟩ ⟨rfl, rfl⟩ hl.sz (by first | exact Nat.le_of_ble_eq_true rfl | simp [rf_cat, Value.category]) d_H_clear_1 ⟨Nat.le_of_ble_eq_true rfl, Nat.le_of_ble_eq_true rfl⟩ rfl
set_option maxHeartbeats 4000000 in
set_option maxRecDepth 100000 in
theorem x_H_touch (l : Launch) (hst : ∀ e : Env, l.admits e → e.platform.stackTraces = false) (D : va_G) (dA : Nat → ClassId) (h0 : Nat) (k : Int32) (hv : ¬ vp_in k 16384) :
    MetX l y_H_touch (.code y_H_touch c_H_touch 2 none :: gd) (rmk 7 1 6) (va_Pc [.ref h0, .int k] (xP D dA)) := by
  refine x_met (cc := c_H_touch) (maxL := 2) (by decide) rfl (by simp [Value.category]) (by simp [lg_sl, Value.category]) ?_
  intro p e s m args below meth c ls hx hb hts hown hlocks hml hex hK hX hT hM hl
  have hg := gd_hts hts
  have hl : lc ls 2 [some (va_rf (some h0)), some (.int k)] := hl
  have hold : ∀ (q : Nat) (cell : Cell), s.heap[q]? = some cell → s.heap[q]? = some cell := fun _ _ h => h
  have hszH : s.heap.size ≤ s.heap.size := Nat.le_refl _
  refine q_iload_n (i := 1) hx hb d_H_touch_0 rfl hl rfl ?_
  exact x_S 1 [.int k] rfl hx hb hml hown hlocks hex hg (x_H_requireNode l hst D dA k hv) hK hX hT hold hszH kw_280 kw_281 kw_1 kw_282 (by decide +kernel) ⟨Nat.le_of_ble_eq_true rfl, Nat.le_of_ble_eq_true rfl⟩ ⟨rfl, rfl⟩ hl.sz (by first | exact Nat.le_of_ble_eq_true rfl | simp [rf_cat, Value.category]) d_H_touch_1 ⟨Nat.le_of_ble_eq_true rfl, Nat.le_of_ble_eq_true rfl⟩ rfl
set_option maxHeartbeats 4000000 in
set_option maxRecDepth 100000 in
theorem x_H_link (l : Launch) (hst : ∀ e : Env, l.admits e → e.platform.stackTraces = false) (D : va_G) (dA : Nat → ClassId) (h0 : Nat) (k t : Int32) (hv : ¬ (vp_in k 16384 ∧ vp_in t 16384)) :
    MetX l y_H_link (.code y_H_link c_H_link 4 (some .boolean) :: gd) (rmk 7 1 6) (va_Pc [.ref h0, .int k, .int t] (xP D dA)) := by
  refine x_met (cc := c_H_link) (maxL := 4) (by decide) rfl (by simp [Value.category]) (by simp [lg_sl, Value.category]) ?_
  intro p e s m args below meth c ls hx hb hts hown hlocks hml hex hK hX hT hM hl
  have hg := gd_hts hts
  have hl : lc ls 4 [some (va_rf (some h0)), some (.int k), some (.int t), none] := hl
  by_cases hk : vp_in k 16384
  · have ht : ¬ vp_in t 16384 := fun z => hv ⟨hk, z⟩
    refine q_iload_n (i := 1) hx hb d_H_link_0 rfl hl rfl ?_
    refine s_callv (r_S 1 [.int k] rfl hx hb hml hown hg (m_H_requireNode l D dA _ _ k hk) (hM.pre hK hX) kw_280 kw_281 kw_1 kw_282 (by decide +kernel) ⟨Nat.le_of_ble_eq_true rfl, Nat.le_of_ble_eq_true rfl⟩ rfl rfl hl.sz (by first | exact Nat.le_of_ble_eq_true rfl | simp [rf_cat] | simp [rf_cat, Value.category]) d_H_link_1 ⟨Nat.le_of_ble_eq_true rfl, Nat.le_of_ble_eq_true rfl⟩ rfl) hM (fun u H locs hp hM => ?_)
    subst hp
    refine va_forget (fun q9 hq9 => (hM.locs q9 hq9).elim (fun z => absurd rfl z) id) ?_
    have hold : ∀ (q : Nat) (cell : Cell), s.heap[q]? = some cell → H[q]? = some cell := fun q cell hq => by
      obtain ⟨-, ws9, -, -, -, hS9⟩ := hM
      have hlt := (Array.getElem?_eq_some_iff.mp hq).1
      rw [hS9.2.1 q hlt (fun z => z.elim (fun y => absurd rfl y) (fun y => absurd y (Nat.not_le.mpr hlt)))]
      exact hq
    have hszH : s.heap.size ≤ H.size := by
      obtain ⟨-, ws9, -, -, -, hS9⟩ := hM
      exact hS9.1
    refine q_iload_n (i := 2) hx hb d_H_link_4 rfl hl rfl ?_
    exact x_S 1 [.int t] rfl hx hb hml hown hlocks hex hg (x_H_requireNode l hst D dA t ht) hK hX hT hold hszH kw_280 kw_281 kw_1 kw_282 (by decide +kernel) ⟨Nat.le_of_ble_eq_true rfl, Nat.le_of_ble_eq_true rfl⟩ ⟨rfl, rfl⟩ hl.sz (by first | exact Nat.le_of_ble_eq_true rfl | simp [rf_cat, Value.category]) d_H_link_5 ⟨Nat.le_of_ble_eq_true rfl, Nat.le_of_ble_eq_true rfl⟩ rfl
  · have hold : ∀ (q : Nat) (cell : Cell), s.heap[q]? = some cell → s.heap[q]? = some cell := fun _ _ h => h
    have hszH : s.heap.size ≤ s.heap.size := Nat.le_refl _
    refine q_iload_n (i := 1) hx hb d_H_link_0 rfl hl rfl ?_
    exact x_S 1 [.int k] rfl hx hb hml hown hlocks hex hg (x_H_requireNode l hst D dA k hk) hK hX hT hold hszH kw_280 kw_281 kw_1 kw_282 (by decide +kernel) ⟨Nat.le_of_ble_eq_true rfl, Nat.le_of_ble_eq_true rfl⟩ ⟨rfl, rfl⟩ hl.sz (by first | exact Nat.le_of_ble_eq_true rfl | simp [rf_cat, Value.category]) d_H_link_1 ⟨Nat.le_of_ble_eq_true rfl, Nat.le_of_ble_eq_true rfl⟩ rfl
set_option maxHeartbeats 4000000 in
set_option maxRecDepth 100000 in
theorem x_H_unlink (l : Launch) (hst : ∀ e : Env, l.admits e → e.platform.stackTraces = false) (D : va_G) (dA : Nat → ClassId) (h0 : Nat) (k t : Int32) (hv : ¬ (vp_in k 16384 ∧ vp_in t 16384)) :
    MetX l y_H_unlink (.code y_H_unlink c_H_unlink 4 (some .boolean) :: gd) (rmk 7 1 6) (va_Pc [.ref h0, .int k, .int t] (xP D dA)) := by
  refine x_met (cc := c_H_unlink) (maxL := 4) (by decide) rfl (by simp [Value.category]) (by simp [lg_sl, Value.category]) ?_
  intro p e s m args below meth c ls hx hb hts hown hlocks hml hex hK hX hT hM hl
  have hg := gd_hts hts
  have hl : lc ls 4 [some (va_rf (some h0)), some (.int k), some (.int t), none] := hl
  by_cases hk : vp_in k 16384
  · have ht : ¬ vp_in t 16384 := fun z => hv ⟨hk, z⟩
    refine q_iload_n (i := 1) hx hb d_H_unlink_0 rfl hl rfl ?_
    refine s_callv (r_S 1 [.int k] rfl hx hb hml hown hg (m_H_requireNode l D dA _ _ k hk) (hM.pre hK hX) kw_280 kw_281 kw_1 kw_282 (by decide +kernel) ⟨Nat.le_of_ble_eq_true rfl, Nat.le_of_ble_eq_true rfl⟩ rfl rfl hl.sz (by first | exact Nat.le_of_ble_eq_true rfl | simp [rf_cat] | simp [rf_cat, Value.category]) d_H_unlink_1 ⟨Nat.le_of_ble_eq_true rfl, Nat.le_of_ble_eq_true rfl⟩ rfl) hM (fun u H locs hp hM => ?_)
    subst hp
    refine va_forget (fun q9 hq9 => (hM.locs q9 hq9).elim (fun z => absurd rfl z) id) ?_
    have hold : ∀ (q : Nat) (cell : Cell), s.heap[q]? = some cell → H[q]? = some cell := fun q cell hq => by
      obtain ⟨-, ws9, -, -, -, hS9⟩ := hM
      have hlt := (Array.getElem?_eq_some_iff.mp hq).1
      rw [hS9.2.1 q hlt (fun z => z.elim (fun y => absurd rfl y) (fun y => absurd y (Nat.not_le.mpr hlt)))]
      exact hq
    have hszH : s.heap.size ≤ H.size := by
      obtain ⟨-, ws9, -, -, -, hS9⟩ := hM
      exact hS9.1
    refine q_iload_n (i := 2) hx hb d_H_unlink_4 rfl hl rfl ?_
    exact x_S 1 [.int t] rfl hx hb hml hown hlocks hex hg (x_H_requireNode l hst D dA t ht) hK hX hT hold hszH kw_280 kw_281 kw_1 kw_282 (by decide +kernel) ⟨Nat.le_of_ble_eq_true rfl, Nat.le_of_ble_eq_true rfl⟩ ⟨rfl, rfl⟩ hl.sz (by first | exact Nat.le_of_ble_eq_true rfl | simp [rf_cat, Value.category]) d_H_unlink_5 ⟨Nat.le_of_ble_eq_true rfl, Nat.le_of_ble_eq_true rfl⟩ rfl
  · have hold : ∀ (q : Nat) (cell : Cell), s.heap[q]? = some cell → s.heap[q]? = some cell := fun _ _ h => h
    have hszH : s.heap.size ≤ s.heap.size := Nat.le_refl _
    refine q_iload_n (i := 1) hx hb d_H_unlink_0 rfl hl rfl ?_
    exact x_S 1 [.int k] rfl hx hb hml hown hlocks hex hg (x_H_requireNode l hst D dA k hk) hK hX hT hold hszH kw_280 kw_281 kw_1 kw_282 (by decide +kernel) ⟨Nat.le_of_ble_eq_true rfl, Nat.le_of_ble_eq_true rfl⟩ ⟨rfl, rfl⟩ hl.sz (by first | exact Nat.le_of_ble_eq_true rfl | simp [rf_cat, Value.category]) d_H_unlink_1 ⟨Nat.le_of_ble_eq_true rfl, Nat.le_of_ble_eq_true rfl⟩ rfl
