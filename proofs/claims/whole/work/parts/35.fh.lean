/-- findHanging's loop: the readers of the first k are found -/
def FhI (S0 S : sS) (h0 tb pa q : Nat) (na : Nat → Nat) (nd : Nat → Option Nat) (rd sr : Nat → List (Nat × Nat)) (nr nc nn : Nat → Nat) (nf : Nat → Nat → Nat) (T : Nat → Prop) (r c n : Nat) (f : Nat → Nat) (k : Nat) : Prop :=
  Fnd S h0 tb pa q na nd rd sr nr nc nn nf r c n f ∧ k ≤ n ∧ (∀ i, i < k → ∀ w, rE rd w (f i) → hp_set f n w) ∧ (∀ v, T v → hp_set f n v) ∧ (∀ v, hp_set f n v → gF (rE rd) T v) ∧ (∀ j v, j ≠ 7 → fl S nd j v = fl S0 nd j v) ∧ ∀ j, S.2.2.1 h0 j = S0.2.2.1 h0 j
set_option maxHeartbeats 4000000 in
set_option maxRecDepth 100000 in
theorem fh_in {p : Program} {l : Launch} {e : Env} {s : State} {m : MethodId} {args : Array Value} {below : List Frame} {meth : Method} {c : Code} {D : va_G} {dA : Nat → ClassId} {A : Nat → Prop} {Q : State → Prop} (hx : p.tables.exec = Jvm.exec) (hb : c.code = c_H_findHanging) (hml : c.maxLocals = 4) (hown : s.vm.findClass R_H = some m.cls) (hg : ∀ w ∈ gd, w.before args s = true) (hK : va_K D cls (tys dA) s) (hX : sKx s) {h0 tb pa q : Nat} {na : Nat → Nat} {nd : Nat → Option Nat} {rd sr : Nat → List (Nat × Nat)} {S0 : sS} {nr nc nn : Nat → Nat} {nf : Nat → Nat → Nat} {T : Nat → Prop} (hL : fewN nd 1024) {k v av : Nat} (hv : nd v = some av)
    (kk : ∀ (S : sS) (r c9 n : Nat) (f : Nat → Nat) (H : Heap) (locs : List Loc) (ls : Array Slot) (o : Option Value), SW D dA A s.heap S H locs → lc ls 4 [some (va_rf (some h0)), some (.int (nI k)), some (va_rf (some av)), o] → FhI S0 S h0 tb pa q na nd rd sr nr nc nn nf T r c9 n f k → k < n → f k = v → (∀ w, rE rd w v → hp_set f n w) → W p l e (rmk 4 64 2048) s m args below meth c H locs (c9 / 16) (2 * c9) Q (F0 m 61 ls [])) :
    ∀ (d j : Nat) (S : sS) (r c9 n : Nat) (f : Nat → Nat) (H : Heap) (locs : List Loc) (ls : Array Slot), j + d = (sr v).length → SW D dA A s.heap S H locs → lc ls 4 [some (va_rf (some h0)), some (.int (nI k)), some (va_rf (some av)), some (va_rf (((sr v).map Prod.fst)[j]?))] → FhI S0 S h0 tb pa q na nd rd sr nr nc nn nf T r c9 n f k → k < n → f k = v → (∀ i x w, i < j → (sr v)[i]? = some (x, w) → hp_set f n w) → W p l e (rmk 4 64 2048) s m args below meth c H locs (c9 / 16) (2 * c9) Q (F0 m 41 ls []) := by
  intro d
  induction d with
  | zero =>
    intro j S r c9 n f H locs ls hj hM hl hI hkn hfk hdone
    have e : ((sr v).map Prod.fst)[j]? = none := List.getElem?_eq_none (by rw [List.length_map]; omega)
    rw [e] at hl
    refine q_al_n (i := 3) hx hb d_H_findHanging_41 rfl hl rfl ?_
    refine q_ifnull (tgt := 61) hx hb d_H_findHanging_42 (by decide) (fun c1 => ?_) (fun y c1 => ?_)
    · refine kk S r c9 n f H locs ls _ hM hl hI hkn hfk (fun w hw => ?_)
      obtain ⟨x, hx9⟩ := hw
      obtain ⟨⟨-, -, hG, -⟩, -⟩ := hI.1
      have := (hG.2.2.2.1 w x v hx9).2.2.2
      obtain ⟨i, hi⟩ := List.getElem?_of_mem this
      exact hdone i x w (by have := (List.getElem?_eq_some_iff.mp hi).1; omega) hi
    · cases c1
  | succ d ih =>
    intro j S r c9 n f H locs ls hj hM hl hI hkn hfk hdone
    obtain ⟨kd, rf, it, lg⟩ := S
    obtain ⟨hF, hk, i1, i2, i3, i4, i5⟩ := hI
    have hZ := hF.1
    have hc9 := hF.2.2.2.2
    obtain ⟨⟨kh, e0, e1, e2, e3, e4⟩, ⟨kq, eq⟩, hG, hN, hna, hnr⟩ := id hZ
    dsimp only at kh e0 e1 e2 e3 e4 kq eq
    have hjl : j < ((sr v).map Prod.fst).length := by rw [List.length_map]; omega
    obtain ⟨lk, elk⟩ : ∃ lk, ((sr v).map Prod.fst)[j]? = some lk := ⟨_, List.getElem?_eq_getElem hjl⟩
    obtain ⟨w, ew⟩ := ml_at elk
    have hm := hG.2.2.2.2 v lk w (List.mem_of_getElem? ew)
    obtain ⟨klk, ⟨aw, hw, r0⟩, -, -⟩ := hG.2.2.2.1 w lk v hm
    dsimp only at klk r0
    have r5 : rf lk 5 = ((sr v).map Prod.fst)[j + 1]? := ((hG.2.1 v av hv).2.2.1.2 j lk elk).1
    obtain ⟨hw9, kaw, hiw⟩ := hG.nk hw
    dsimp only at kaw hiw
    have hNf := hN 1 (by decide)
    simp only [va_up_self] at hNf
    have hle1 := hNf.2.2.2.2.1
    have h161 := hNf.2.2.2.2.2.1
    have hn9 := few_le hL hF.2.1 hF.2.2.1
    rw [elk] at hl
    refine q_al_n (i := 3) hx hb d_H_findHanging_41 rfl hl rfl ?_
    refine q_ifnull (tgt := 61) hx hb d_H_findHanging_42 (by decide) (fun c1 => ?_) (fun y c1 => ?_)
    · cases c1
    · refine q_al_n (i := 0) hx hb d_H_findHanging_45 rfl hl rfl ?_
      refine q_al_n (i := 3) hx hb d_H_findHanging_46 rfl hl rfl ?_
      refine s_getr (C := R_K) (T := F_K) (N := 6) (ci := 4) hx hb hg in_K hown hK hM klk rfl 0 (by decide) rfl (hg _ kw_378) (fun _ h9 => h9) d_H_findHanging_47 ?_
      rw [r0]
      refine s_callv (r_V 1 [.ref aw] rfl hx hb hml hown hg (m_H_markFound l D dA _ _ h0 tb (na 0) (na 1) (na 2) q aw r c9 n w f hZ.1 kaw hiw hNf (by omega)) (hM.pre hK hX) (hM.recv hK kh (q := cls.getD 0 (R_H, F_H, 7)) rfl) kw_165 kw_167 ks_2 kw_1 kw_168 (by decide +kernel) ⟨Nat.le_of_ble_eq_true rfl, Nat.le_of_ble_eq_true rfl⟩ rfl rfl hl.sz (by first | exact Nat.le_of_ble_eq_true rfl | simp [rf_cat] | simp [rf_cat, Value.category]) d_H_findHanging_50 ⟨by show _ ≤ 64; split; (rename_i z9; have := Fnd_room hF hL hw z9.1; omega); omega, by show _ ≤ 2048; split; (rename_i z9; have := Fnd_room hF hL hw z9.1; omega); omega⟩ rfl) hM (fun u H locs hp hM => ?_)
      obtain ⟨r', c', n', f', hF', hset, ⟨hnn, hpre⟩, f7, g7, a1, a2⟩ := Fnd_mark hF hL hw hp
      refine W.widen (k := c' / 16) (n := 2 * c') a1 a2 ?_
      obtain ⟨kd1, rf1, it1, lg1⟩ := u
      have hZ1 := hF'.1
      obtain ⟨⟨kh1, e01, e11, e21, e31, e41⟩, ⟨kq1, eq1⟩, hG1, hN1, hna1, hnr1⟩ := id hZ1
      dsimp only at kh1 e01 e11 e21 e31 e41 kq1 eq1
      obtain ⟨klk1, -, -, -⟩ := hG1.2.2.2.1 w lk v hm
      dsimp only at klk1
      have r51 : rf1 lk 5 = ((sr v).map Prod.fst)[j + 1]? := ((hG1.2.1 v av hv).2.2.1.2 j lk elk).1
      refine q_al_n (i := 3) hx hb d_H_findHanging_53 rfl hl rfl ?_
      refine s_getr (C := R_K) (T := F_K) (N := 6) (ci := 4) hx hb hg in_K hown hK hM klk1 rfl 5 (by decide) rfl (hg _ kw_386) (fun _ h9 => h9) d_H_findHanging_54 ?_
      rw [r51]
      refine q_astore_n (i := 3) hx hb (_) d_H_findHanging_57 rfl hl (by decide) (fun ls hl => ?_)
      simp only [List.set_cons_succ, List.set_cons_zero] at hl
      refine lv_goto (tgt := 41) hx hb d_H_findHanging_58 (by decide) ?_
      have hmono : ∀ x, hp_set f n x → hp_set f' n' x := fun x hx9 => (hset x).mpr (Or.inl hx9)
      refine ih (j + 1) _ r' c' n' f' H locs ls (by omega) hM hl ⟨hF', by omega, fun i hi x hx9 => ?_, fun x hx9 => hmono x (i2 x hx9), fun x hx9 => ?_, fun j9 x hj9 => by rw [f7 j9 x hj9]; exact i4 j9 x hj9, fun j9 => by rw [g7]; exact i5 j9⟩ (by omega) (by rw [hpre k hkn]; exact hfk) (fun i x y hi hy => ?_)
      · rw [hpre i (by omega)] at hx9
        exact hmono x (i1 i hi x hx9)
      · rcases (hset x).mp hx9 with y | y
        · exact i3 x y
        · rw [y]
          exact (gF_up (rE rd) T).2 w v ⟨lk, hm⟩ (i3 v ⟨k, hkn, hfk⟩)
      · by_cases e : i = j
        · rw [e, ew] at hy
          have : y = w := (congrArg Prod.snd (Option.some.inj hy)).symm
          exact (hset y).mpr (Or.inr this)
        · exact hmono y (hdone i x y (by omega) hy)
