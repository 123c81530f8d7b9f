/-- the readers that are still to be released -/
def Rem (l : List (Nat × Nat)) (j v : Nat) : Prop := ∃ i c, j ≤ i ∧ l[i]? = some (c, v)
/-- workOutReady's loop, k worked out -/
def WoI (S0 S : sS) (h0 tb pa q : Nat) (na : Nat → Nat) (nd : Nat → Option Nat) (rd sr : Nat → List (Nat × Nat)) (nr nc nn : Nat → Nat) (nf : Nat → Nat → Nat) (r3 c3 k : Nat) (g : Nat → Nat) (r4 c4 n4 : Nat) (v4 : Nat → Nat) : Prop :=
  Wz S h0 tb pa q na nd rd sr (va_up nr 2 r3) (va_up nc 2 c3) (va_up nn 2 k) (va_up nf 2 g) r4 c4 n4 v4 ∧ pw (c3) ∧ hp_inj g k ∧ (∀ j, j < k → rdy (rE rd) (hp_set (nf 1) (nn 1)) (fun u => wp S0 nd u = true) (hp_set g j) (g j) ∧ ∀ y, rdy (rE rd) (hp_set (nf 1) (nn 1)) (fun u => wp S0 nd u = true) (hp_set g j) y → g j ≤ y) ∧ (∀ v, hp_set (nf 1) (nn 1) v → fl S nd 8 v = nI (cnt (wpk (wp S0 nd) g k) (rd v))) ∧ (∀ y, hp_set v4 n4 y ↔ hp_set (nf 1) (nn 1) y ∧ ¬ hp_set g k y ∧ cnt (wpk (wp S0 nd) g k) (rd y) = 0) ∧ (∀ j v, j ≠ 8 → fl S nd j v = fl S0 nd j v) ∧ ∀ j, S.2.2.1 h0 j = S0.2.2.1 h0 j
/-- its inner loop: x was worked out, its first j readers are released -/
def WiI (S0 S : sS) (h0 tb pa q : Nat) (na : Nat → Nat) (nd : Nat → Option Nat) (rd sr : Nat → List (Nat × Nat)) (nr nc nn : Nat → Nat) (nf : Nat → Nat → Nat) (r3 c3 k : Nat) (g : Nat → Nat) (r4 c4 n4 : Nat) (v4 : Nat → Nat) (x j : Nat) : Prop :=
  Wz S h0 tb pa q na nd rd sr (va_up nr 2 r3) (va_up nc 2 c3) (va_up nn 2 k) (va_up nf 2 g) r4 c4 n4 v4 ∧ pw (c3) ∧ (∀ v, hp_set (nf 1) (nn 1) v → (Rem (sr x) j v → fl S nd 8 v = nI (cnt (wpk (wp S0 nd) g k) (rd v) + 1)) ∧ (¬ Rem (sr x) j v → fl S nd 8 v = nI (cnt (wpk (wp S0 nd) g k) (rd v)))) ∧ (∀ y, hp_set v4 n4 y ↔ hp_set (nf 1) (nn 1) y ∧ ¬ hp_set g k y ∧ cnt (wpk (wp S0 nd) g k) (rd y) = 0 ∧ ¬ Rem (sr x) j y) ∧ (∀ j v, j ≠ 8 → fl S nd j v = fl S0 nd j v) ∧ ∀ j, S.2.2.1 h0 j = S0.2.2.1 h0 j
set_option maxHeartbeats 4000000 in
set_option maxRecDepth 100000 in
theorem wo_in {p : Program} {l : Launch} {e : Env} {s : State} {m : MethodId} {args : Array Value} {below : List Frame} {meth : Method} {c : Code} {D : va_G} {dA : Nat → ClassId} {A : Nat → Prop} {Q : State → Prop} (hx : p.tables.exec = Jvm.exec) (hb : c.code = c_H_workOutReady) (hml : c.maxLocals = 4) (hown : s.vm.findClass R_H = some m.cls) (hg : ∀ w ∈ gd, w.before args s = true) (hK : va_K D cls (tys dA) s) (hX : sKx s) {h0 tb pa q : Nat} {na : Nat → Nat} {nd : Nat → Option Nat} {rd sr : Nat → List (Nat × Nat)} {S0 : sS} {nr nc nn : Nat → Nat} {nf : Nat → Nat → Nat} (hL : fewN nd 1024) (hlen : ∀ v, (rd v).length < 2 ^ 30) {r3 c3 k k9 x av : Nat} {g : Nat → Nat} (hv : nd x = some av) (hR : ∀ v c, (c, v) ∈ sr x → hp_set (nf 1) (nn 1) v ∧ ¬ hp_set g k v)
    (kk : ∀ (S : sS) (r4 c4 n4 : Nat) (v4 : Nat → Nat) (H : Heap) (locs : List Loc) (ls : Array Slot) (o : Option Value), SW D dA A s.heap S H locs → lc ls 4 [some (va_rf (some h0)), some (.int (nI k9)), some (va_rf (some av)), o] → WiI S0 S h0 tb pa q na nd rd sr nr nc nn nf r3 c3 k g r4 c4 n4 v4 x (sr x).length → W p l e (rmk 5 128 4096) s m args below meth c H locs (c3 / 16 + c4 / 16) (2 * c3 + 2 * c4) Q (F0 m 74 ls [])) :
    ∀ (d j : Nat) (S : sS) (r4 c4 n4 : Nat) (v4 : Nat → Nat) (H : Heap) (locs : List Loc) (ls : Array Slot), j + d = (sr x).length → SW D dA A s.heap S H locs → lc ls 4 [some (va_rf (some h0)), some (.int (nI k9)), some (va_rf (some av)), some (va_rf (((sr x).map Prod.fst)[j]?))] → WiI S0 S h0 tb pa q na nd rd sr nr nc nn nf r3 c3 k g r4 c4 n4 v4 x j → W p l e (rmk 5 128 4096) s m args below meth c H locs (c3 / 16 + c4 / 16) (2 * c3 + 2 * c4) Q (F0 m 54 ls []) := by
  intro d
  induction d with
  | zero =>
    intro j S r4 c4 n4 v4 H locs ls hj hM hl hI
    have e : ((sr x).map Prod.fst)[j]? = none := List.getElem?_eq_none (by rw [List.length_map]; omega)
    rw [e] at hl
    refine q_al_n (i := 3) hx hb d_H_workOutReady_54 rfl hl rfl ?_
    refine q_ifnull (tgt := 74) hx hb d_H_workOutReady_55 (by decide) (fun c1 => ?_) (fun y c1 => ?_)
    · have ej : j = (sr x).length := by omega
      rw [ej] at hI
      exact kk S r4 c4 n4 v4 H locs ls _ hM hl hI
    · cases c1
  | succ d ih =>
    intro j S r4 c4 n4 v4 H locs ls hj hM hl hI
    obtain ⟨kd, rf, it, lg⟩ := S
    obtain ⟨hW, hc3, i1, i2, i3, i4⟩ := hI
    have hZ := hW.1
    have hc9 := hW.2.2.2.2
    obtain ⟨⟨kh, e0, e1, e2, e3, e4⟩, ⟨kq, eq⟩, hG, hN, hna, hnr⟩ := id hZ
    dsimp only at kh e0 e1 e2 e3 e4 kq eq
    have hn4 : n4 ≤ 1024 := few_le hL hW.2.2.1 hW.2.2.2.1
    have hle4 : n4 ≤ c4 := (Wz_lf hW).2.2.2.2.2.2.1
    have hjl : j < ((sr x).map Prod.fst).length := by rw [List.length_map]; omega
    obtain ⟨lk, elk⟩ : ∃ lk, ((sr x).map Prod.fst)[j]? = some lk := ⟨_, List.getElem?_eq_getElem hjl⟩
    obtain ⟨v, ex⟩ := ml_at elk
    have hmem := hG.2.2.2.2 x lk v (List.mem_of_getElem? ex)
    obtain ⟨klk, ⟨b, hb9, r0⟩, -, -⟩ := hG.2.2.2.1 v lk x hmem
    dsimp only at klk r0
    have r5 : rf lk 5 = ((sr x).map Prod.fst)[j + 1]? := ((hG.2.1 x av hv).2.2.1.2 j lk elk).1
    obtain ⟨hFv, hgv⟩ := hR v lk (List.mem_of_getElem? ex)
    have hrem : Rem (sr x) j v := ⟨j, lk, Nat.le_refl _, ex⟩
    have huniq : ∀ i c, (sr x)[i]? = some (c, v) → i = j := by
      intro i c hi
      have hm2 := hG.2.2.2.2 x c v (List.mem_of_getElem? hi)
      have hnd2 := (hG.2.2.1 v).2.2.1
      obtain ⟨i1, hi1⟩ := List.getElem?_of_mem hmem
      obtain ⟨i2, hi2⟩ := List.getElem?_of_mem hm2
      have e1 : ((rd v).map Prod.snd)[i1]? = some x := by rw [List.getElem?_map, hi1]; rfl
      have e2 : ((rd v).map Prod.snd)[i2]? = some x := by rw [List.getElem?_map, hi2]; rfl
      have e3 := nd_ij hnd2 e1 e2
      rw [e3, hi2] at hi1
      have e4 : c = lk := congrArg Prod.fst (Option.some.inj hi1)
      have e5 : ((sr x).map Prod.fst)[i]? = some lk := by rw [List.getElem?_map, hi, ← e4]; rfl
      exact nd_ij (hG.2.2.1 x).2.1 e5 elk
    have hremS : ∀ y, Rem (sr x) (j + 1) y ↔ Rem (sr x) j y ∧ y ≠ v := by
      intro y
      constructor
      · rintro ⟨i, c, h1, h2⟩
        exact ⟨⟨i, c, by omega, h2⟩, fun z => by rw [z] at h2; have := huniq i c h2; omega⟩
      · rintro ⟨⟨i, c, h1, h2⟩, h3⟩
        refine ⟨i, c, ?_, h2⟩
        by_cases z : i = j
        · rw [z, ex] at h2; exact absurd (congrArg Prod.snd (Option.some.inj h2)).symm h3
        · omega
    have ht := (i1 v hFv).1 hrem
    have hro : n4 + 1 ≤ 1024 := inj_room hL hW.2.2.1 hW.2.2.2.1 (x := v) (by rw [hb9]; exact fun z => by cases z) (fun z => ((i2 v).mp z).2.2.2 hrem)
    have hcl := Nat.lt_of_le_of_lt (cnt_le (wpk (wp S0 nd) g k) (rd v)) (hlen v)
    rw [elk] at hl
    refine q_al_n (i := 3) hx hb d_H_workOutReady_54 rfl hl rfl ?_
    refine q_ifnull (tgt := 74) hx hb d_H_workOutReady_55 (by decide) (fun c1 => ?_) (fun y c1 => ?_)
    · cases c1
    · refine q_al_n (i := 0) hx hb d_H_workOutReady_58 rfl hl rfl ?_
      refine q_al_n (i := 3) hx hb d_H_workOutReady_59 rfl hl rfl ?_
      refine s_getr (C := R_K) (T := F_K) (N := 6) (ci := 4) hx hb hg in_K hown hK hM klk rfl 0 (by decide) rfl (hg _ kw_378) (fun _ h9 => h9) d_H_workOutReady_60 ?_
      rw [r0]
      refine s_callv (r_V 1 [.ref b] rfl hx hb hml hown hg (m_H_releaseOnce l D dA _ _ h0 tb pa q na nd rd sr (va_up nr 2 r3) (va_up nc 2 c3) (va_up nn 2 k) (va_up nf 2 g) r4 c4 n4 v4 v b (cnt (wpk (wp S0 nd) g k) (rd v)) hW hL hb9 ht (by omega) (fun _ z => ((i2 v).mp z).2.2.2 hrem)) (hM.pre hK hX) (hM.recv hK kh (q := cls.getD 0 (R_H, F_H, 7)) rfl) kw_235 kw_237 ks_8 kw_1 kw_238 (by decide +kernel) ⟨Nat.le_of_ble_eq_true rfl, Nat.le_of_ble_eq_true rfl⟩ rfl rfl hl.sz (by first | exact Nat.le_of_ble_eq_true rfl | simp [rf_cat] | simp [rf_cat, Value.category]) d_H_workOutReady_63 ⟨by show _ ≤ 128; split <;> omega, by show _ ≤ 4096; split <;> omega⟩ rfl) hM (fun u H locs hp hM => ?_)
      obtain ⟨r4', c4', n4', v4', hW2, hs2, hf2, hg2, hb1, hb2⟩ := hp
      refine W.widen (k := c3 / 16 + c4' / 16) (n := 2 * c3 + 2 * c4') (by omega) (by omega) ?_
      have klk2 : u.1 lk = some (.inl 4) := (hW2.1.2.2.1.2.2.2.1 v lk x hmem).1
      have r52 : u.2.1 lk 5 = ((sr x).map Prod.fst)[j + 1]? := ((hW2.1.2.2.1.2.1 x av hv).2.2.1.2 j lk elk).1
      obtain ⟨kd2, rf2, it2, lg2⟩ := u
      dsimp only at klk2 r52
      refine q_al_n (i := 3) hx hb d_H_workOutReady_66 rfl hl rfl ?_
      refine s_getr (C := R_K) (T := F_K) (N := 6) (ci := 4) hx hb hg in_K hown hK hM klk2 rfl 5 (by decide) rfl (hg _ kw_386) (fun _ h9 => h9) d_H_workOutReady_67 ?_
      rw [r52]
      refine q_astore_n (i := 3) hx hb (_) d_H_workOutReady_70 rfl hl (by decide) (fun ls hl => ?_)
      simp only [List.set_cons_succ, List.set_cons_zero] at hl
      refine lv_goto (tgt := 54) hx hb d_H_workOutReady_71 (by decide) ?_
      refine ih (j + 1) _ r4' c4' n4' v4' H locs ls (by omega) hM hl ⟨hW2, hc3, fun y hy => ⟨fun z => ?_, fun z => ?_⟩, fun y => ?_, fun i y hi => ?_, fun i => (hg2 i).trans (i4 i)⟩
      · obtain ⟨z1, z2⟩ := (hremS y).mp z
        rw [hf2, if_neg (fun y9 => z2 y9.1)]
        exact (i1 y hy).1 z1
      · rw [hf2]
        by_cases e : y = v
        · rw [if_pos ⟨e, rfl⟩, e]
        · rw [if_neg (fun y9 => e y9.1)]
          exact (i1 y hy).2 (fun z1 => z ((hremS y).mpr ⟨z1, e⟩))
      · rw [hs2, i2, hremS]
        constructor
        · rintro (⟨a1, a2, a3, a4⟩ | ⟨a1, a2⟩)
          · exact ⟨a1, a2, a3, fun z => a4 z.1⟩
          · rw [a1]; exact ⟨hFv, hgv, a2, fun z => z.2 rfl⟩
        · rintro ⟨a1, a2, a3, a4⟩
          by_cases e : y = v
          · rw [e] at a3; exact Or.inr ⟨e, a3⟩
          · exact Or.inl ⟨a1, a2, a3, fun z => a4 ⟨z, e⟩⟩
      · rw [hf2, if_neg (fun y9 => hi y9.2)]; exact i3 i y hi
set_option maxHeartbeats 4000000 in
set_option maxRecDepth 100000 in
theorem wo_out {p : Program} {l : Launch} {e : Env} {s : State} {m : MethodId} {args : Array Value} {below : List Frame} {meth : Method} {c : Code} {D : va_G} {dA : Nat → ClassId} {A : Nat → Prop} {Q : State → Prop} (hx : p.tables.exec = Jvm.exec) (hb : c.code = c_H_workOutReady) (hml : c.maxLocals = 4) (hown : s.vm.findClass R_H = some m.cls) (hg : ∀ w ∈ gd, w.before args s = true) (hK : va_K D cls (tys dA) s) (hX : sKx s) {h0 tb pa q : Nat} {na : Nat → Nat} {nd : Nat → Option Nat} {rd sr : Nat → List (Nat × Nat)} {S0 : sS} {nr nc nn : Nat → Nat} {nf : Nat → Nat → Nat} (hL : fewN nd 1024) (hlen : ∀ v, (rd v).length < 2 ^ 30) (hinj : hp_inj (nf 1) (nn 1)) (hnd : ∀ i, i < nn 1 → nd (nf 1 i) ≠ none) (hup : ∀ v u, rE rd v u → hp_set (nf 1) (nn 1) u → hp_set (nf 1) (nn 1) v) (hwp : ∀ v, hp_set (nf 1) (nn 1) v → wp S0 nd v = true)
    (kk : ∀ (S : sS) (r3 c3 k : Nat) (g : Nat → Nat) (r4 c4 : Nat) (v4 : Nat → Nat) (H : Heap) (locs : List Loc) (ls : Array Slot), SW D dA A s.heap S H locs → WoI S0 S h0 tb pa q na nd rd sr nr nc nn nf r3 c3 k g r4 c4 0 v4 → W p l e (rmk 5 128 4096) s m args below meth c H locs (c3 / 16 + c4 / 16) (2 * c3 + 2 * c4) Q (F0 m 80 ls [])) :
    ∀ (d k : Nat) (S : sS) (r3 c3 : Nat) (g : Nat → Nat) (r4 c4 n4 : Nat) (v4 : Nat → Nat) (H : Heap) (locs : List Loc) (ls : Array Slot) (o2 o3 : Option Value), k + d = nn 1 + 1 → SW D dA A s.heap S H locs → lc ls 4 [some (va_rf (some h0)), some (.int (nI k)), o2, o3] → WoI S0 S h0 tb pa q na nd rd sr nr nc nn nf r3 c3 k g r4 c4 n4 v4 → W p l e (rmk 5 128 4096) s m args below meth c H locs (c3 / 16 + c4 / 16) (2 * c3 + 2 * c4) Q (F0 m 2 ls []) := by
  have hB : nn 1 ≤ 1024 := few_le hL hinj hnd
  intro d
  induction d with
  | zero =>
    intro k S r3 c3 g r4 c4 n4 v4 H locs ls o2 o3 hk hM hl hI
    have := inj_le hI.2.2.1 (fun i hi => (hI.2.2.2.1 i hi).1.1)
    omega
  | succ d ih =>
    intro k S r3 c3 g r4 c4 n4 v4 H locs ls o2 o3 hk hM hl hI
    have hI' := hI
    obtain ⟨kd, rf, it, lg⟩ := S
    obtain ⟨hW, hc3, hgi, i0, i1, i2, i3, i4⟩ := hI'
    have hkn := inj_le hgi (fun i hi => (i0 i hi).1.1)
    have hZ := hW.1
    have hc9 := hW.2.2.2.2
    obtain ⟨⟨kh, e0, e1, e2, e3, e4⟩, ⟨kq, eq⟩, hG, hN, hna, hnr⟩ := id hZ
    dsimp only at kh e0 e1 e2 e3 e4 kq eq
    have hn4 : n4 ≤ 1024 := few_le hL hW.2.2.1 hW.2.2.2.1
    have hle4 : n4 ≤ c4 := (Wz_lf hW).2.2.2.2.2.2.1
    have hN1 := hN 1 (by decide)
    simp only [va_up_ne _ _ (show (1 : Nat) ≠ 3 by decide), va_up_ne _ _ (show (1 : Nat) ≠ 2 by decide)] at hN1
    have hn1 := hN1.2.2.2.1
    have k1 := hN1.1
    dsimp only at hn1 k1
    refine q_iload_n (i := 1) hx hb d_H_workOutReady_2 rfl hl rfl ?_
    refine q_al_n (i := 0) hx hb d_H_workOutReady_3 rfl hl rfl ?_
    refine s_getr (C := R_H) (T := F_H) (N := 7) (ci := 0) hx hb hg in_H hown hK hM kh rfl 2 (by decide) rfl (hg _ kw_67) (fun _ h9 => h9) d_H_workOutReady_4 ?_
    rw [e2]
    refine s_geti (C := R_U) (T := F_U) (N := 2) (ci := 5) hx hb hg in_U hown hK hM k1 rfl 1 (by decide) rfl (hg _ kw_46) (fun _ h9 => h9) d_H_workOutReady_7 ?_
    rw [hn1]
    refine n_ge (tgt := 80) hx hb d_H_workOutReady_10 (by decide) (by omega) (by omega) (fun c1 => ?_) (fun c1 => ?_)
    · have hz : n4 = 0 := by
        refine Classical.byContradiction fun z => ?_
        obtain ⟨a1, a2, -⟩ := (i2 (v4 0)).mp ⟨0, by omega, rfl⟩
        have q1 := hp_inj_push (f := g) (g := fun i => if i = k then v4 0 else g i) (n := k) (v := v4 0) hgi (fun i hi => if_neg (by omega)) (if_pos rfl) a2
        have q2 := inj_le q1 (f := nf 1) (n := nn 1) (fun i hi => ?_)
        · omega
        · by_cases e : i = k
          · rw [if_pos e]; exact a1
          · rw [if_neg e]; exact (i0 i (by omega)).1.1
      subst hz
      exact kk _ r3 c3 k g r4 c4 v4 H locs ls hM hI
    · refine q_al_n (i := 0) hx hb d_H_workOutReady_13 rfl hl rfl ?_
      refine s_getr (C := R_H) (T := F_H) (N := 7) (ci := 0) hx hb hg in_H hown hK hM kh rfl 4 (by decide) rfl (hg _ kw_69) (fun _ h9 => h9) d_H_workOutReady_14 ?_
      rw [e4]
      refine s_calli (r_V 0 [] rfl hx hb hml hown hg (m_F_isEmpty l D dA _ _ q (na 3) r4 c4 n4 v4 (Wz_lf hW)) (hM.pre hK hX) (hM.recv hK kq (q := cls.getD 6 (R_H, F_H, 7)) rfl) kw_214 kw_215 kw_216 kw_4 kw_217 (by decide +kernel) ⟨Nat.le_of_ble_eq_true rfl, Nat.le_of_ble_eq_true rfl⟩ rfl rfl hl.sz (by first | exact Nat.le_of_ble_eq_true rfl | simp [rf_cat] | simp [rf_cat, Value.category]) d_H_workOutReady_17 ⟨by show _ ≤ 128; omega, by show _ ≤ 4096; omega⟩ rfl) hM (fun r1 u H locs hp hM => ?_)
      obtain ⟨rfl, hp⟩ := hp
      refine lv_if_ne (tgt := 80) hx hb d_H_workOutReady_20 (by decide) (fun c2 => ?_) (fun c2 => ?_)
      · have hz : n4 = 0 := by
          rcases hp with ⟨-, z⟩ | ⟨z, -⟩
          · exact z
          · exact absurd z c2
        subst hz
        exact kk _ r3 c3 k g r4 c4 v4 H locs ls hM hI
      · have h04 : 0 < n4 := by
          rcases hp with ⟨z, -⟩ | ⟨-, z⟩
          · rw [z] at c2; cases c2
          · exact z
        refine q_al_n (i := 0) hx hb d_H_workOutReady_23 rfl hl rfl ?_
        refine s_getr (C := R_H) (T := F_H) (N := 7) (ci := 0) hx hb hg in_H hown hK hM kh rfl 0 (by decide) rfl (hg _ kw_65) (fun _ h9 => h9) d_H_workOutReady_24 ?_
        rw [e0]
        refine q_al_n (i := 0) hx hb d_H_workOutReady_27 rfl hl rfl ?_
        refine s_getr (C := R_H) (T := F_H) (N := 7) (ci := 0) hx hb hg in_H hown hK hM kh rfl 4 (by decide) rfl (hg _ kw_69) (fun _ h9 => h9) d_H_workOutReady_28 ?_
        rw [e4]
        refine s_calli (r_V 0 [] rfl hx hb hml hown hg (m_F_take l D dA _ _ q (na 3) r4 c4 n4 v4 (Wz_lf hW) h04 hW.2.1 hW.2.2.1 (Wz_lt hW)) (hM.pre hK hX) (hM.recv hK kq (q := cls.getD 6 (R_H, F_H, 7)) rfl) kw_218 kw_219 kw_220 kw_4 kw_221 (by decide +kernel) ⟨Nat.le_of_ble_eq_true rfl, Nat.le_of_ble_eq_true rfl⟩ rfl rfl hl.sz (by first | exact Nat.le_of_ble_eq_true rfl | simp [rf_cat] | simp [rf_cat, Value.category]) d_H_workOutReady_31 ⟨by show _ ≤ 128; omega, by show _ ≤ 4096; omega⟩ rfl) hM (fun r1 u H locs hp hM => ?_)
        obtain ⟨er, v4', hW1, hs1, f1, g1⟩ := Wz_take hW hp
        subst er
        have hxin : hp_set v4 n4 (v4 0) := ⟨0, h04, rfl⟩
        obtain ⟨hxF, hxg, hxc⟩ := (i2 (v4 0)).mp hxin
        have hleast := hp_least hW.2.1
        generalize v4 0 = x at hxF hxg hxc hs1 hleast
        obtain ⟨i9, hi9, ei9⟩ := id hxF
        obtain ⟨a, ha⟩ : ∃ a, nd x = some a := Option.ne_none_iff_exists'.mp (by rw [← ei9]; exact hnd i9 hi9)
        have hZ1 := hW1.1
        clear hp
        obtain ⟨kd1, rf1, it1, lg1⟩ := u
        obtain ⟨⟨kh1, e01, e11, e21, e31, e41⟩, ⟨kq1, eq1⟩, hG1, hN1, hna1, hnr1⟩ := id hZ1
        dsimp only at kh1 e01 e11 e21 e31 e41 kq1 eq1
        obtain ⟨hv9, ka, hva⟩ := hG1.nk ha
        dsimp only at ka hva
        refine s_callq (r_V 1 [.int (nI x)] rfl hx hb hml hown hg (m_T_of l D dA _ _ tb pa nd x a hG1.1 hv9 ha) (hM.pre hK hX) (hM.recv hK hG1.1.1 (q := cls.getD 1 (R_H, F_H, 7)) rfl) kw_107 kw_108 kw_109 kw_2 kw_110 (by decide +kernel) ⟨Nat.le_of_ble_eq_true rfl, Nat.le_of_ble_eq_true rfl⟩ rfl rfl hl.sz (by first | exact Nat.le_of_ble_eq_true rfl | simp [rf_cat] | simp [rf_cat, Value.category]) d_H_workOutReady_34 ⟨by show _ ≤ 128; omega, by show _ ≤ 4096; omega⟩ rfl) hM (fun r1 u H locs hp hM => ?_)
        obtain ⟨rfl, rfl⟩ := hp
        refine q_astore_n (i := 2) hx hb (_) d_H_workOutReady_37 rfl hl (by decide) (fun ls hl => ?_)
        simp only [List.set_cons_succ, List.set_cons_zero] at hl
        refine q_al_n (i := 0) hx hb d_H_workOutReady_38 rfl hl rfl ?_
        refine s_getr (C := R_H) (T := F_H) (N := 7) (ci := 0) hx hb hg in_H hown hK hM kh1 rfl 3 (by decide) rfl (hg _ kw_68) (fun _ h9 => h9) d_H_workOutReady_39 ?_
        rw [e31]
        refine q_al_n (i := 2) hx hb d_H_workOutReady_42 rfl hl rfl ?_
        refine s_geti (C := R_N) (T := F_N) (N := 9) (ci := 3) hx hb hg in_N hown hK hM ka rfl 0 (by decide) rfl (hg _ kw_133) (fun _ h9 => h9) d_H_workOutReady_43 ?_
        rw [hva]
        have hN2 := hN1 2 (by decide)
        simp only [va_up_ne _ _ (show (2 : Nat) ≠ 3 by decide), va_up_self] at hN2
        have hle3 : k ≤ c3 := hN2.2.2.2.2.1
        have h163 : 16 ≤ c3 := hN2.2.2.2.2.2.1
        refine s_callv (r_V 1 [.int (nI x)] rfl hx hb hml hown hg (m_U_add l D dA _ _ (na 2) r3 c3 k g x hN2 (by omega)) (hM.pre hK hX) (hM.recv hK hN2.1 (q := cls.getD 5 (R_H, F_H, 7)) rfl) kw_169 kw_170 kw_171 kw_3 kw_172 (by decide +kernel) ⟨Nat.le_of_ble_eq_true rfl, Nat.le_of_ble_eq_true rfl⟩ rfl rfl hl.sz (by first | exact Nat.le_of_ble_eq_true rfl | simp [rf_cat] | simp [rf_cat, Value.category]) d_H_workOutReady_46 ⟨by show _ ≤ 128; split <;> omega, by show _ ≤ 4096; split <;> omega⟩ rfl) hM (fun u H locs hp hM => ?_)
        have hA2 : AddP (kd1, rf1, it1, lg1) (na 2) (va_up (va_up nr 2 r3) 3 r4 2) (va_up (va_up nc 2 c3) 3 c4 2) (va_up (va_up nn 2 k) 3 (n4 - 1) 2) (va_up (va_up nf 2 g) 3 v4' 2) x u := by simp only [va_up_ne _ _ (show (2 : Nat) ≠ 3 by decide), va_up_self]; exact hp
        obtain ⟨r3', hZ2, f2, g2⟩ := Mz_add hZ1 (i := 2) (by decide) hA2
        simp only [va_up_ne _ _ (show (2 : Nat) ≠ 3 by decide), va_up_self, vu_comm, bx_uu] at hZ2
        clear hp hA2
        have hset : ∀ y, hp_set (fun i => if i = k then x else g i) (k + 1) y ↔ hp_set g k y ∨ y = x := hp_set_push (fun i hi => if_neg (by omega)) (if_pos rfl)
        have hg'i : hp_inj (fun i => if i = k then x else g i) (k + 1) := hp_inj_push hgi (fun i hi => if_neg (by omega)) (if_pos rfl) hxg
        have hwx : wpk (wp S0 nd) g k x = true := wpk_iff.mpr ⟨hwp x hxF, hxg⟩
        have hself : ¬ rE rd x x := fun ⟨c, hc⟩ => (cnt_zero.mp hxc) c x hc hwx
        have hdrop : ∀ v, ((∃ c, (c, x) ∈ rd v) → cnt (wpk (wp S0 nd) g k) (rd v) = cnt (wpk (wp S0 nd) (fun i => if i = k then x else g i) (k + 1)) (rd v) + 1) ∧ ((¬ ∃ c, (c, x) ∈ rd v) → cnt (wpk (wp S0 nd) g k) (rd v) = cnt (wpk (wp S0 nd) (fun i => if i = k then x else g i) (k + 1)) (rd v)) := by
          intro v
          refine cnt_drop (fun y => ?_) hwx (rd v) (hG.2.2.1 v).2.2.1
          rw [wpk_iff, wpk_iff, hset]
          constructor
          · rintro ⟨b1, b2⟩; exact ⟨⟨b1, fun z => b2 (Or.inl z)⟩, fun z => b2 (Or.inr z)⟩
          · rintro ⟨⟨b1, b2⟩, b3⟩; exact ⟨b1, fun z => z.elim b2 b3⟩
        have hremE : ∀ v, Rem (sr x) 0 v ↔ ∃ c, (c, x) ∈ rd v := by
          intro v
          constructor
          · rintro ⟨i, c, -, hi⟩; exact ⟨c, hG.2.2.2.2 x c v (List.mem_of_getElem? hi)⟩
          · rintro ⟨c, hc⟩
            obtain ⟨i, hi⟩ := List.getElem?_of_mem (hG.2.2.2.1 v c x hc).2.2.2
            exact ⟨i, c, Nat.zero_le _, hi⟩
        have hrd : rdy (rE rd) (hp_set (nf 1) (nn 1)) (fun u => wp S0 nd u = true) (hp_set g k) x := ⟨hxF, hxg, fun y ⟨c, hc⟩ hy => Classical.byContradiction fun z => (cnt_zero.mp hxc) c y hc (wpk_iff.mpr ⟨hy, z⟩)⟩
        have hmin : ∀ y, rdy (rE rd) (hp_set (nf 1) (nn 1)) (fun u => wp S0 nd u = true) (hp_set g k) y → x ≤ y := by
          rintro y ⟨b1, b2, b3⟩
          obtain ⟨i, hi, e⟩ := (i2 y).mpr ⟨b1, b2, cnt_zero.mpr (fun c z hc hz => (wpk_iff.mp hz).2 (b3 z ⟨c, hc⟩ (wpk_iff.mp hz).1))⟩
          rw [← e]; exact hleast i hi
        have hR : ∀ v c, (c, v) ∈ sr x → hp_set (nf 1) (nn 1) v ∧ ¬ hp_set (fun i => if i = k then x else g i) (k + 1) v := by
          intro v c hc
          have hvx : rE rd v x := ⟨c, hG.2.2.2.2 x c v hc⟩
          refine ⟨hup v x hvx hxF, fun z => ?_⟩
          rcases (hset v).mp z with ⟨i, hi, e⟩ | e
          · have := (i0 i hi).1.2.2 x (by rw [e]; exact hvx) (hwp x hxF)
            obtain ⟨i', hi', e'⟩ := this
            exact hxg ⟨i', by omega, e'⟩
          · rw [e] at hvx; exact hself hvx
        have ka2 := (hZ2.2.2.1.nk ha).2.1
        have hfr : u.2.1 a 2 = ((sr x).map Prod.fst)[0]? := (hZ2.2.2.1.2.1 x a ha).2.2.1.1
        have hn1' : n4 - 1 ≤ 1024 := by omega
        have hgen : ∃ c3', c3' = (if k < c3 then c3 else 2 * k) := ⟨_, rfl⟩
        obtain ⟨c3', hc3'⟩ := hgen
        rw [← hc3'] at hZ2
        have hb3 : pw (c3') := by rw [hc3']; split <;> omega
        have hb31 : c3 / 16 + (if k < c3 then 0 else 1) ≤ c3' / 16 := by
          rw [hc3']
          by_cases z : k < c3
          · rw [if_pos z, if_pos z]; omega
          · rw [if_neg z, if_neg z]; omega
        have hb32 : 2 * c3 + (if k < c3 then 0 else 2 * k) ≤ 2 * c3' := by
          rw [hc3']
          by_cases z : k < c3
          · rw [if_pos z, if_pos z]; omega
          · rw [if_neg z, if_neg z]; omega
        refine W.widen (k := c3' / 16 + c4 / 16) (n := 2 * c3' + 2 * c4) (by omega) (by omega) ?_
        obtain ⟨kd2, rf2, it2, lg2⟩ := u
        dsimp only at ka2 hfr
        refine q_al_n (i := 2) hx hb d_H_workOutReady_49 rfl hl rfl ?_
        refine s_getr (C := R_N) (T := F_N) (N := 9) (ci := 3) hx hb hg in_N hown hK hM ka2 rfl 2 (by decide) rfl (hg _ kw_137) (fun _ h9 => h9) d_H_workOutReady_50 ?_
        rw [hfr]
        refine q_astore_n (i := 3) hx hb (_) d_H_workOutReady_53 rfl hl (by decide) (fun ls hl => ?_)
        simp only [List.set_cons_succ, List.set_cons_zero] at hl
        refine wo_in hx hb hml hown hg hK hX (S0 := S0) (nr := nr) (nc := nc) (nn := nn) (nf := nf) (x := x) (k := k + 1) hL hlen ha hR ?_ (sr x).length 0 _ r4 c4 (n4 - 1) v4' H locs ls (by omega) hM hl ⟨⟨hZ2, hW1.2⟩, hb3, fun v hv => ?_, fun y => ?_, fun j v hj => ?_, fun j => ?_⟩
        · intro S3 r4' c4' n4' v4'' H locs ls o hM hl hI3
          obtain ⟨hW3, -, j1, j2, j3, j4⟩ := hI3
          have hno : ∀ v, ¬ Rem (sr x) (sr x).length v := fun v ⟨i, c, h1, h2⟩ => by have := (List.getElem?_eq_some_iff.mp h2).1; omega
          refine q_iinc hx hb (nI (k + 1)) d_H_workOutReady_74 hl rfl (nI_1 k) (by decide) (fun ls hl => ?_)
          simp only [List.set_cons_succ, List.set_cons_zero] at hl
          refine lv_goto (tgt := 2) hx hb d_H_workOutReady_77 (by decide) ?_
          refine ih (k + 1) S3 _ c3' _ r4' c4' n4' v4'' H locs ls _ _ (by omega) hM hl ⟨hW3, hb3, hg'i, fun j hj => ?_, fun v hv => (j1 v hv).2 (hno v), fun y => ?_, j3, j4⟩
          · have hsj : hp_set (fun i => if i = k then x else g i) j = hp_set g j := by
              funext y
              refine propext ⟨fun ⟨i, hi, e⟩ => ⟨i, hi, ?_⟩, fun ⟨i, hi, e⟩ => ⟨i, hi, ?_⟩⟩
              · dsimp only at e; rw [if_neg (by omega)] at e; exact e
              · dsimp only; rw [if_neg (by omega)]; exact e
            rw [hsj]
            by_cases e : j = k
            · show _ ∧ _
              rw [if_pos e, e]; exact ⟨hrd, hmin⟩
            · show _ ∧ _
              rw [if_neg e]; exact i0 j (by omega)
          · rw [j2]
            exact ⟨fun ⟨b1, b2, b3, _⟩ => ⟨b1, b2, b3⟩, fun ⟨b1, b2, b3⟩ => ⟨b1, b2, b3, hno y⟩⟩
        · rw [f2, f1, i1 v hv]
          refine ⟨fun z => ?_, fun z => ?_⟩
          · rw [(hdrop v).1 ((hremE v).mp z)]
          · rw [(hdrop v).2 (fun y => z ((hremE v).mpr y))]
        · rw [hs1, i2, hset, hremE]
          constructor
          · rintro ⟨⟨b1, b2, b3⟩, b4⟩
            have hne : ¬ ∃ c, (c, x) ∈ rd y := fun ⟨c, hc⟩ => (cnt_zero.mp b3) c x hc hwx
            exact ⟨b1, fun z => z.elim b2 b4, by rw [← (hdrop y).2 hne]; exact b3, hne⟩
          · rintro ⟨b1, b2, b3, b4⟩
            exact ⟨⟨b1, fun z => b2 (Or.inl z), by rw [(hdrop y).2 b4]; exact b3⟩, fun z => b2 (Or.inr z)⟩
        · rw [f2, f1]; exact i3 j v hj
        · exact (g2 j).trans ((g1 j).trans (i4 j))
/-- what workOutReady does -/
def WoP (S : sS) (h0 tb pa q : Nat) (na : Nat → Nat) (nd : Nat → Option Nat) (rd sr : Nat → List (Nat × Nat)) (nr nc nn : Nat → Nat) (nf : Nat → Nat → Nat) (u : sS) : Prop :=
  ∃ r3 c3 k g r4 c4 v4, Mz u h0 tb pa q na nd rd sr (va_up (va_up nr 2 r3) 3 r4) (va_up (va_up nc 2 c3) 3 c4) (va_up (va_up nn 2 k) 3 0) (va_up (va_up nf 2 g) 3 v4) ∧ pw (c3) ∧ pw (c4) ∧ hp_inj g k ∧ (∀ j, j < k → rdy (rE rd) (hp_set (nf 1) (nn 1)) (fun u => wp S nd u = true) (hp_set g j) (g j) ∧ ∀ y, rdy (rE rd) (hp_set (nf 1) (nn 1)) (fun u => wp S nd u = true) (hp_set g j) y → g j ≤ y) ∧ (∀ y, ¬ rdy (rE rd) (hp_set (nf 1) (nn 1)) (fun u => wp S nd u = true) (hp_set g k) y) ∧ (∀ v, hp_set (nf 1) (nn 1) v → (fl u nd 8 v = nI (cnt (wpk (wp S nd) g k) (rd v)))) ∧ (∀ j v, j ≠ 8 → fl u nd j v = fl S nd j v) ∧ ∀ j, u.2.2.1 h0 j = S.2.2.1 h0 j
set_option maxHeartbeats 4000000 in
set_option maxRecDepth 100000 in
theorem m_H_workOutReady (l : Launch) (D : va_G) (dA : Nat → ClassId) (S : sS) (sz : Nat) (h0 tb pa q : Nat) (na : Nat → Nat) (nd : Nat → Option Nat) (rd sr : Nat → List (Nat × Nat)) (nr nc nn : Nat → Nat) (nf : Nat → Nat → Nat) (r4 c4 n4 : Nat) (v4 : Nat → Nat) (hW : Wz S h0 tb pa q na nd rd sr nr nc nn nf r4 c4 n4 v4) (hL : fewN nd 1024) (hlen : ∀ v, (rd v).length < 2 ^ 30) (hinj : hp_inj (nf 1) (nn 1)) (hnd : ∀ i, i < nn 1 → nd (nf 1 i) ≠ none) (hup : ∀ v u, rE rd v u → hp_set (nf 1) (nn 1) u → hp_set (nf 1) (nn 1) v) (hwp : ∀ v, hp_set (nf 1) (nn 1) v → wp S nd v = true) (h2 : nn 2 = 0) (hc : pw (nc 2)) (h8 : ∀ v, hp_set (nf 1) (nn 1) v → fl S nd 8 v = nI (cnt (wp S nd) (rd v))) (h4 : ∀ y, hp_set v4 n4 y ↔ hp_set (nf 1) (nn 1) y ∧ cnt (wp S nd) (rd y) = 0) :
    cV l y_H_workOutReady c_H_workOutReady 4 (rmk 5 128 4096) D dA S sz [.ref h0] (WoP S h0 tb pa q na nd rd sr nr nc nn nf) (128) (4096) := by
  refine s_met (cc := c_H_workOutReady) (maxL := 4) (by decide) rfl (by simp [Value.category]) (by simp [lg_sl, Value.category]) ?_
  intro p e s m args below meth c ls hx hb hr hts hown hlocks hin hml hK hX hsz hM hl
  have hg := gd_hts hts
  have hl : lc ls 4 [some (va_rf (some h0)), none, none, none] := hl
  refine lv_iconst (v := nI 0) hx hb d_H_workOutReady_0 (by decide) ?_
  refine q_istore_n (i := 1) hx hb d_H_workOutReady_1 rfl hl (by decide) (fun ls hl => ?_)
  simp only [List.set_cons_succ, List.set_cons_zero] at hl
  refine W.widen (k := nc 2 / 16 + c4 / 16) (n := 2 * nc 2 + 2 * c4) (Nat.zero_le _) (Nat.zero_le _) ?_
  have ewk : wpk (wp S nd) (nf 2) 0 = wp S nd := by funext u9; simp [wpk]
  have hn0 : ∀ y, ¬ hp_set (nf 2) 0 y := fun y ⟨i, hi, _⟩ => absurd hi (Nat.not_lt_zero i)
  have hW0 : Wz S h0 tb pa q na nd rd sr (va_up nr 2 (nr 2)) (va_up nc 2 (nc 2)) (va_up nn 2 0) (va_up nf 2 (nf 2)) r4 c4 n4 v4 := by
    rw [va_up_same (f := nr) (k := 2) rfl, va_up_same (f := nc) (k := 2) rfl, va_up_same (f := nf) (k := 2) rfl, va_up_same h2]
    exact hW
  refine wo_out hx hb hml hown hg hK hX (S0 := S) (nr := nr) (nc := nc) (nn := nn) (nf := nf) hL hlen hinj hnd hup hwp ?_ (nn 1 + 1) 0 S (nr 2) (nc 2) (nf 2) r4 c4 n4 v4 s.heap [] ls _ _ (by omega) hM hl ⟨hW0, hc, fun i j hi => absurd hi (Nat.not_lt_zero i), fun j hj => absurd hj (Nat.not_lt_zero j), by rw [ewk]; exact h8, fun y => ?_, fun j v _ => rfl, fun j => rfl⟩
  · intro S1 r3 c3 k g r4 c4 v4 H locs ls hM hI
    obtain ⟨hW1, hc3, hgi, i0, i1, i2, i3, i4⟩ := hI
    have hc9 := hW1.2.2.2.2
    refine W.widen (k := 128) (n := 4096) (by omega) (by omega) ?_
    refine s_vret hx hb hr hM ⟨r3, c3, k, g, r4, c4, v4, hW1.1, hc3, hc9, hgi, i0, fun y hy => ?_, i1, i3, i4⟩ d_H_workOutReady_80 hlocks
    obtain ⟨b1, b2, b3⟩ := hy
    obtain ⟨i, hi, -⟩ := (i2 y).mpr ⟨b1, b2, cnt_zero.mpr (fun c z hc hz => (wpk_iff.mp hz).2 (b3 z ⟨c, hc⟩ (wpk_iff.mp hz).1))⟩
    exact absurd hi (Nat.not_lt_zero i)
  · rw [ewk, h4]
    exact ⟨fun ⟨b1, b2⟩ => ⟨b1, hn0 y, b2⟩, fun ⟨b1, _, b2⟩ => ⟨b1, b2⟩⟩
