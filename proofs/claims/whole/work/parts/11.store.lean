theorem sMk_seti {sg : Nat → List Bool} {tk : Nat → Nat} {dA : Nat → ClassId} {kd : Nat → Option sK} {rf : Nat → Nat → Option Nat} {it : Nat → Nat → Int32} {lg : Nat → Nat → Int64} {a ci k : Nat} (x : Int32) (h : kd a = some (.inl ci)) (hg : (sg ci)[k]? = some false) :
    sMk sg tk dA (kd, rf, up2 it a k x, lg) = sU (sMk sg tk dA (kd, rf, it, lg)) a (.inr (ci, (sFs (sg ci) (rf a) (it a)).set k (.int x))) := by
  funext b
  by_cases hb : b = a
  · subst hb
    simp [sMk, sU, h, sFs_seti hg, up2_row]
  · simp [sMk, sU, hb, up2_off]
theorem sMk_setr {sg : Nat → List Bool} {tk : Nat → Nat} {dA : Nat → ClassId} {kd : Nat → Option sK} {rf : Nat → Nat → Option Nat} {it : Nat → Nat → Int32} {lg : Nat → Nat → Int64} {a ci k : Nat} (x : Option Nat) (h : kd a = some (.inl ci)) (hg : (sg ci)[k]? = some true) :
    sMk sg tk dA (kd, up2 rf a k x, it, lg) = sU (sMk sg tk dA (kd, rf, it, lg)) a (.inr (ci, (sFs (sg ci) (rf a) (it a)).set k (va_rf x))) := by
  funext b
  by_cases hb : b = a
  · subst hb
    simp [sMk, sU, h, sFs_setr hg, up2_row]
  · simp [sMk, sU, hb, up2_off]
theorem sMk_ari {sg : Nat → List Bool} {tk : Nat → Nat} {dA : Nat → ClassId} {kd : Nat → Option sK} {rf : Nat → Nat → Option Nat} {it : Nat → Nat → Int32} {lg : Nat → Nat → Int64} {a t n k : Nat} (x : Int32) (h : kd a = some (.inr (t, n))) (ht : tk t = 0) :
    sMk sg tk dA (kd, rf, up2 it a k x, lg) = sU (sMk sg tk dA (kd, rf, it, lg)) a (.inl (dA t, n, .inl (upd (it a) k x))) := by
  funext b
  by_cases hb : b = a
  · subst hb
    simp [sMk, sU, h, sCt, ht, up2_row]
    rfl
  · simp [sMk, sU, hb, up2_off]
theorem sMk_arl {sg : Nat → List Bool} {tk : Nat → Nat} {dA : Nat → ClassId} {kd : Nat → Option sK} {rf : Nat → Nat → Option Nat} {it : Nat → Nat → Int32} {lg : Nat → Nat → Int64} {a t n k : Nat} (x : Int64) (h : kd a = some (.inr (t, n))) (ht : tk t = 1) :
    sMk sg tk dA (kd, rf, it, up2 lg a k x) = sU (sMk sg tk dA (kd, rf, it, lg)) a (.inl (dA t, n, .inr (.inl (vp_updL (lg a) k x)))) := by
  funext b
  by_cases hb : b = a
  · subst hb
    simp [sMk, sU, h, sCt, ht, up2_row]
    rfl
  · simp [sMk, sU, hb, up2_off]
theorem sMk_arq {sg : Nat → List Bool} {tk : Nat → Nat} {dA : Nat → ClassId} {kd : Nat → Option sK} {rf : Nat → Nat → Option Nat} {it : Nat → Nat → Int32} {lg : Nat → Nat → Int64} {a t n k : Nat} (x : Option Nat) (h : kd a = some (.inr (t, n))) (ht : tk t = 2) :
    sMk sg tk dA (kd, up2 rf a k x, it, lg) = sU (sMk sg tk dA (kd, rf, it, lg)) a (.inl (dA t, n, .inr (.inr (.inr (.inr (va_up (rf a) k x)))))) := by
  funext b
  by_cases hb : b = a
  · subst hb
    simp [sMk, sU, h, sCt, ht, up2_row]
    rfl
  · simp [sMk, sU, hb, up2_off]
/-- a new cell: its row is blank -/
def sNew (S : sS) (q : Nat) (k : sK) : sS := (va_up S.1 q (some k), upr S.2.1 q (fun _ => none), upr S.2.2.1 q (fun _ => 0), upr S.2.2.2 q (fun _ => 0))
theorem sMk_newo {sg : Nat → List Bool} {tk : Nat → Nat} {dA : Nat → ClassId} {S : sS} {q ci : Nat} :
    sMk sg tk dA (sNew S q (.inl ci)) = sU (sMk sg tk dA S) q (.inr (ci, sFs (sg ci) (fun _ => none) (fun _ => 0))) := by
  funext b
  by_cases hb : b = q
  · subst hb
    simp [sMk, sNew, sU, va_up, upr]
  · simp [sMk, sNew, sU, hb, va_up, upr]
theorem sMk_newa {sg : Nat → List Bool} {tk : Nat → Nat} {dA : Nat → ClassId} {S : sS} {q t n : Nat} :
    sMk sg tk dA (sNew S q (.inr (t, n))) = sU (sMk sg tk dA S) q (.inl (dA t, n, sCt (tk t) (fun _ => none) (fun _ => 0) (fun _ => 0))) := by
  funext b
  by_cases hb : b = q
  · subst hb
    simp [sMk, sNew, sU, va_up, upr]
  · simp [sMk, sNew, sU, hb, va_up, upr]
/-- the store S stands in the heap H; since H0 nothing outside A has changed -/
def sW (sg : Nat → List Bool) (tk : Nat → Nat) (D : va_G) (dA : Nat → ClassId) (cl : List vw_C) (A : Nat → Prop) (H0 : Heap) (S : sS) (H : Heap) (locs : List Loc) : Prop :=
  (∀ q, H0.size ≤ q → A q) ∧ ∃ ws : va_W, sG (sMk sg tk dA S) ws ∧ va_P D cl ws H ∧ va_D A ws ∧ va_S A H0 H locs
/-- the store S in a state, as a method's start has it -/
def sP (sg : Nat → List Bool) (tk : Nat → Nat) (D : va_G) (dA : Nat → ClassId) (cl : List vw_C) (tys : List (ClassId × FieldType)) (S : sS) (sz : Nat) (U : State) : Prop :=
  U.heap.size = sz ∧ (∃ ws : va_W, sG (sMk sg tk dA S) ws ∧ va_P D cl ws U.heap ∧ va_D (fun _ => True) ws) ∧ va_K D cl tys U ∧ sKx U
/-- the store S2 in a state, as a method's end has it, that began with S -/
def sB (sg : Nat → List Bool) (tk : Nat → Nat) (D : va_G) (dA : Nat → ClassId) (cl : List vw_C) (S : sS) (sz : Nat) (S2 : sS) (t : State) : Prop :=
  ∃ ws : va_W, sG (sMk sg tk dA S2) ws ∧ va_P D cl ws t.heap ∧ va_D (sA S sz) ws
theorem sP_blind {sg : Nat → List Bool} {tk : Nat → Nat} {D : va_G} {dA : Nat → ClassId} {cl : List vw_C} {tys : List (ClassId × FieldType)} {S : sS} {sz : Nat} {av : List Value} : FrameBlind (va_Pc av (sP sg tk D dA cl tys S sz)) :=
  fun a U g mk q => by
    obtain ⟨q0, q1, q2, qK, qX⟩ := q
    exact ⟨q0, q1, q2, va_K.moved (u := U) (U := U.calling g mk a) (Vm.Alike.refl U.vm) qK, sKx_same (s := U) (U := U.calling g mk a) rfl qX⟩
theorem sW_start {sg : Nat → List Bool} {tk : Nat → Nat} {D : va_G} {dA : Nat → ClassId} {cl : List vw_C} {tys : List (ClassId × FieldType)} {S : sS} {sz : Nat} {s : State} (h : sP sg tk D dA cl tys S sz s) : sW sg tk D dA cl (sA S sz) s.heap S s.heap [] := by
  obtain ⟨hsz, ⟨ws, hG, hP, hD⟩, hK, hX⟩ := h
  refine ⟨fun q hq => Or.inr (by omega), ws, hG, hP, ⟨hD.1, fun k q hk => ?_⟩, va_S.rf⟩
  exact Or.inl (sMk_some ((hG q.1 q.2).mpr ⟨k, hk⟩))
theorem sW.F {sg : Nat → List Bool} {tk : Nat → Nat} {D : va_G} {dA : Nat → ClassId} {cl : List vw_C} {A : Nat → Prop} {s t : State} {S : sS} {H : Heap} {locs : List Loc} (h : sW sg tk D dA cl A s.heap S H locs) (ht : t.heap = H) : va_F A s t := by
  obtain ⟨-, ws, -, -, -, hS⟩ := h
  exact hS.F ht
theorem sW.locs {sg : Nat → List Bool} {tk : Nat → Nat} {D : va_G} {dA : Nat → ClassId} {cl : List vw_C} {A : Nat → Prop} {H0 H : Heap} {S : sS} {locs : List Loc} (h : sW sg tk D dA cl A H0 S H locs) : ∀ q ∈ locs, A q.base := by
  obtain ⟨-, ws, -, -, -, hS⟩ := h
  exact hS.2.2
theorem sW.B {sg : Nat → List Bool} {tk : Nat → Nat} {D : va_G} {dA : Nat → ClassId} {cl : List vw_C} {S0 : sS} {sz : Nat} {H0 H : Heap} {t : State} {S : sS} {locs : List Loc} (h : sW sg tk D dA cl (sA S0 sz) H0 S H locs) (ht : t.heap = H) : sB sg tk D dA cl S0 sz S t := by
  obtain ⟨-, ws, hG, hP, hD, -⟩ := h
  exact ⟨ws, hG, by rw [ht]; exact hP, hD⟩
/-- for a call with the whole store -/
theorem sW.pre {sg : Nat → List Bool} {tk : Nat → Nat} {D : va_G} {dA : Nat → ClassId} {cl : List vw_C} {tys : List (ClassId × FieldType)} {A : Nat → Prop} {H0 H : Heap} {s : State} {S : sS} {locs : List Loc} {av : List Value} (h : sW sg tk D dA cl A H0 S H locs) (hK : va_K D cl tys s) (hX : sKx s) :
    ∀ U : State, U.heap = H → s.WarmedH U.vm → va_Pc av (sP sg tk D dA cl tys S H.size) av.toArray U := by
  obtain ⟨-, ws, hG, hP, hD, -⟩ := h
  intro U hU hW
  exact ⟨rfl, by rw [hU], ⟨ws, hG, by rw [hU]; exact hP, hD.weaken (fun _ _ _ _ => trivial)⟩, va_K.moved hW.alike hK, sKx_warm hW hX⟩
/-- for a call with a part of the store -/
theorem sW.free {sg : Nat → List Bool} {tk : Nat → Nat} {D : va_G} {dA : Nat → ClassId} {cl : List vw_C} {A : Nat → Prop} {H0 H : Heap} {S : sS} {locs : List Loc} (h : sW sg tk D dA cl A H0 S H locs) : ∀ q, sA S H.size q → A q := by
  obtain ⟨hA, ws, hG, hP, hD, hS⟩ := h
  intro q hq
  rcases hq with hq | hq
  · obtain ⟨x, hx⟩ := sMk_ex (sg := sg) (tk := tk) (dA := dA) hq
    obtain ⟨k, hk⟩ := (hG q x).mp hx
    exact hD.2 k _ hk
  · exact hA q (Nat.le_trans hS.1 hq)
theorem sW.recv {sg : Nat → List Bool} {tk : Nat → Nat} {D : va_G} {dA : Nat → ClassId} {cl : List vw_C} {tys : List (ClassId × FieldType)} {A : Nat → Prop} {H0 H : Heap} {s : State} {S : sS} {locs : List Loc} (h : sW sg tk D dA cl A H0 S H locs) (hK : va_K D cl tys s) {a ci : Nat} (ha : S.1 a = some (.inl ci)) {q : vw_C} (hc : cl[ci]? = some q) :
    ∃ cell : Cell, H[a]? = some cell ∧ cell.vm.isStatics = false ∧ s.vm.findClass q.1 = some cell.cls := by
  obtain ⟨-, ws, hG, hP, -, -⟩ := h
  obtain ⟨k, hk⟩ := (hG a _).mp (sMk_obj ha)
  exact va_recv hK hP hc hk
theorem sW.lt {sg : Nat → List Bool} {tk : Nat → Nat} {D : va_G} {dA : Nat → ClassId} {cl : List vw_C} {A : Nat → Prop} {H0 H : Heap} {S : sS} {locs : List Loc} (h : sW sg tk D dA cl A H0 S H locs) {a : Nat} (ha : S.1 a ≠ none) : a < H.size := by
  obtain ⟨-, ws, hG, hP, -, -⟩ := h
  obtain ⟨x, hx⟩ := sMk_ex (sg := sg) (tk := tk) (dA := dA) ha
  obtain ⟨k, hk⟩ := (hG a x).mp hx
  exact (hP k _ hk).lt
theorem rf_narrow (n : String) (x : Option Nat) : narrow (.object n) (va_rf x) = va_rf x := by cases x <;> rfl
theorem rf_fits (n : String) (x : Option Nat) : fits (.object n) (va_rf x) = true := by cases x <;> rfl
theorem rf_narrowA (t : FieldType) (x : Option Nat) : narrow (.array t) (va_rf x) = va_rf x := by cases x <;> rfl
theorem rf_fitsA (t : FieldType) (x : Option Nat) : fits (.array t) (va_rf x) = true := by cases x <;> rfl
theorem rf_cat (x : Option Nat) : (va_rf x).category = 1 := by cases x <;> rfl
