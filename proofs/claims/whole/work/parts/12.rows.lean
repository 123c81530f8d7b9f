section SROWS
variable {p : Program} {l : Launch} {e : Env} {Rm : Room} {s : State} {m : MethodId} {args : Array Value} {below : List Frame} {meth : Method} {c : Code} {H : Heap} {locs : List Loc} {cells slots : Nat} {Q : State → Prop}
variable {cc : ByteArray} {pc : Nat} {ls : Array Slot} {rest st0 : List Value} {D : va_G} {cl : List vw_C} {A : Nat → Prop} {a : Nat} {tys : List (ClassId × FieldType)} {H0 : Heap}
variable {sg : Nat → List Bool} {tk : Nat → Nat} {dA : Nat → ClassId} {kd : Nat → Option sK} {rf : Nat → Nat → Option Nat} {it : Nat → Nat → Int32} {lg : Nat → Nat → Int64}
theorem s_geti (hexec : p.tables.exec = Jvm.exec) (hb : c.code = cc) {own ref C : String} {T : u_T} {N ci index : Nat} {Ts : List Cond} (hts : ∀ w ∈ Ts, w.before args s = true) (hin : ∀ w ∈ u_ws C T N, w ∈ Ts) (hown : s.vm.findClass own = some m.cls) (hK : va_K D cl tys s) (hM : sW sg tk D dA cl A H0 (kd, rf, it, lg) H locs) (ha : kd a = some (.inl ci)) (hc : cl[ci]? = some (C, T, N)) (k : Nat) (hk : k < N) (hg : (sg ci)[k]? = some false) (hlink : (Cond.fieldLink own index ref (T k).2.1 (T k).2.2.1).before args s = true) (hsame : ∀ x, s.fieldFound? (T k).1 (T k).2.1 (T k).2.2.1 = some x → s.fieldFound? ref (T k).2.1 (T k).2.2.1 = some x) (hdg : decode cc pc = .ok (.getfield index, 3))
    (kk : W p l e Rm s m args below meth c H locs cells slots Q (F0 m (pc + 3) ls (.int (it a k) :: rest))) : W p l e Rm s m args below meth c H locs cells slots Q (F0 m pc ls (.ref a :: rest)) := by
  obtain ⟨hAll, ws, hG, hP, hD, hS⟩ := hM
  obtain ⟨q0, hq⟩ := (hG a _).mp (sMk_obj ha)
  exact va_get hexec hb hts hin hown hK hP q0 hq hc k hk hlink hsame (v := .int (it a k)) (by rw [sFs_at _ _ _ (List.getElem?_eq_some_iff.mp hg).1]; simp [List.getD, hg]) hdg kk
theorem s_getr (hexec : p.tables.exec = Jvm.exec) (hb : c.code = cc) {own ref C : String} {T : u_T} {N ci index : Nat} {Ts : List Cond} (hts : ∀ w ∈ Ts, w.before args s = true) (hin : ∀ w ∈ u_ws C T N, w ∈ Ts) (hown : s.vm.findClass own = some m.cls) (hK : va_K D cl tys s) (hM : sW sg tk D dA cl A H0 (kd, rf, it, lg) H locs) (ha : kd a = some (.inl ci)) (hc : cl[ci]? = some (C, T, N)) (k : Nat) (hk : k < N) (hg : (sg ci)[k]? = some true) (hlink : (Cond.fieldLink own index ref (T k).2.1 (T k).2.2.1).before args s = true) (hsame : ∀ x, s.fieldFound? (T k).1 (T k).2.1 (T k).2.2.1 = some x → s.fieldFound? ref (T k).2.1 (T k).2.2.1 = some x) (hdg : decode cc pc = .ok (.getfield index, 3))
    (kk : W p l e Rm s m args below meth c H locs cells slots Q (F0 m (pc + 3) ls (va_rf (rf a k) :: rest))) : W p l e Rm s m args below meth c H locs cells slots Q (F0 m pc ls (.ref a :: rest)) := by
  obtain ⟨hAll, ws, hG, hP, hD, hS⟩ := hM
  obtain ⟨q0, hq⟩ := (hG a _).mp (sMk_obj ha)
  exact va_get hexec hb hts hin hown hK hP q0 hq hc k hk hlink hsame (v := va_rf (rf a k)) (by rw [sFs_at _ _ _ (List.getElem?_eq_some_iff.mp hg).1]; simp [List.getD, hg]) hdg kk
theorem s_puti (hexec : p.tables.exec = Jvm.exec) (hb : c.code = cc) {own ref C : String} {T : u_T} {N ci index : Nat} {Ts : List Cond} (hts : ∀ w ∈ Ts, w.before args s = true) (hin : ∀ w ∈ u_ws C T N, w ∈ Ts) (ty0 : Nat → FieldType) (hty : ∀ k, k < N → parseFieldDescriptor (T k).2.2.1 = some (ty0 k)) (hnm : ∀ a, a < N → ∀ b, b < N → a ≠ b → (T a).2.1 ≠ (T b).2.1) (hown : s.vm.findClass own = some m.cls) (hK : va_K D cl tys s) (hM : sW sg tk D dA cl A H0 (kd, rf, it, lg) H locs) (ha : kd a = some (.inl ci)) (hc : cl[ci]? = some (C, T, N)) (k : Nat) (hk : k < N) (hg : (sg ci)[k]? = some false) (hlink : (Cond.fieldLink own index ref (T k).2.1 (T k).2.2.1).before args s = true) (hsame : ∀ x, s.fieldFound? (T k).1 (T k).2.1 (T k).2.2.1 = some x → s.fieldFound? ref (T k).2.1 (T k).2.2.1 = some x) (hfin : (T k).2.2.2 = false) {x : Int32} (hn : narrow (ty0 k) (.int x) = .int x) (hfit : fits (ty0 k) (.int x) = true) (hdg : decode cc pc = .ok (.putfield index, 3))
    (kk : ∀ (H1 : Heap) (locs1 : List Loc), sW sg tk D dA cl A H0 (kd, rf, up2 it a k x, lg) H1 locs1 → W p l e Rm s m args below meth c H1 locs1 cells slots Q (F0 m (pc + 3) ls rest)) : W p l e Rm s m args below meth c H locs cells slots Q (F0 m pc ls (.int x :: .ref a :: rest)) := by
  obtain ⟨hAll, ws, hG, hP, hD, hS⟩ := hM
  obtain ⟨q0, hq⟩ := (hG a _).mp (sMk_obj ha)
  refine va_put hexec hb hts hin ty0 hty hnm hown hK hP hD hS q0 hq hc k hk hlink hsame hfin (ty := ty0 k) (v := .int x) (hty k hk) hn hfit (by rw [sFs_len]; exact (List.getElem?_eq_some_iff.mp hg).1) hdg fun H1 locs1 hP1 hD1 hS1 => ?_
  exact kk H1 locs1 ⟨hAll, _, by rw [sMk_seti x ha hg]; exact sG_set hG hD hq, hP1, hD1, hS1⟩
theorem s_putr (hexec : p.tables.exec = Jvm.exec) (hb : c.code = cc) {own ref C : String} {T : u_T} {N ci index : Nat} {Ts : List Cond} (hts : ∀ w ∈ Ts, w.before args s = true) (hin : ∀ w ∈ u_ws C T N, w ∈ Ts) (ty0 : Nat → FieldType) (hty : ∀ k, k < N → parseFieldDescriptor (T k).2.2.1 = some (ty0 k)) (hnm : ∀ a, a < N → ∀ b, b < N → a ≠ b → (T a).2.1 ≠ (T b).2.1) (hown : s.vm.findClass own = some m.cls) (hK : va_K D cl tys s) (hM : sW sg tk D dA cl A H0 (kd, rf, it, lg) H locs) (ha : kd a = some (.inl ci)) (hc : cl[ci]? = some (C, T, N)) (k : Nat) (hk : k < N) (hg : (sg ci)[k]? = some true) (hlink : (Cond.fieldLink own index ref (T k).2.1 (T k).2.2.1).before args s = true) (hsame : ∀ x, s.fieldFound? (T k).1 (T k).2.1 (T k).2.2.1 = some x → s.fieldFound? ref (T k).2.1 (T k).2.2.1 = some x) (hfin : (T k).2.2.2 = false) (x : Option Nat) (hn : narrow (ty0 k) (va_rf x) = va_rf x) (hfit : fits (ty0 k) (va_rf x) = true) (hdg : decode cc pc = .ok (.putfield index, 3))
    (kk : ∀ (H1 : Heap) (locs1 : List Loc), sW sg tk D dA cl A H0 (kd, up2 rf a k x, it, lg) H1 locs1 → W p l e Rm s m args below meth c H1 locs1 cells slots Q (F0 m (pc + 3) ls rest)) : W p l e Rm s m args below meth c H locs cells slots Q (F0 m pc ls (va_rf x :: .ref a :: rest)) := by
  obtain ⟨hAll, ws, hG, hP, hD, hS⟩ := hM
  obtain ⟨q0, hq⟩ := (hG a _).mp (sMk_obj ha)
  refine va_put hexec hb hts hin ty0 hty hnm hown hK hP hD hS q0 hq hc k hk hlink hsame hfin (ty := ty0 k) (v := va_rf x) (hty k hk) hn hfit (by rw [sFs_len]; exact (List.getElem?_eq_some_iff.mp hg).1) hdg fun H1 locs1 hP1 hD1 hS1 => ?_
  exact kk H1 locs1 ⟨hAll, _, by rw [sMk_setr x ha hg]; exact sG_set hG hD hq, hP1, hD1, hS1⟩
/-- final fields, in a constructor -/
theorem s_putFi (hexec : p.tables.exec = Jvm.exec) (hb : c.code = cc) {own ref C : String} {T : u_T} {N ci index : Nat} {Ts : List Cond} (hts : ∀ w ∈ Ts, w.before args s = true) (hin : ∀ w ∈ u_ws C T N, w ∈ Ts) (ty0 : Nat → FieldType) (hty : ∀ k, k < N → parseFieldDescriptor (T k).2.2.1 = some (ty0 k)) (hnm : ∀ a, a < N → ∀ b, b < N → a ≠ b → (T a).2.1 ≠ (T b).2.1) (hown : s.vm.findClass own = some m.cls) (hK : va_K D cl tys s) (hM : sW sg tk D dA cl A H0 (kd, rf, it, lg) H locs) (ha : kd a = some (.inl ci)) (hc : cl[ci]? = some (C, T, N)) (k : Nat) (hk : k < N) (hg : (sg ci)[k]? = some false) (hlink : (Cond.fieldLink own index ref (T k).2.1 (T k).2.2.1).before args s = true) (hsame : ∀ x, s.fieldFound? (T k).1 (T k).2.1 (T k).2.2.1 = some x → s.fieldFound? ref (T k).2.1 (T k).2.2.1 = some x) (hfin : (T k).2.2.2 = true) (hin2 : meth.name = "<init>") (hdecl : (T k).1 = own) {x : Int32} (hn : narrow (ty0 k) (.int x) = .int x) (hfit : fits (ty0 k) (.int x) = true) (hdg : decode cc pc = .ok (.putfield index, 3))
    (kk : ∀ (H1 : Heap) (locs1 : List Loc), sW sg tk D dA cl A H0 (kd, rf, up2 it a k x, lg) H1 locs1 → W p l e Rm s m args below meth c H1 locs1 cells slots Q (F0 m (pc + 3) ls rest)) : W p l e Rm s m args below meth c H locs cells slots Q (F0 m pc ls (.int x :: .ref a :: rest)) := by
  obtain ⟨hAll, ws, hG, hP, hD, hS⟩ := hM
  obtain ⟨q0, hq⟩ := (hG a _).mp (sMk_obj ha)
  refine va_putF hexec hb hts hin ty0 hty hnm hown hK hP hD hS q0 hq hc k hk hlink hsame hfin hin2 hdecl (ty := ty0 k) (v := .int x) (hty k hk) hn hfit (by rw [sFs_len]; exact (List.getElem?_eq_some_iff.mp hg).1) hdg fun H1 locs1 hP1 hD1 hS1 => ?_
  exact kk H1 locs1 ⟨hAll, _, by rw [sMk_seti x ha hg]; exact sG_set hG hD hq, hP1, hD1, hS1⟩
theorem s_putFr (hexec : p.tables.exec = Jvm.exec) (hb : c.code = cc) {own ref C : String} {T : u_T} {N ci index : Nat} {Ts : List Cond} (hts : ∀ w ∈ Ts, w.before args s = true) (hin : ∀ w ∈ u_ws C T N, w ∈ Ts) (ty0 : Nat → FieldType) (hty : ∀ k, k < N → parseFieldDescriptor (T k).2.2.1 = some (ty0 k)) (hnm : ∀ a, a < N → ∀ b, b < N → a ≠ b → (T a).2.1 ≠ (T b).2.1) (hown : s.vm.findClass own = some m.cls) (hK : va_K D cl tys s) (hM : sW sg tk D dA cl A H0 (kd, rf, it, lg) H locs) (ha : kd a = some (.inl ci)) (hc : cl[ci]? = some (C, T, N)) (k : Nat) (hk : k < N) (hg : (sg ci)[k]? = some true) (hlink : (Cond.fieldLink own index ref (T k).2.1 (T k).2.2.1).before args s = true) (hsame : ∀ x, s.fieldFound? (T k).1 (T k).2.1 (T k).2.2.1 = some x → s.fieldFound? ref (T k).2.1 (T k).2.2.1 = some x) (hfin : (T k).2.2.2 = true) (hin2 : meth.name = "<init>") (hdecl : (T k).1 = own) (x : Option Nat) (hn : narrow (ty0 k) (va_rf x) = va_rf x) (hfit : fits (ty0 k) (va_rf x) = true) (hdg : decode cc pc = .ok (.putfield index, 3))
    (kk : ∀ (H1 : Heap) (locs1 : List Loc), sW sg tk D dA cl A H0 (kd, up2 rf a k x, it, lg) H1 locs1 → W p l e Rm s m args below meth c H1 locs1 cells slots Q (F0 m (pc + 3) ls rest)) : W p l e Rm s m args below meth c H locs cells slots Q (F0 m pc ls (va_rf x :: .ref a :: rest)) := by
  obtain ⟨hAll, ws, hG, hP, hD, hS⟩ := hM
  obtain ⟨q0, hq⟩ := (hG a _).mp (sMk_obj ha)
  refine va_putF hexec hb hts hin ty0 hty hnm hown hK hP hD hS q0 hq hc k hk hlink hsame hfin hin2 hdecl (ty := ty0 k) (v := va_rf x) (hty k hk) hn hfit (by rw [sFs_len]; exact (List.getElem?_eq_some_iff.mp hg).1) hdg fun H1 locs1 hP1 hD1 hS1 => ?_
  exact kk H1 locs1 ⟨hAll, _, by rw [sMk_setr x ha hg]; exact sG_set hG hD hq, hP1, hD1, hS1⟩
/-- a new object -/
theorem s_new {S : sS} (hexec : p.tables.exec = Jvm.exec) (hb : c.code = cc) {own C : String} {T : u_T} {N ci index : Nat} {Ts : List Cond} (hts : ∀ w ∈ Ts, w.before args s = true) (hin : ∀ w ∈ u_ws C T N, w ∈ Ts) (ty : Nat → FieldType) (hty : ∀ k, k < N → parseFieldDescriptor (T k).2.2.1 = some (ty k)) (hown : s.vm.findClass own = some m.cls) (hcl : (Cond.classLink own index C).before args s = true) (hinst : (Cond.instantiable C N).before args s = true) (hini : (Cond.initialized C).before args s = true)
    (hK : va_K D cl tys s) (hM : sW sg tk D dA cl A H0 S H locs) (hc : cl[ci]? = some (C, T, N)) (hfs : ∀ j, j < N → defaultValue (ty j) = vp_V (sFs (sg ci) (fun _ => none) (fun _ => 0)) j) (hcells : cells + 1 ≤ Rm.cells) (hslots : slots + N ≤ Rm.slots) (hdg : decode cc pc = .ok (.new index, 3))
    (kk : ∀ (q : Nat) (H1 : Heap), S.1 q = none → sW sg tk D dA cl A H0 (sNew S q (.inl ci)) H1 locs → W p l e Rm s m args below meth c H1 locs (cells + 1) (slots + N) Q (F0 m (pc + 3) ls (.ref q :: rest))) : W p l e Rm s m args below meth c H locs cells slots Q (F0 m pc ls rest) := by
  obtain ⟨hAll, ws, hG, hP, hD, hS⟩ := hM
  refine va_new hexec hb hts hin ty hty hown hcl hinst hini hK hP hD hS hAll hc hfs hcells hslots hdg fun q H1 hP1 hD1 hS1 => ?_
  have hq := sG_fresh hG hD1
  refine kk q H1 ?_ ⟨hAll, _, by rw [sMk_newo]; exact sG_push hG hD1, hP1, hD1, hS1⟩
  cases hz : S.1 q with
  | none => rfl
  | some y =>
    obtain ⟨x, hx⟩ := sMk_ex (sg := sg) (tk := tk) (dA := dA) (S := S) (a := q) (by rw [hz]; exact fun h => by cases h)
    rw [hx] at hq
    cases hq
/-- a new array of ints or their like (kind 0) -/
theorem s_newi {S : sS} {t : Nat} (hexec : p.tables.exec = Jvm.exec) (hb : c.code = cc) {atype : ArrayType} (harr : (Cond.arrayClass (newarray.typeOf atype)).before args s = true) {ty : FieldType} (hty : newarray.typeOf atype = ty) (hd0 : defaultValue ty = .int 0) (hRA : ∀ cA, va_RA s cA ty → s.vm.findClass ("[" ++ ty.toString) = some cA) (hK : va_K D cl tys s) (ht : tys[t]? = some (dA t, ty)) (htk : tk t = 0) (hM : sW sg tk D dA cl A H0 S H locs)
    {n : Int32} {N' : Nat} (hn : ¬ n < 0) (hN : n.toNatClampNeg = N') (hbytes : N' * componentBytes ty ≤ 536870912) (hcells : cells + 1 ≤ Rm.cells) (hslots : slots + N' ≤ Rm.slots) (hdg : decode cc pc = .ok (.newarray atype, 2))
    (kk : ∀ (q : Nat) (H1 : Heap), S.1 q = none → sW sg tk D dA cl A H0 (sNew S q (.inr (t, N'))) H1 locs → W p l e Rm s m args below meth c H1 locs (cells + 1) (slots + N') Q (F0 m (pc + 2) ls (.ref q :: rest))) : W p l e Rm s m args below meth c H locs cells slots Q (F0 m pc ls (.int n :: rest)) := by
  obtain ⟨hAll, ws, hG, hP, hD, hS⟩ := hM
  refine va_newa hexec hb harr hty hK hP hD hS hAll (a0 := (N', .inl (fun _ => 0))) (fun cA => by rw [vp_cell_i, hd0]) hn hN hbytes hcells hslots hdg fun q cA H1 hK1 hP1 hD1 hS1 => ?_
  have h1 := hRA _ (hK1.2 tys.length (cA, ty) (by rw [List.getElem?_append_right (Nat.le_refl _), Nat.sub_self]; rfl)).2
  have h2 := hRA _ (hK.2 t _ ht).2
  have hcA : cA = dA t := Option.some.inj (h1.symm.trans h2)
  subst hcA
  have hq := sG_fresh hG hD1
  refine kk q H1 ?_ ⟨hAll, _, by rw [sMk_newa, htk]; exact sG_push hG hD1, hP1, hD1, hS1⟩
  cases hz : S.1 q with
  | none => rfl
  | some y =>
    obtain ⟨x, hx⟩ := sMk_ex (sg := sg) (tk := tk) (dA := dA) (S := S) (a := q) (by rw [hz]; exact fun h => by cases h)
    rw [hx] at hq
    cases hq
/-- a new array of longs (kind 1) -/
theorem s_newl {S : sS} {t : Nat} (hexec : p.tables.exec = Jvm.exec) (hb : c.code = cc) {atype : ArrayType} (harr : (Cond.arrayClass (newarray.typeOf atype)).before args s = true) (hty : newarray.typeOf atype = .long) (hK : va_K D cl tys s) (ht : tys[t]? = some (dA t, .long)) (htk : tk t = 1) (hM : sW sg tk D dA cl A H0 S H locs)
    {n : Int32} {N' : Nat} (hn : ¬ n < 0) (hN : n.toNatClampNeg = N') (hbytes : N' * componentBytes .long ≤ 536870912) (hcells : cells + 1 ≤ Rm.cells) (hslots : slots + N' ≤ Rm.slots) (hdg : decode cc pc = .ok (.newarray atype, 2))
    (kk : ∀ (q : Nat) (H1 : Heap), S.1 q = none → sW sg tk D dA cl A H0 (sNew S q (.inr (t, N'))) H1 locs → W p l e Rm s m args below meth c H1 locs (cells + 1) (slots + N') Q (F0 m (pc + 2) ls (.ref q :: rest))) : W p l e Rm s m args below meth c H locs cells slots Q (F0 m pc ls (.int n :: rest)) := by
  obtain ⟨hAll, ws, hG, hP, hD, hS⟩ := hM
  refine va_newa hexec hb harr hty hK hP hD hS hAll (a0 := (N', .inr (.inl (fun _ => 0)))) (fun cA => by rw [vp_cell_l]; rfl) hn hN hbytes hcells hslots hdg fun q cA H1 hK1 hP1 hD1 hS1 => ?_
  have h1 : s.vm.findClass ("[" ++ FieldType.long.toString) = some cA := (hK1.2 tys.length (cA, .long) (by rw [List.getElem?_append_right (Nat.le_refl _), Nat.sub_self]; rfl)).2
  have h2 : s.vm.findClass ("[" ++ FieldType.long.toString) = some (dA t) := (hK.2 t _ ht).2
  have hcA : cA = dA t := Option.some.inj (h1.symm.trans h2)
  subst hcA
  have hq := sG_fresh hG hD1
  refine kk q H1 ?_ ⟨hAll, _, by rw [sMk_newa, htk]; exact sG_push hG hD1, hP1, hD1, hS1⟩
  cases hz : S.1 q with
  | none => rfl
  | some y =>
    obtain ⟨x, hx⟩ := sMk_ex (sg := sg) (tk := tk) (dA := dA) (S := S) (a := q) (by rw [hz]; exact fun h => by cases h)
    rw [hx] at hq
    cases hq
/-- a new array of references (kind 2) -/
theorem s_newq {S : sS} {t : Nat} (hexec : p.tables.exec = Jvm.exec) (hb : c.code = cc) {own C : String} {index : Nat} (hown : s.vm.findClass own = some m.cls) (hclink : (Cond.classLink own index C).before args s = true) (hover : (Cond.arrayOver (.object C)).before args s = true) (hK : va_K D cl tys s) (ht : tys[t]? = some (dA t, .object C)) (htk : tk t = 2) (hM : sW sg tk D dA cl A H0 S H locs)
    {n : Int32} {N' : Nat} (hn : ¬ n < 0) (hN : n.toNatClampNeg = N') (hbytes : N' * 4 ≤ 536870912) (hcells : cells + 1 ≤ Rm.cells) (hslots : slots + N' ≤ Rm.slots) (hdg : decode cc pc = .ok (.anewarray index, 3))
    (kk : ∀ (q : Nat) (H1 : Heap), S.1 q = none → sW sg tk D dA cl A H0 (sNew S q (.inr (t, N'))) H1 locs → W p l e Rm s m args below meth c H1 locs (cells + 1) (slots + N') Q (F0 m (pc + 3) ls (.ref q :: rest))) : W p l e Rm s m args below meth c H locs cells slots Q (F0 m pc ls (.int n :: rest)) := by
  obtain ⟨hAll, ws, hG, hP, hD, hS⟩ := hM
  refine va_newq hexec hb hown hclink (va_AO.of hover) hK hP hD hS hAll hn hN hbytes hcells hslots hdg fun q cA H1 hK1 hP1 hD1 hS1 => ?_
  obtain ⟨_, _, -, -, -, h1⟩ := (hK1.2 tys.length (cA, .object C) (by rw [List.getElem?_append_right (Nat.le_refl _), Nat.sub_self]; rfl)).2
  obtain ⟨_, _, -, -, -, h2⟩ := (hK.2 t _ ht).2
  have hcA : cA = dA t := Option.some.inj (h1.symm.trans h2)
  subst hcA
  have hq := sG_fresh hG hD1
  refine kk q H1 ?_ ⟨hAll, _, by rw [sMk_newa, htk]; exact sG_push hG hD1, hP1, hD1, hS1⟩
  cases hz : S.1 q with
  | none => rfl
  | some y =>
    obtain ⟨x, hx⟩ := sMk_ex (sg := sg) (tk := tk) (dA := dA) (S := S) (a := q) (by rw [hz]; exact fun h => by cases h)
    rw [hx] at hq
    cases hq
theorem sMk_ki {S : sS} {t n : Nat} (h : S.1 a = some (.inr (t, n))) (ht : tk t = 0) : sMk sg tk dA S a = some (.inl (dA t, n, .inl (S.2.2.1 a))) := by rw [sMk_arr h, ht]; rfl
theorem sMk_kl {S : sS} {t n : Nat} (h : S.1 a = some (.inr (t, n))) (ht : tk t = 1) : sMk sg tk dA S a = some (.inl (dA t, n, .inr (.inl (S.2.2.2 a)))) := by rw [sMk_arr h, ht]; rfl
theorem sMk_kq {S : sS} {t n : Nat} (h : S.1 a = some (.inr (t, n))) (ht : tk t = 2) : sMk sg tk dA S a = some (.inl (dA t, n, .inr (.inr (.inr (.inr (S.2.1 a)))))) := by rw [sMk_arr h, ht]; rfl
theorem s_ild (hexec : p.tables.exec = Jvm.exec) (hb : c.code = cc) (hK : va_K D cl tys s) (hM : sW sg tk D dA cl A H0 (kd, rf, it, lg) H locs) {t n : Nat} (ha : kd a = some (.inr (t, n))) (htk : tk t = 0) (ht : tys[t]? = some (dA t, .int)) {i : Int32} (hin : vp_in i n) (hdg : decode cc pc = .ok (.iaload, 1))
    (kk : W p l e Rm s m args below meth c H locs cells slots Q (F0 m (pc + 1) ls (.int (it a i.toNatClampNeg) :: rest))) : W p l e Rm s m args below meth c H locs cells slots Q (F0 m pc ls (.int i :: .ref a :: rest)) := by
  obtain ⟨hAll, ws, hG, hP, hD, hS⟩ := hM
  obtain ⟨q0, hq⟩ := (hG a _).mp (sMk_ki ha htk)
  exact va_iald hexec hb hK hP q0 t hq ht hin hdg kk
theorem s_zld (hexec : p.tables.exec = Jvm.exec) (hb : c.code = cc) (hK : va_K D cl tys s) (hM : sW sg tk D dA cl A H0 (kd, rf, it, lg) H locs) {t n : Nat} (ha : kd a = some (.inr (t, n))) (htk : tk t = 0) (ht : tys[t]? = some (dA t, .boolean)) {i : Int32} (hin : vp_in i n) (hdg : decode cc pc = .ok (.baload, 1))
    (kk : W p l e Rm s m args below meth c H locs cells slots Q (F0 m (pc + 1) ls (.int (it a i.toNatClampNeg) :: rest))) : W p l e Rm s m args below meth c H locs cells slots Q (F0 m pc ls (.int i :: .ref a :: rest)) := by
  obtain ⟨hAll, ws, hG, hP, hD, hS⟩ := hM
  obtain ⟨q0, hq⟩ := (hG a _).mp (sMk_ki ha htk)
  exact va_zald hexec hb hK hP q0 t hq ht hin hdg kk
theorem s_lld (hexec : p.tables.exec = Jvm.exec) (hb : c.code = cc) (hK : va_K D cl tys s) (hM : sW sg tk D dA cl A H0 (kd, rf, it, lg) H locs) {t n : Nat} (ha : kd a = some (.inr (t, n))) (htk : tk t = 1) (ht : tys[t]? = some (dA t, .long)) {i : Int32} (hin : vp_in i n) (hdg : decode cc pc = .ok (.laload, 1))
    (kk : W p l e Rm s m args below meth c H locs cells slots Q (F0 m (pc + 1) ls (.long (lg a i.toNatClampNeg) :: rest))) : W p l e Rm s m args below meth c H locs cells slots Q (F0 m pc ls (.int i :: .ref a :: rest)) := by
  obtain ⟨hAll, ws, hG, hP, hD, hS⟩ := hM
  obtain ⟨q0, hq⟩ := (hG a _).mp (sMk_kl ha htk)
  exact va_lald hexec hb hK hP q0 t hq ht hin hdg kk
theorem s_ald (hexec : p.tables.exec = Jvm.exec) (hb : c.code = cc) (hK : va_K D cl tys s) (hM : sW sg tk D dA cl A H0 (kd, rf, it, lg) H locs) {C : String} {t n : Nat} (ha : kd a = some (.inr (t, n))) (htk : tk t = 2) (ht : tys[t]? = some (dA t, .object C)) {i : Int32} (hin : vp_in i n) (hdg : decode cc pc = .ok (.aaload, 1))
    (kk : W p l e Rm s m args below meth c H locs cells slots Q (F0 m (pc + 1) ls (va_rf (rf a i.toNatClampNeg) :: rest))) : W p l e Rm s m args below meth c H locs cells slots Q (F0 m pc ls (.int i :: .ref a :: rest)) := by
  obtain ⟨hAll, ws, hG, hP, hD, hS⟩ := hM
  obtain ⟨q0, hq⟩ := (hG a _).mp (sMk_kq ha htk)
  exact va_aldq hexec hb hK hP q0 t hq ht hin hdg kk
theorem s_len (hexec : p.tables.exec = Jvm.exec) (hb : c.code = cc) (hK : va_K D cl tys s) (hM : sW sg tk D dA cl A H0 (kd, rf, it, lg) H locs) {ty : FieldType} {t n : Nat} (ha : kd a = some (.inr (t, n))) (ht : tys[t]? = some (dA t, ty)) (hdg : decode cc pc = .ok (.arraylength, 1))
    (kk : W p l e Rm s m args below meth c H locs cells slots Q (F0 m (pc + 1) ls (.int (nI n) :: rest))) : W p l e Rm s m args below meth c H locs cells slots Q (F0 m pc ls (.ref a :: rest)) := by
  obtain ⟨hAll, ws, hG, hP, hD, hS⟩ := hM
  obtain ⟨q0, hq⟩ := (hG a _).mp (sMk_arr ha)
  exact va_alen hexec hb hK hP q0 t hq ht (v := nI n) rfl hdg kk
theorem s_ist (hexec : p.tables.exec = Jvm.exec) (hb : c.code = cc) (hK : va_K D cl tys s) (hM : sW sg tk D dA cl A H0 (kd, rf, it, lg) H locs) {t n : Nat} (ha : kd a = some (.inr (t, n))) (htk : tk t = 0) (ht : tys[t]? = some (dA t, .int)) {i x : Int32} (hin : vp_in i n) (hdg : decode cc pc = .ok (.iastore, 1))
    (kk : ∀ (H1 : Heap) (locs1 : List Loc), sW sg tk D dA cl A H0 (kd, rf, up2 it a i.toNatClampNeg x, lg) H1 locs1 → W p l e Rm s m args below meth c H1 locs1 cells slots Q (F0 m (pc + 1) ls rest)) : W p l e Rm s m args below meth c H locs cells slots Q (F0 m pc ls (.int x :: .int i :: .ref a :: rest)) := by
  obtain ⟨hAll, ws, hG, hP, hD, hS⟩ := hM
  obtain ⟨q0, hq⟩ := (hG a _).mp (sMk_ki ha htk)
  refine va_iast hexec hb hK hP hD hS q0 t hq ht hin hdg fun H1 locs1 hP1 hD1 hS1 => ?_
  exact kk H1 locs1 ⟨hAll, _, by rw [sMk_ari x ha htk]; exact sG_set hG hD hq, hP1, hD1, hS1⟩
theorem s_lst (hexec : p.tables.exec = Jvm.exec) (hb : c.code = cc) (hK : va_K D cl tys s) (hM : sW sg tk D dA cl A H0 (kd, rf, it, lg) H locs) {t n : Nat} (ha : kd a = some (.inr (t, n))) (htk : tk t = 1) (ht : tys[t]? = some (dA t, .long)) {i : Int32} {x : Int64} (hin : vp_in i n) (hdg : decode cc pc = .ok (.lastore, 1))
    (kk : ∀ (H1 : Heap) (locs1 : List Loc), sW sg tk D dA cl A H0 (kd, rf, it, up2 lg a i.toNatClampNeg x) H1 locs1 → W p l e Rm s m args below meth c H1 locs1 cells slots Q (F0 m (pc + 1) ls rest)) : W p l e Rm s m args below meth c H locs cells slots Q (F0 m pc ls (.long x :: .int i :: .ref a :: rest)) := by
  obtain ⟨hAll, ws, hG, hP, hD, hS⟩ := hM
  obtain ⟨q0, hq⟩ := (hG a _).mp (sMk_kl ha htk)
  refine va_last hexec hb hK hP hD hS q0 t hq ht hin hdg fun H1 locs1 hP1 hD1 hS1 => ?_
  exact kk H1 locs1 ⟨hAll, _, by rw [sMk_arl x ha htk]; exact sG_set hG hD hq, hP1, hD1, hS1⟩
theorem s_ast (hexec : p.tables.exec = Jvm.exec) (hb : c.code = cc) (hK : va_K D cl tys s) (hM : sW sg tk D dA cl A H0 (kd, rf, it, lg) H locs) {r : vw_C} {t n v ci : Nat} (ha : kd a = some (.inr (t, n))) (htk : tk t = 2) (ht : tys[t]? = some (dA t, .object r.1)) (hv : kd v = some (.inl ci)) (hc : cl[ci]? = some r) {i : Int32} (hin : vp_in i n) (hdg : decode cc pc = .ok (.aastore, 1))
    (kk : ∀ (H1 : Heap) (locs1 : List Loc), sW sg tk D dA cl A H0 (kd, up2 rf a i.toNatClampNeg (some v), it, lg) H1 locs1 → W p l e Rm s m args below meth c H1 locs1 cells slots Q (F0 m (pc + 1) ls rest)) : W p l e Rm s m args below meth c H locs cells slots Q (F0 m pc ls (.ref v :: .int i :: .ref a :: rest)) := by
  obtain ⟨hAll, ws, hG, hP, hD, hS⟩ := hM
  obtain ⟨q0, hq⟩ := (hG a _).mp (sMk_kq ha htk)
  obtain ⟨q1, hq1⟩ := (hG v _).mp (sMk_obj hv)
  refine va_astq hexec hb hK hP hD hS q0 t q1 ci hq ht hq1 hc hin hdg fun H1 locs1 hP1 hD1 hS1 => ?_
  exact kk H1 locs1 ⟨hAll, _, by rw [sMk_arq (some v) ha htk]; exact sG_set hG hD hq, hP1, hD1, hS1⟩
/-- a call with the whole store, behind which the store is u -/
theorem s_calli {S : sS} {mc ms : Nat} {a : Array Value} {post : Int32 → sS → Prop} (hr : va_Run p l e Rm s m args below meth c H locs cells slots mc ms (F0 m pc ls st0) rest (va_Qi post (sB sg tk D dA cl S H.size) (sA S H.size) a) (sA S H.size)) (hM : sW sg tk D dA cl A H0 S H locs)
    (kk : ∀ (r : Int32) (u : sS) (H1 : Heap) (locs1 : List Loc), post r u → sW sg tk D dA cl A H0 u H1 locs1 → W p l e Rm s m args below meth c H1 locs1 (cells + mc) (slots + ms) Q (F0 m (pc + 3) ls (.int r :: rest))) : W p l e Rm s m args below meth c H locs cells slots Q (F0 m pc ls st0) := by
  have hf := hM.free
  obtain ⟨hAll, ws, hG, hP, hD, hS⟩ := hM
  refine va_calli hr hS (fun q _ h => hf q h) hf fun r u t H1 locs1 ht hvm hp hB hz hk hS1 => ?_
  obtain ⟨ws1, hG1, hP1, hD1⟩ := hB
  exact kk r u H1 locs1 hp ⟨hAll, ws1, hG1, by rw [← ht]; exact hP1, hD1.weaken (fun _ _ _ h => hf _ h), hS1⟩
theorem s_callv {S : sS} {mc ms : Nat} {a : Array Value} {post : sS → Prop} (hr : va_Run p l e Rm s m args below meth c H locs cells slots mc ms (F0 m pc ls st0) rest (va_Qv post (sB sg tk D dA cl S H.size) (sA S H.size) a) (sA S H.size)) (hM : sW sg tk D dA cl A H0 S H locs)
    (kk : ∀ (u : sS) (H1 : Heap) (locs1 : List Loc), post u → sW sg tk D dA cl A H0 u H1 locs1 → W p l e Rm s m args below meth c H1 locs1 (cells + mc) (slots + ms) Q (F0 m (pc + 3) ls rest)) : W p l e Rm s m args below meth c H locs cells slots Q (F0 m pc ls st0) := by
  have hf := hM.free
  obtain ⟨hAll, ws, hG, hP, hD, hS⟩ := hM
  refine va_callv hr hS (fun q _ h => hf q h) hf fun u t H1 locs1 ht hvm hp hB hz hk hS1 => ?_
  obtain ⟨ws1, hG1, hP1, hD1⟩ := hB
  exact kk u H1 locs1 hp ⟨hAll, ws1, hG1, by rw [← ht]; exact hP1, hD1.weaken (fun _ _ _ h => hf _ h), hS1⟩
theorem s_callq {S : sS} {mc ms : Nat} {a : Array Value} {post : Option Nat → sS → Prop} (hr : va_Run p l e Rm s m args below meth c H locs cells slots mc ms (F0 m pc ls st0) rest (va_Qq post (sB sg tk D dA cl S H.size) (sA S H.size) a) (sA S H.size)) (hM : sW sg tk D dA cl A H0 S H locs)
    (kk : ∀ (r : Option Nat) (u : sS) (H1 : Heap) (locs1 : List Loc), post r u → sW sg tk D dA cl A H0 u H1 locs1 → W p l e Rm s m args below meth c H1 locs1 (cells + mc) (slots + ms) Q (F0 m (pc + 3) ls (va_rf r :: rest))) : W p l e Rm s m args below meth c H locs cells slots Q (F0 m pc ls st0) := by
  have hf := hM.free
  obtain ⟨hAll, ws, hG, hP, hD, hS⟩ := hM
  refine va_callq hr hS (fun q _ h => hf q h) hf fun r u t H1 locs1 ht hvm hp hB hz hk hS1 => ?_
  obtain ⟨ws1, hG1, hP1, hD1⟩ := hB
  exact kk r u H1 locs1 hp ⟨hAll, ws1, hG1, by rw [← ht]; exact hP1, hD1.weaken (fun _ _ _ h => hf _ h), hS1⟩
/-- ends -/
theorem s_iret {S0 S : sS} {sz : Nat} {post : Int32 → sS → Prop} {v : Int32} (hexec : p.tables.exec = Jvm.exec) (hb : c.code = cc) (hr : meth.sig.returnType = some .int) (hM : sW sg tk D dA cl (sA S0 sz) s.heap S H locs) (hp : post v S) (hdg : decode cc pc = .ok (.ireturn, 1)) (hlocks : meth.locks = false) :
    W p l e Rm s m args below meth c H locs cells slots (MQ below (va_Qi post (sB sg tk D dA cl S0 sz) (sA S0 sz)) args s cells slots (sA S0 sz)) (F0 m pc ls [.int v]) :=
  W.iret (v := v) hexec hb hr (fun t ht hW => ⟨⟨v, S, rfl, hp, hM.B ht⟩, hM.F ht⟩) hM.locs hdg hlocks
theorem s_zret {S0 S : sS} {sz : Nat} {post : Int32 → sS → Prop} {v : Int32} {ty : FieldType} (hexec : p.tables.exec = Jvm.exec) (hb : c.code = cc) (hr : meth.sig.returnType = some ty) (hn : narrow ty (.int v) = .int v) (hM : sW sg tk D dA cl (sA S0 sz) s.heap S H locs) (hp : post v S) (hdg : decode cc pc = .ok (.ireturn, 1)) (hlocks : meth.locks = false) :
    W p l e Rm s m args below meth c H locs cells slots (MQ below (va_Qi post (sB sg tk D dA cl S0 sz) (sA S0 sz)) args s cells slots (sA S0 sz)) (F0 m pc ls [.int v]) :=
  W.zret (v := v) hexec hb hr hn (fun t ht hW => ⟨⟨v, S, rfl, hp, hM.B ht⟩, hM.F ht⟩) hM.locs hdg hlocks
theorem s_vret {S0 S : sS} {sz : Nat} {post : sS → Prop} (hexec : p.tables.exec = Jvm.exec) (hb : c.code = cc) (hr : meth.sig.returnType = none) (hM : sW sg tk D dA cl (sA S0 sz) s.heap S H locs) (hp : post S) (hdg : decode cc pc = .ok (.return_, 1)) (hlocks : meth.locks = false) :
    W p l e Rm s m args below meth c H locs cells slots (MQ below (va_Qv post (sB sg tk D dA cl S0 sz) (sA S0 sz)) args s cells slots (sA S0 sz)) (F0 m pc ls []) :=
  W.vret hexec hb hr (fun t ht hW => ⟨⟨S, rfl, hp, hM.B ht⟩, hM.F ht⟩) hM.locs hdg hlocks
theorem s_qret {S0 S : sS} {sz : Nat} {post : Option Nat → sS → Prop} (v : Option Nat) {rt : FieldType} (hexec : p.tables.exec = Jvm.exec) (hb : c.code = cc) (hr : meth.sig.returnType = some rt) (hrt : (∃ n, rt = .object n) ∨ ∃ t, rt = .array t) (hM : sW sg tk D dA cl (sA S0 sz) s.heap S H locs) (hp : post v S) (hdg : decode cc pc = .ok (.areturn, 1)) (hlocks : meth.locks = false) :
    W p l e Rm s m args below meth c H locs cells slots (MQ below (va_Qq post (sB sg tk D dA cl S0 sz) (sA S0 sz)) args s cells slots (sA S0 sz)) (F0 m pc ls [va_rf v]) :=
  W.aret (v := va_rf v) hexec hb hr hrt (va_rf_or v) (fun t ht hW => ⟨⟨v, S, rfl, hp, hM.B ht⟩, hM.F ht⟩) hM.locs hdg hlocks
/-- locals and branches over references that may be null -/
theorem q_aload_n (hexec : p.tables.exec = Jvm.exec) (hb : c.code = cc) {k : Fin 4} {i : Nat} {x : Option Nat} (hdg : decode cc pc = .ok (.aload_n k, 1)) (hi : (k : Nat) = i) (hl : ls[i]? = some (.val (va_rf x)))
    (kk : W p l e Rm s m args below meth c H locs cells slots Q (F0 m (pc + 1) ls (va_rf x :: rest))) : W p l e Rm s m args below meth c H locs cells slots Q (F0 m pc ls rest) := by
  cases x with
  | none => exact lv_aload_nN hexec hb hdg hi hl kk
  | some y => exact lv_aload_n hexec hb hdg hi hl kk
theorem q_aload (hexec : p.tables.exec = Jvm.exec) (hb : c.code = cc) {i : Nat} {x : Option Nat} (hdg : decode cc pc = .ok (.aload i, 2)) (hl : ls[i]? = some (.val (va_rf x)))
    (kk : W p l e Rm s m args below meth c H locs cells slots Q (F0 m (pc + 2) ls (va_rf x :: rest))) : W p l e Rm s m args below meth c H locs cells slots Q (F0 m pc ls rest) := by
  cases x with
  | none => exact lv_aloadN hexec hb hdg hl kk
  | some y => exact lv_aload hexec hb hdg hl kk
theorem q_ifnull (hexec : p.tables.exec = Jvm.exec) (hb : c.code = cc) {x : Option Nat} {off : Int} {tgt : Nat} (hdg : decode cc pc = .ok (.ifnull off, 3)) (ht : (pc : Int) + off = (tgt : Int))
    (kn : x = none → W p l e Rm s m args below meth c H locs cells slots Q (F0 m tgt ls rest)) (ks : ∀ y, x = some y → W p l e Rm s m args below meth c H locs cells slots Q (F0 m (pc + 3) ls rest)) : W p l e Rm s m args below meth c H locs cells slots Q (F0 m pc ls (va_rf x :: rest)) := by
  cases x with
  | none => exact lv_ifnullN hexec hb hdg ht (kn rfl)
  | some y => exact lv_ifnull hexec hb hdg (ks y rfl)
theorem q_ifnonnull (hexec : p.tables.exec = Jvm.exec) (hb : c.code = cc) {x : Option Nat} {off : Int} {tgt : Nat} (hdg : decode cc pc = .ok (.ifnonnull off, 3)) (ht : (pc : Int) + off = (tgt : Int))
    (ks : ∀ y, x = some y → W p l e Rm s m args below meth c H locs cells slots Q (F0 m tgt ls rest)) (kn : x = none → W p l e Rm s m args below meth c H locs cells slots Q (F0 m (pc + 3) ls rest)) : W p l e Rm s m args below meth c H locs cells slots Q (F0 m pc ls (va_rf x :: rest)) := by
  cases x with
  | none => exact lv_ifnonnullN hexec hb hdg (kn rfl)
  | some y => exact lv_ifnonnull hexec hb hdg ht (ks y rfl)
end SROWS
