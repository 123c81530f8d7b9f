theorem sMk_row {sg : Nat → List Bool} {tk : Nat → Nat} {dA : Nat → ClassId} {kd : Nat → Option sK} {rf : Nat → Nat → Option Nat} {it : Nat → Nat → Int32} {lg : Nat → Nat → Int64} {a t n : Nat} (g : Nat → Int32) (h : kd a = some (.inr (t, n))) (ht : tk t = 0) :
    sMk sg tk dA (kd, rf, upr it a g, lg) = sU (sMk sg tk dA (kd, rf, it, lg)) a (.inl (dA t, n, .inl g)) := by
  funext b
  by_cases hb : b = a
  · subst hb
    simp [sMk, sU, h, sCt, ht, upr]
  · simp [sMk, sU, hb, upr]
section SCPY
variable {p : Program} {l : Launch} {e : Env} {Rm : Room} {s : State} {m : MethodId} {args : Array Value} {below : List Frame} {meth : Method} {c : Code} {H : Heap} {locs : List Loc} {cells slots : Nat} {Q : State → Prop}
variable {cc : ByteArray} {pc : Nat} {ls : Array Slot} {rest : List Value} {D : va_G} {cl : List vw_C} {A : Nat → Prop} {tys : List (ClassId × FieldType)} {H0 : Heap}
variable {sg : Nat → List Bool} {tk : Nat → Nat} {dA : Nat → ClassId} {kd : Nat → Option sK} {rf : Nat → Nat → Option Nat} {it : Nat → Nat → Int32} {lg : Nat → Nat → Int64}
theorem s_cpy (hexec : p.tables.exec = Jvm.exec) (hb : c.code = cc) (hml : c.maxLocals = ls.size) {own : String} {index : Nat} (hown : s.vm.findClass own = some m.cls) (hlink : (Cond.methodLink own index arraycopyName).before args s = true) (hnat : (Cond.native arraycopyName).before args s = true) (hstat : (Cond.static arraycopyName).before args s = true) (hini : (Cond.initialized "java/lang/System").before args s = true)
    (hK : va_K D cl tys s) (hM : sW sg tk D dA cl A H0 (kd, rf, it, lg) H locs) {a0 a t n0 n1 : Nat} (ha0 : kd a0 = some (.inr (t, n0))) (ha1 : kd a = some (.inr (t, n1))) (htk : tk t = 0) (ht : tys[t]? = some (dA t, .int))
    {sp dp n : Int32} (h1 : ¬ sp < 0) (h2 : ¬ dp < 0) (h3 : ¬ n < 0) (h4 : sp.toNatClampNeg + n.toNatClampNeg ≤ n0) (h5 : dp.toNatClampNeg + n.toNatClampNeg ≤ n1)
    (hframes : 1 ≤ Rm.frames) (hlocals : (rest.map fun v => v.category).sum + (nativeFrameWords "java/lang/System" "arraycopy" 5 + 11) ≤ Rm.locals) (hdg : decode cc pc = .ok (.invokestatic index, 3))
    (kk : ∀ (H1 : Heap) (locs1 : List Loc), sW sg tk D dA cl A H0 (kd, rf, upr it a (va_cpy (it a0) (it a) sp.toNatClampNeg dp.toNatClampNeg n.toNatClampNeg), lg) H1 locs1 → W p l e Rm s m args below meth c H1 locs1 cells slots Q (F0 m (pc + 3) ls rest)) : W p l e Rm s m args below meth c H locs cells slots Q (F0 m pc ls (.int n :: .int dp :: .ref a :: .int sp :: .ref a0 :: rest)) := by
  obtain ⟨hAll, ws, hG, hP, hD, hS⟩ := hM
  obtain ⟨q0, hq0⟩ := (hG a0 _).mp (sMk_ki ha0 htk)
  obtain ⟨q1, hq1⟩ := (hG a _).mp (sMk_ki ha1 htk)
  refine va_copyi hexec hb hml hown hlink hnat hstat hini hK hP hD hS q0 q1 t t hq0 hq1 ht ht rfl h1 h2 h3 h4 h5 (fun i hi => rfl) hframes hlocals hdg fun H1 locs1 hP1 hD1 hS1 => ?_
  exact kk H1 locs1 ⟨hAll, _, by rw [sMk_row _ ha1 htk]; exact sG_set hG hD hq1, hP1, hD1, hS1⟩
end SCPY
/-- a new cell and its contents -/
theorem upr_upr {α : Type} (f : Nat → Nat → α) (a : Nat) (r r2 : Nat → α) : upr (upr f a r) a r2 = upr f a r2 := by
  funext b
  by_cases h : b = a <;> simp [upr, h]
theorem sk_ne {kd : Nat → Option sK} {a q : Nat} {k : sK} (ha : kd a = some k) (hq : kd q = none) : a ≠ q := fun z => by
  rw [z, hq] at ha
  cases ha
theorem cV_mono {l : Launch} {y : MethodName} {b : ByteArray} {n : Nat} {rm : Room} {D : va_G} {dA : Nat → ClassId} {S : sS} {sz : Nat} {av : List Value} {post post' : sS → Prop} {mc ms : Nat} (h : cV l y b n rm D dA S sz av post mc ms) (hp : ∀ u, post u → post' u) : cV l y b n rm D dA S sz av post' mc ms :=
  MetFree.mono h (fun _ _ h => h) (fun _ _ _ _ _ h => h) (fun a s o t _ q => by
    obtain ⟨⟨⟨u, h1, h2, h3⟩, h4⟩, h5⟩ := q
    exact ⟨⟨⟨u, h1, hp u h2, h3⟩, h4⟩, h5⟩)
theorem cI_mono {l : Launch} {y : MethodName} {b : ByteArray} {n : Nat} {r : Option FieldType} {rm : Room} {D : va_G} {dA : Nat → ClassId} {S : sS} {sz : Nat} {av : List Value} {post post' : Int32 → sS → Prop} {mc ms : Nat} (h : cI l y b n r rm D dA S sz av post mc ms) (hp : ∀ x u, post x u → post' x u) : cI l y b n r rm D dA S sz av post' mc ms :=
  MetFree.mono h (fun _ _ h => h) (fun _ _ _ _ _ h => h) (fun a s o t _ q => by
    obtain ⟨⟨⟨x, u, h1, h2, h3⟩, h4⟩, h5⟩ := q
    exact ⟨⟨⟨x, u, h1, hp x u h2, h3⟩, h4⟩, h5⟩)
theorem cQ_mono {l : Launch} {y : MethodName} {b : ByteArray} {n : Nat} {r : Option FieldType} {rm : Room} {D : va_G} {dA : Nat → ClassId} {S : sS} {sz : Nat} {av : List Value} {post post' : Option Nat → sS → Prop} {mc ms : Nat} (h : cQ l y b n r rm D dA S sz av post mc ms) (hp : ∀ x u, post x u → post' x u) : cQ l y b n r rm D dA S sz av post' mc ms :=
  MetFree.mono h (fun _ _ h => h) (fun _ _ _ _ _ h => h) (fun a s o t _ q => by
    obtain ⟨⟨⟨x, u, h1, h2, h3⟩, h4⟩, h5⟩ := q
    exact ⟨⟨⟨x, u, h1, hp x u h2, h3⟩, h4⟩, h5⟩)
