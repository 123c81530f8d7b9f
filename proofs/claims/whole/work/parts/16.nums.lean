/-! compares of numbers that are naturals -/
theorem vi_of {k : Int32} {n : Nat} (h0 : ¬ k < 0) (h1 : ¬ nI n ≤ k) (hn : n < 2 ^ 31) : vp_in k n := by
  obtain ⟨j, hj, e⟩ := nI_of h0
  subst e
  exact vp_in_nI (Nat.lt_of_not_le fun q => h1 (nI_le q hj)) hn
theorem vi_ge {k : Int32} {n : Nat} (h1 : nI n ≤ k) (hn : n < 2 ^ 31) : ¬ vp_in k n := by
  intro h
  obtain ⟨j, hj, e⟩ := vp_in_of h hn
  subst e
  have := (nI_leI hn (by omega)).mp h1
  omega
theorem vi_le {k : Int32} {n c : Nat} (h : vp_in k n) (hnc : n ≤ c) (hc : c < 2 ^ 31) : vp_in k c := by
  obtain ⟨j, hj, e⟩ := vp_in_of h (by omega)
  subst e
  exact vp_in_nI (by omega) hc
section NCMP
variable {p : Program} {l : Launch} {e : Env} {Rm : Room} {s : State} {m : MethodId} {args : Array Value} {below : List Frame} {meth : Method} {c : Code} {H : Heap} {locs : List Loc} {cells slots : Nat} {Q : State → Prop}
variable {cc : ByteArray} {pc : Nat} {ls : Array Slot} {rest : List Value} {x y tgt : Nat} {off : Int}
theorem n_lt (hx : p.tables.exec = Jvm.exec) (hb : c.code = cc) (hdg : decode cc pc = .ok (.if_icmp .lt off, 3)) (ht : (pc : Int) + off = (tgt : Int)) (h1 : x < 2 ^ 31) (h2 : y < 2 ^ 31)
    (kt : x < y → W p l e Rm s m args below meth c H locs cells slots Q (F0 m tgt ls rest)) (kf : y ≤ x → W p l e Rm s m args below meth c H locs cells slots Q (F0 m (pc + 3) ls rest)) : W p l e Rm s m args below meth c H locs cells slots Q (F0 m pc ls (.int (nI y) :: .int (nI x) :: rest)) :=
  lv_icmp_lt hx hb hdg ht (fun h => kt ((nI_ltI h1 h2).mp h)) (fun h => kf (Nat.le_of_not_lt fun q => h ((nI_ltI h1 h2).mpr q)))
theorem n_ge (hx : p.tables.exec = Jvm.exec) (hb : c.code = cc) (hdg : decode cc pc = .ok (.if_icmp .ge off, 3)) (ht : (pc : Int) + off = (tgt : Int)) (h1 : x < 2 ^ 31) (h2 : y < 2 ^ 31)
    (kt : y ≤ x → W p l e Rm s m args below meth c H locs cells slots Q (F0 m tgt ls rest)) (kf : x < y → W p l e Rm s m args below meth c H locs cells slots Q (F0 m (pc + 3) ls rest)) : W p l e Rm s m args below meth c H locs cells slots Q (F0 m pc ls (.int (nI y) :: .int (nI x) :: rest)) :=
  lv_icmp_ge hx hb hdg ht (fun h => kt ((nI_leI h2 h1).mp h)) (fun h => kf (Nat.lt_of_not_le fun q => h ((nI_leI h2 h1).mpr q)))
theorem n_gt (hx : p.tables.exec = Jvm.exec) (hb : c.code = cc) (hdg : decode cc pc = .ok (.if_icmp .gt off, 3)) (ht : (pc : Int) + off = (tgt : Int)) (h1 : x < 2 ^ 31) (h2 : y < 2 ^ 31)
    (kt : y < x → W p l e Rm s m args below meth c H locs cells slots Q (F0 m tgt ls rest)) (kf : x ≤ y → W p l e Rm s m args below meth c H locs cells slots Q (F0 m (pc + 3) ls rest)) : W p l e Rm s m args below meth c H locs cells slots Q (F0 m pc ls (.int (nI y) :: .int (nI x) :: rest)) :=
  lv_icmp_gt hx hb hdg ht (fun h => kt ((nI_ltI h2 h1).mp h)) (fun h => kf (Nat.le_of_not_lt fun q => h ((nI_ltI h2 h1).mpr q)))
theorem n_eq (hx : p.tables.exec = Jvm.exec) (hb : c.code = cc) (hdg : decode cc pc = .ok (.if_icmp .eq off, 3)) (ht : (pc : Int) + off = (tgt : Int)) (h1 : x < 2 ^ 31) (h2 : y < 2 ^ 31)
    (kt : x = y → W p l e Rm s m args below meth c H locs cells slots Q (F0 m tgt ls rest)) (kf : x ≠ y → W p l e Rm s m args below meth c H locs cells slots Q (F0 m (pc + 3) ls rest)) : W p l e Rm s m args below meth c H locs cells slots Q (F0 m pc ls (.int (nI y) :: .int (nI x) :: rest)) :=
  lv_icmp_eq hx hb hdg ht (fun h => kt ((nI_eq h1 h2).mp h)) (fun h => kf (fun q => h ((nI_eq h1 h2).mpr q)))
theorem n_ne (hx : p.tables.exec = Jvm.exec) (hb : c.code = cc) (hdg : decode cc pc = .ok (.if_icmp .ne off, 3)) (ht : (pc : Int) + off = (tgt : Int)) (h1 : x < 2 ^ 31) (h2 : y < 2 ^ 31)
    (kt : x ≠ y → W p l e Rm s m args below meth c H locs cells slots Q (F0 m tgt ls rest)) (kf : x = y → W p l e Rm s m args below meth c H locs cells slots Q (F0 m (pc + 3) ls rest)) : W p l e Rm s m args below meth c H locs cells slots Q (F0 m pc ls (.int (nI y) :: .int (nI x) :: rest)) :=
  lv_icmp_ne hx hb hdg ht (fun h => kt (fun q => h ((nI_eq h1 h2).mpr q))) (fun h => kf ((nI_eq h1 h2).mp h))
end NCMP
/-- what a method left as it was: all cells of S but those of P -/
def sFr (S S2 : sS) (P : Nat → Prop) : Prop := ∀ b, S.1 b ≠ none → S2.1 b = S.1 b ∧ (¬ P b → S2.2.1 b = S.2.1 b ∧ S2.2.2.1 b = S.2.2.1 b ∧ S2.2.2.2 b = S.2.2.2 b)
theorem sFr.rf {S : sS} {P : Nat → Prop} : sFr S S P := fun b _ => ⟨rfl, fun _ => ⟨rfl, rfl, rfl⟩⟩
theorem sFr.tr {S S2 S3 : sS} {P P2 P3 : Nat → Prop} (h : sFr S S2 P) (h2 : sFr S2 S3 P2) (hP : ∀ b, S.1 b ≠ none → P b → P3 b) (hP2 : ∀ b, S.1 b ≠ none → P2 b → P3 b) : sFr S S3 P3 := by
  intro b hb
  obtain ⟨a1, a2⟩ := h b hb
  obtain ⟨b1, b2⟩ := h2 b (by rw [a1]; exact hb)
  refine ⟨b1.trans a1, fun hn => ?_⟩
  obtain ⟨x1, x2, x3⟩ := a2 (fun q => hn (hP b hb q))
  obtain ⟨y1, y2, y3⟩ := b2 (fun q => hn (hP2 b hb q))
  exact ⟨y1.trans x1, y2.trans x2, y3.trans x3⟩
theorem sFr.weak {S S2 : sS} {P P2 : Nat → Prop} (h : sFr S S2 P) (hP : ∀ b, S.1 b ≠ none → P b → P2 b) : sFr S S2 P2 := fun b hb => ⟨(h b hb).1, fun hn => (h b hb).2 fun q => hn (hP b hb q)⟩
theorem sFr.kd {S S2 : sS} {P : Nat → Prop} (h : sFr S S2 P) {b : Nat} {k : sK} (hb : S.1 b = some k) : S2.1 b = some k := by rw [(h b (by rw [hb]; exact fun z => by cases z)).1, hb]
/-- Numbers: at a, its row at r of length cap, n numbers f -/
def Nm (S : sS) (a r cap n : Nat) (f : Nat → Nat) : Prop :=
  S.1 a = some (.inl 5) ∧ S.2.1 a 0 = some r ∧ S.1 r = some (.inr (0, cap)) ∧ S.2.2.1 a 1 = nI n ∧ n ≤ cap ∧ 16 ≤ cap ∧ cap ≤ 32768 ∧ ∀ i, i < n → S.2.2.1 r i = nI (f i)
