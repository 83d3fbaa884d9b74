/-! what the tables say at the law's entry -/
theorem y_arrP {s : State} {args : Array Value} {ty : FieldType} (hty : ty = .int ∨ ty = .boolean ∨ ty = .char) (h : (Cond.arrayClass ty).before args s = true) : ∃ cA : ClassId, ArrOfT s cA ty ∧ va_RA s cA ty := by
  obtain ⟨cA, kA, comp, h1, h2, h3⟩ := Cond.arrayClass_spec h
  refine ⟨cA, ?_, ?_⟩
  · rcases hty with rfl | rfl | rfl <;> exact fun n z => ⟨fun k h => (by cases h), kA, h2, comp, h3⟩
  · rcases hty with rfl | rfl | rfl <;> exact h1
theorem y_arrQ {s : State} {args : Array Value} {C : String} (h : (Cond.arrayOver (.object C)).before args s = true) : ∃ cA : ClassId, ArrOfT s cA (.object C) ∧ va_RA s cA (.object C) := by
  obtain ⟨comp, cA, kA, hcomp, hidx, hkA, hkindA, hnameA⟩ := Cond.arrayOver_spec h
  exact ⟨cA, fun N z => ⟨fun k h => (by cases h), kA, hkA, comp, hkindA⟩, kA, comp, hkA, hkindA, hcomp, hnameA⟩
/-- the numbers of all classes -/
theorem y_known {s : State} {args : Array Value} (hts : ∀ w ∈ lw_tbl, w.before args s = true) (w0 : (Cond.arrayClass .int).before args s = true) (w1 : (Cond.arrayClass .boolean).before args s = true) (w2 : (Cond.arrayClass .char).before args s = true) (w3 : (Cond.arrayOver (.object RX0)).before args s = true) (hI : ∀ (c : Nat) (q : vw_C), vwCl[c]? = some q → (∀ w ∈ u_ws q.1 q.2.1 q.2.2, w ∈ lw_tbl) ∧ ∃ n, Cond.instantiable q.1 n ∈ lw_tbl) : ∃ (D : va_G) (kc : Nat → ClassId), va_K D vwCl (x_tys kc) s := by
  obtain ⟨c0, a0, b0⟩ := y_arrP (Or.inl rfl) w0
  obtain ⟨c1, a1, b1⟩ := y_arrP (Or.inr (Or.inl rfl)) w1
  obtain ⟨c2, a2, b2⟩ := y_arrP (Or.inr (Or.inr rfl)) w2
  obtain ⟨c3, a3, b3⟩ := y_arrQ w3
  have hk : ∀ c : Nat, ∃ (cC : ClassId) (iS : Nat → Nat), ∀ q : vw_C, vwCl[c]? = some q → u_Kn s q.1 q.2.1 q.2.2 cC iS := by
    intro c
    cases hq : vwCl[c]? with
    | none => exact ⟨0, fun _ => 0, fun q h => by cases h⟩
    | some q =>
      obtain ⟨h1, n, h2⟩ := hI c q hq
      obtain ⟨cC, iS, h3⟩ := u_known (T := q.2.1) (N := q.2.2) hts h1 (hts _ h2)
      exact ⟨cC, iS, fun q' h => by cases h; exact h3⟩
  refine ⟨(fun c => (hk c).choose, fun c => (hk c).choose_spec.choose), fun t => if t = 0 then c0 else if t = 1 then c1 else if t = 2 then c2 else c3, fun c q hq => (hk c).choose_spec.choose_spec q hq, fun k q hq => ?_⟩
  match k, hq with
  | 0, h => cases h; exact ⟨a0, b0⟩
  | 1, h => cases h; exact ⟨a1, b1⟩
  | 2, h => cases h; exact ⟨a2, b2⟩
  | 3, h => cases h; exact ⟨a3, b3⟩
  | n + 4, h => cases h
