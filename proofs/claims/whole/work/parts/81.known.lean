/-! what the tables say at the law's entry -/
theorem y_arrP {s : State} {args : Array Value} {ty : FieldType} (hty : ty = .int ∨ ty = .boolean ∨ ty = .char) (h : (Cond.arrayClass ty).before args s = true) : ∃ cA : ClassId, ArrOfT s cA ty ∧ va_RA s cA ty := by
  obtain ⟨cA, kA, comp, h1, h2, h3⟩ := Cond.arrayClass_spec h
  refine ⟨cA, ?_, ?_⟩
  · rcases hty with rfl | rfl | rfl <;> exact fun n z => ⟨fun k h => (by cases h), kA, h2, comp, h3⟩
  · rcases hty with rfl | rfl | rfl <;> exact h1
