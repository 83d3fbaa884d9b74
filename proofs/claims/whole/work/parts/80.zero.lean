/-! the memory at first -/
def y_M0 : xM := fun _ _ => 0
theorem q_inv_0 : q_inv 0 y_M0 := by
  have z : ∀ a k, y_M0 a k = 0 := fun _ _ => rfl
  have e0 : (0 : Int32) = nI 0 := nI_0.symm
  refine ⟨WF_of 0 0 0 0 e0 (by omega) e0 (by omega) e0 (by omega) e0 (by omega) (fun i hi => ?_) (fun i _ => ⟨?_, ?_⟩) (fun w hw => absurd hw (by omega)), ⟨⟨rfl, rfl, rfl, rfl, rfl, rfl, rfl⟩, fun i _ => ⟨rfl, rfl, ?_, rfl, rfl⟩, fun i _ => ⟨rfl, rfl, rfl, rfl⟩, fun i hi => ⟨rfl, rfl, rfl⟩, fun i hi => ⟨rfl, rfl, rfl, rfl⟩⟩, ⟨0, 0, by omega, by omega, e0, e0, e0, fun i hi => absurd hi (by omega)⟩, fun s _ => ⟨Or.inl rfl, rfl, fun h => absurd h (by show ¬ (0 : Int32) = 1; decide)⟩, fun _ => 0, 0, ⟨e0, by omega, fun k hk => absurd hk (by omega)⟩, ⟨e0, by omega, fun k hk => absurd hk (by omega)⟩⟩
  · have : bt (0 : Int32) i = true := hi
    rw [b_0] at this
    cases this
  · show 0 ≤ (0 : Int32).toInt
    decide
  · show (0 : Int32).toInt ≤ 0
    decide
  · show (0 : Int32) = if bt (0 : Int32) i = true then 1 else 0
    rw [b_0]
    rfl
