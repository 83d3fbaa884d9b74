/-! the memory at first -/
def y_M0 : xM := fun _ _ => 0
theorem LI_0 : LI 0 y_M0 := by
  have z : ∀ a k, y_M0 a k = 0 := fun _ _ => rfl
  have e0 : (0 : Int32) = nI 0 := nI_0.symm
  have w0 : q_w y_M0 = 0 := by
    unfold q_w
    rw [z]
    decide
  have p0 : q_p y_M0 = 0 := by
    unfold q_p
    rw [z]
    decide
  refine ⟨WF_of 0 0 0 0 e0 (by omega) e0 (by omega) e0 (by omega) e0 (by omega) (fun i hi => ?_) (fun i _ => ⟨?_, ?_⟩) (fun w hw => absurd hw (by omega)), ⟨fun i _ => ⟨0, 0, by omega, by omega, e0, e0⟩, fun u _ => ⟨0, 0, 0, by omega, by omega, by omega, e0, e0, e0⟩⟩, ⟨⟨rfl, rfl, rfl, rfl, rfl, rfl, rfl⟩, fun i _ => ⟨rfl, rfl, rfl, rfl⟩, fun u _ => ⟨rfl, rfl, rfl, rfl⟩, fun w hw => ?_⟩, ⟨rfl, fun k hk => ?_⟩, 0, 0, by omega, by omega, e0, e0, trivial⟩
  · have : bt (0 : Int32) i = true := hi
    rw [b_0] at this
    cases this
  · show 0 ≤ (0 : Int32).toInt
    decide
  · show (0 : Int32).toInt ≤ 0
    decide
  · rw [w0] at hw
    omega
  · rw [p0] at hk
    omega
