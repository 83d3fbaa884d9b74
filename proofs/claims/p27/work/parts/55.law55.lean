/-! the law's acts -/
theorem lw_1 {g : xG} (n : Nat) (v14 : Int32) (N : xM) (h : A_1 n v14 N) : vc_L_law_1 g v14 N (fun v14 N => ∃ k, k < n ∧ A_1 k v14 N) (fun v14 v15 v17 v18 N => ∃ k, k < n ∧ A_2 k v14 v15 v17 v18 N) (fun v14 v15 v17 N => ∃ k, k < n ∧ A_3 k v14 v15 v17 N) (fun v14 v15 v17 N => ∃ k, k < n ∧ A_4 k v14 v15 v17 N) (fun v14 v15 N => ∃ k, k < n ∧ A_5 k v14 v15 N) (fun v14 v15 N => ∃ k, k < n ∧ A_6 k v14 v15 N) (fun v14 v15 v17 v18 N => ∃ k, k < n ∧ A_7 k v14 v15 v17 v18 N) (fun v14 v15 N => ∃ k, k < n ∧ A_8 k v14 v15 N) (fun v14 v15 v17 v18 v19 N => ∃ k, k < n ∧ A_9 k v14 v15 v17 v18 v19 N) (fun v14 v15 N => ∃ k, k < n ∧ A_10 k v14 v15 N) := by
  obtain ⟨t, ht, rfl, rfl, li, ts, tg⟩ := h
  have l30 : ((30 : Int32) ≤ nI t) ↔ 30 ≤ t := x_le (a := 30) (by omega) (by omega)
  have l5 : ((5 : Int32) ≤ nI t) ↔ 5 ≤ t := x_le (a := 5) (by omega) (by omega)
  have e2 : nI t - nI t / (2 : Int32) * (2 : Int32) = nI (t % 2) := pk_rem (d := 2) (by omega) (by omega) (by omega)
  unfold vc_L_law_1
  rw [l30, l5, e2]
  refine ⟨fun _ => trivial, fun q => ⟨x_vi (by omega) (by omega), fun r1 => ⟨fun v N' => N' = N ∧ (∃ kd, kd < 12 ∧ v = nI kd) ∧ (t < 5 → v = nI (t % 2)), ⟨fun z => ?_, fun z => ⟨rfl, ⟨t % 2, by omega, rfl⟩, fun _ => rfl⟩⟩, ?_⟩⟩⟩
  · refine mo_L_low (ok_L_low _ 12 (by omega) (by omega) N) ?_
    rintro r N ⟨⟨k, hk, rfl⟩, rfl⟩
    exact ⟨rfl, ⟨k, hk, rfl⟩, fun w => absurd w (by omega)⟩
  · rintro j3 N4 ⟨hN, ⟨kd, hkd, rfl⟩, hk5⟩
    subst hN
    have k2 : ((2 : Int32) ≤ nI kd) ↔ 2 ≤ kd := x_le (a := 2) (by omega) (by omega)
    have k8 : ((8 : Int32) ≤ nI kd) ↔ 8 ≤ kd := x_le (a := 8) (by omega) (by omega)
    have e8 : (nI kd = (8 : Int32)) ↔ kd = 8 := x_eq (b := 8) (by omega) (by omega)
    have e9 : (nI kd = (9 : Int32)) ↔ kd = 9 := x_eq (b := 9) (by omega) (by omega)
    have e0 : (nI kd = (0 : Int32)) ↔ kd = 0 := x_eq (b := 0) (by omega) (by omega)
    have kt : t < 5 → kd = t % 2 := fun w => (x_eq (by omega) (by omega)).mp (hk5 w)
    have hw := WF_w li.1
    have b2 : N4 193 2 = nI (q_w N4) := by rw [li.2.2.1.1.2.2.1, hw.2]
    have w0 : (nI (q_w N4) ≤ (0 : Int32)) ↔ q_w N4 ≤ 0 := x_le (b := 0) (by omega) (by omega)
    rw [k2, k8, e8, e9, e0, l_n2, b2, w0]
    refine ⟨fun z2 => ?_, fun z2 => ?_⟩
    · have t5 : 5 ≤ t := by
        by_cases w : t < 5
        · have := kt w
          omega
        · omega
      have go8 : ∃ k, k < 1000 * (30 - t) + 900 ∧ A_8 k (nI t) r1 N4 := ⟨1000 * (30 - t) + 800, by omega, t, t5, by omega, rfl, rfl, li, ts (by omega), tg (by omega)⟩
      refine ⟨fun z8 => ⟨fun n8 => ⟨fun _ => go8, fun _ => ⟨l_v8 2 (by omega) rfl, fun _ => go8, fun zw => ?_⟩⟩, fun _ => ?_⟩, fun z8 => ?_⟩
      · exact ⟨1000 * (30 - t) + 800, by omega, t, t5, by omega, rfl, rfl, li, ts (by omega), tg (by omega), by omega⟩
      · exact ⟨1000 * (30 - t) + 800, by omega, t, t5, by omega, rfl, rfl, li, ts (by omega), tg (by omega)⟩
      · exact ⟨1000 * (30 - t) + 700 + (3 - 0), by omega, t, 0, t5, by omega, by omega, rfl, rfl, rfl, li, ts (by omega), tg (by omega)⟩
    · refine mo_L_low (ok_L_low _ 30 (by omega) (by omega) N4) ?_
      rintro r N ⟨⟨f, hf, rfl⟩, rfl⟩
      refine mo_L_low (ok_L_low _ 31 (by omega) (by omega) N) ?_
      rintro r N ⟨⟨d, hd, rfl⟩, rfl⟩
      rw [nI_add]
      refine ⟨fun z0 => ?_, fun z0 => ?_⟩
      · have t0 : t ≠ 0 := fun w => by
          have := kt (by omega)
          omega
        exact ⟨1000 * (30 - t) + 800, by omega, t, f, by omega, t0, rfl, rfl, li, ts (by omega), tg, rfl, hf⟩
      · have t1 : t ≠ 1 := fun w => by
          have := kt (by omega)
          omega
        exact ⟨1000 * (30 - t) + 800, by omega, t, f, d, by omega, t1, rfl, rfl, li, ts, tg, rfl, rfl, hf, hd⟩
theorem lw_10 {g : xG} (n : Nat) (v14 v15 : Int32) (N : xM) (h : A_10 n v14 v15 N) : vc_L_law_10 g v14 v15 N (fun v14 N => ∃ k, k < n ∧ A_1 k v14 N) (fun v14 v15 v17 v18 N => ∃ k, k < n ∧ A_2 k v14 v15 v17 v18 N) (fun v14 v15 v17 N => ∃ k, k < n ∧ A_3 k v14 v15 v17 N) (fun v14 v15 v17 N => ∃ k, k < n ∧ A_4 k v14 v15 v17 N) (fun v14 v15 N => ∃ k, k < n ∧ A_5 k v14 v15 N) (fun v14 v15 N => ∃ k, k < n ∧ A_6 k v14 v15 N) (fun v14 v15 v17 v18 N => ∃ k, k < n ∧ A_7 k v14 v15 v17 v18 N) (fun v14 v15 N => ∃ k, k < n ∧ A_8 k v14 v15 N) (fun v14 v15 v17 v18 v19 N => ∃ k, k < n ∧ A_9 k v14 v15 v17 v18 v19 N) (fun v14 v15 N => ∃ k, k < n ∧ A_10 k v14 v15 N) := by
  obtain ⟨t, ht, rfl, rfl, li, ts, tg⟩ := h
  unfold vc_L_law_10
  refine mo_L_same (ok_L_same (K := 20 * (t + 1)) (by omega) _ li) ?_
  rintro r N1 ⟨rfl, fs⟩
  have lo := l_lo fs
  have es : q_s N1 = q_s N := by
    unfold q_s
    rw [lo 1 (by decide)]
  have eg : q_g N1 = q_g N := by
    unfold q_g
    rw [lo 6 (by decide)]
  exact ⟨fun _ => ⟨1000 * (30 - (t + 1)) + 900, by omega, t + 1, by omega, rfl, nI_1 t, LI_fs li fs, fun _ => by rw [es]; exact ts, fun _ => by rw [eg]; exact tg (by omega)⟩, fun z => absurd z (by decide)⟩
