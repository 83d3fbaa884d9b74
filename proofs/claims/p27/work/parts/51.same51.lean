/-! the law's comparison -/
theorem sm_9 {g : xG} {K : Nat} {M : xM} (hK : K + 20 < 9000) (n : Nat) (v14 v15 v16 : Int32) (N : xM) (h : I_9 K M n v14 v15 v16 N) : vc_L_same_9 g v14 v15 v16 N (P_s M) (fun v1 v14 v15 v16 N => ∃ k, k < n ∧ I_1 K M k v1 v14 v15 v16 N) (fun v1 v14 v15 v16 v20 N => ∃ k, k < n ∧ I_2 K M k v1 v14 v15 v16 v20 N) (fun v1 v14 v15 v16 v21 v22 v23 v24 N => ∃ k, k < n ∧ I_3 K M k v1 v14 v15 v16 v21 v22 v23 v24 N) (fun v1 v14 v15 v16 N => ∃ k, k < n ∧ I_4 K M k v1 v14 v15 v16 N) (fun v14 v15 v16 N => ∃ k, k < n ∧ I_5 K M k v14 v15 v16 N) (fun v14 v15 v16 v17 v18 v19 N => ∃ k, k < n ∧ I_6 K M k v14 v15 v16 v17 v18 v19 N) (fun v14 v15 v16 N => ∃ k, k < n ∧ I_7 K M k v14 v15 v16 N) (fun v14 v15 v16 v19 v20 v21 N => ∃ k, k < n ∧ I_8 K M k v14 v15 v16 v19 v20 v21 N) (fun v14 v15 v16 N => ∃ k, k < n ∧ I_9 K M k v14 v15 v16 N) (fun v14 v15 v16 v17 v18 N => ∃ k, k < n ∧ I_10 K M k v14 v15 v16 v17 v18 N) (fun v14 v15 v16 N => ∃ k, k < n ∧ I_11 K M k v14 v15 v16 N) (fun v14 v15 N => ∃ k, k < n ∧ I_12 K M k v14 v15 N) := by
  obtain ⟨si, se, u, hu, rfl, rfl⟩ := h
  obtain ⟨⟨wf, wb, lr, -, -⟩, -⟩ := id si
  have h16 := WF_g wf
  have w1 : vp_in (1 : Int32) 8 := l_v8 1 (by omega) rfl
  have b1 : N 193 1 = nI (q_g N) := by rw [lr.1.2.1, h16.2]
  unfold vc_L_same_9
  rw [l_n1, b1, x_le (by omega) (by omega)]
  refine ⟨w1, fun q => ?_, fun q => ?_⟩
  · exact ⟨10000 + (20 - 0), by omega, si, se, 0, by omega, rfl, rfl⟩
  · exact ⟨100000 + 1000 * (20 - u) + (20 - 0), by omega, si, se, u, 0, by omega, by omega, rfl, rfl, rfl, rfl⟩
theorem sm_10 {g : xG} {K : Nat} {M : xM} (hK : K + 20 < 9000) (n : Nat) (v14 v15 v16 v17 v18 : Int32) (N : xM) (h : I_10 K M n v14 v15 v16 v17 v18 N) : vc_L_same_10 g v14 v15 v16 v17 v18 N (P_s M) (fun v1 v14 v15 v16 N => ∃ k, k < n ∧ I_1 K M k v1 v14 v15 v16 N) (fun v1 v14 v15 v16 v20 N => ∃ k, k < n ∧ I_2 K M k v1 v14 v15 v16 v20 N) (fun v1 v14 v15 v16 v21 v22 v23 v24 N => ∃ k, k < n ∧ I_3 K M k v1 v14 v15 v16 v21 v22 v23 v24 N) (fun v1 v14 v15 v16 N => ∃ k, k < n ∧ I_4 K M k v1 v14 v15 v16 N) (fun v14 v15 v16 N => ∃ k, k < n ∧ I_5 K M k v14 v15 v16 N) (fun v14 v15 v16 v17 v18 v19 N => ∃ k, k < n ∧ I_6 K M k v14 v15 v16 v17 v18 v19 N) (fun v14 v15 v16 N => ∃ k, k < n ∧ I_7 K M k v14 v15 v16 N) (fun v14 v15 v16 v19 v20 v21 N => ∃ k, k < n ∧ I_8 K M k v14 v15 v16 v19 v20 v21 N) (fun v14 v15 v16 N => ∃ k, k < n ∧ I_9 K M k v14 v15 v16 N) (fun v14 v15 v16 v17 v18 N => ∃ k, k < n ∧ I_10 K M k v14 v15 v16 v17 v18 N) (fun v14 v15 v16 N => ∃ k, k < n ∧ I_11 K M k v14 v15 v16 N) (fun v14 v15 N => ∃ k, k < n ∧ I_12 K M k v14 v15 N) := by
  obtain ⟨si, se, u, j, hu, hj, rfl, rfl, rfl, rfl⟩ := h
  obtain ⟨⟨wf, wb, lr, -, -⟩, -⟩ := id si
  have h12 := WF_s wf
  have h16 := WF_g wf
  obtain ⟨g0, g1, g2, g3⟩ := lr.2.2.1 u (by omega)
  have w0 : vp_in (0 : Int32) 8 := l_v8 0 (by omega) rfl
  have b0 : N 193 0 = nI (q_s N) := by rw [lr.1.1, h12.2]
  have c2 : vp_in (nI (4 * u + 2)) 64 := x_vi (by omega) (by omega)
  have c3 : vp_in (nI (4 * u + 3)) 64 := x_vi (by omega) (by omega)
  unfold vc_L_same_10
  rw [l_n0, l_42, l_43, b0, x_le (by omega) (by omega), x_cl (show 4 * u + 2 < 5000 by omega), x_cl (show 4 * u + 3 < 5000 by omega)]
  refine ⟨w0, fun q => ?_, fun q => ?_⟩
  · have : j = q_s N := by omega
    subst this
    refine mo_X9_ofSong (ok_X9_ofSong _ _ N K wf) ?_
    rintro r N ⟨rfl, rfl⟩
    rw [l_os2 hu h16.1]
    refine ⟨c2, fun z => absurd g2.symm z, fun _ => ?_⟩
    refine mo_X9_ofSong (ok_X9_ofSong _ _ N K wf) ?_
    rintro r N ⟨rfl, rfl⟩
    rw [l_os3 hu h16.1]
    refine ⟨fun z => absurd rfl z, fun _ => ?_⟩
    refine mo_X9_ofSong (ok_X9_ofSong _ _ N K wf) ?_
    rintro r N ⟨rfl, rfl⟩
    rw [l_os4 hu h16.1]
    exact ⟨c3, fun _ => ⟨100000 + 1000 * (20 - (u + 1)) + 900, by omega, si, se, u + 1, by omega, rfl, nI_1 u⟩, fun z => absurd g3.symm z⟩
  · refine mo_L_key (ok_L_key j none u (by omega) (fun k q => by cases q) (by omega) N N (LR_LT lr) wb) ?_
    rintro r N ⟨rfl, rfl⟩
    rw [l_kt_neg]
    refine ⟨fun v => q_set (fun i => decide (q_kt N i none u ≠ -6)) j ||| v = q_set (fun i => decide (q_kt N i none u ≠ -6)) (j + 1), ⟨fun z => ?_, fun z => ?_⟩, ?_⟩
    · show q_set (fun i => decide (q_kt N i none u ≠ -6)) j ||| 0 = q_set (fun i => decide (q_kt N i none u ≠ -6)) (j + 1)
      rw [l_or0, q_set, if_neg (by simp [z])]
    · show q_set (fun i => decide (q_kt N i none u ≠ -6)) j ||| ((1 : Int32) <<< (nI j &&& 31)) = q_set (fun i => decide (q_kt N i none u ≠ -6)) (j + 1)
      rw [q_set, if_pos (by simpa using z)]
    · intro j97 hj97
      exact ⟨100000 + 1000 * (20 - u) + (20 - (j + 1)), by omega, si, se, u, j + 1, hu, by omega, rfl, rfl, nI_1 j, hj97⟩
theorem sm_11 {g : xG} {K : Nat} {M : xM} (hK : K + 20 < 9000) (n : Nat) (v14 v15 v16 : Int32) (N : xM) (h : I_11 K M n v14 v15 v16 N) : vc_L_same_11 g v14 v15 v16 N (P_s M) (fun v1 v14 v15 v16 N => ∃ k, k < n ∧ I_1 K M k v1 v14 v15 v16 N) (fun v1 v14 v15 v16 v20 N => ∃ k, k < n ∧ I_2 K M k v1 v14 v15 v16 v20 N) (fun v1 v14 v15 v16 v21 v22 v23 v24 N => ∃ k, k < n ∧ I_3 K M k v1 v14 v15 v16 v21 v22 v23 v24 N) (fun v1 v14 v15 v16 N => ∃ k, k < n ∧ I_4 K M k v1 v14 v15 v16 N) (fun v14 v15 v16 N => ∃ k, k < n ∧ I_5 K M k v14 v15 v16 N) (fun v14 v15 v16 v17 v18 v19 N => ∃ k, k < n ∧ I_6 K M k v14 v15 v16 v17 v18 v19 N) (fun v14 v15 v16 N => ∃ k, k < n ∧ I_7 K M k v14 v15 v16 N) (fun v14 v15 v16 v19 v20 v21 N => ∃ k, k < n ∧ I_8 K M k v14 v15 v16 v19 v20 v21 N) (fun v14 v15 v16 N => ∃ k, k < n ∧ I_9 K M k v14 v15 v16 N) (fun v14 v15 v16 v17 v18 N => ∃ k, k < n ∧ I_10 K M k v14 v15 v16 v17 v18 N) (fun v14 v15 v16 N => ∃ k, k < n ∧ I_11 K M k v14 v15 v16 N) (fun v14 v15 N => ∃ k, k < n ∧ I_12 K M k v14 v15 N) := by
  obtain ⟨si, se, j, hj, rfl, rfl⟩ := h
  obtain ⟨⟨wf, wb, lr, lp, -⟩, -⟩ := id si
  have h12 := WF_p wf
  have w7 : vp_in (7 : Int32) 8 := l_v8 7 (by omega) rfl
  have b7 : N 193 7 = nI (q_p N) := by rw [lp.1, h12.2]
  unfold vc_L_same_11
  rw [l_n7, b7, x_le (by omega) (by omega), x_cl (show j < 5000 by omega)]
  refine ⟨w7, fun q => ?_, fun q => ?_⟩
  · exact ⟨0, by omega, si, se, rfl⟩
  · have hj2 : j < q_p N := by omega
    have v12 : vp_in (nI j) 12 := x_vi (by omega) (by omega)
    obtain ⟨hw, eb⟩ := lp.2 j hj2
    obtain ⟨a, p, c, ha, hp, hc, e16, e17, e18, ev⟩ := id hw
    obtain ⟨d1, d2, d3⟩ := l_w_d ha hp hc ev
    refine mo_X9_past (ok_X9_past _ _ N K wf) ?_
    rintro r N ⟨rfl, rfl⟩
    rw [l_pa0 hj2 h12.1, d1]
    refine ⟨v12, fun z => absurd e16 z, fun _ => ?_⟩
    refine mo_X9_past (ok_X9_past _ _ N K wf) ?_
    rintro r N ⟨rfl, rfl⟩
    rw [l_pa1 hj2 h12.1, d2, ← nI_0, x_eq (by omega) (by omega)]
    refine ⟨v12, fun v => v = N 17 j, ⟨fun z => ⟨v12, ?_⟩, fun z => ?_⟩, ?_⟩
    · rw [e17, if_neg z, x_pred (by omega)]
    · rw [e17, if_pos z]
    rintro j83 rfl
    refine ⟨fun z => absurd rfl z, fun _ => ?_⟩
    refine mo_X9_past (ok_X9_past _ _ N K wf) ?_
    rintro r N ⟨rfl, rfl⟩
    rw [l_pa2 hj2 h12.1, d3]
    refine ⟨v12, fun z => absurd e18 z, fun _ => ?_⟩
    refine mo_X9_past (ok_X9_past _ _ N K wf) ?_
    rintro r N ⟨rfl, rfl⟩
    rw [l_pa3 hj2 h12.1]
    exact ⟨v12, fun _ => ⟨10000 + (20 - (j + 1)), by omega, si, se, j + 1, by omega, rfl, nI_1 j⟩, fun z => absurd eb.symm z⟩
