/-! the law's comparison -/
theorem sm_5 {g : xG} {K : Nat} {M : xM} (hK : K + 20 < 9000) (n : Nat) (v14 v15 v16 : Int32) (N : xM) (h : I_5 K M n v14 v15 v16 N) : vc_L_same_5 g v14 v15 v16 N (P_s M) (fun v1 v14 v15 v16 N => ∃ k, k < n ∧ I_1 K M k v1 v14 v15 v16 N) (fun v1 v14 v15 v16 v20 N => ∃ k, k < n ∧ I_2 K M k v1 v14 v15 v16 v20 N) (fun v1 v14 v15 v16 v21 v22 v23 v24 N => ∃ k, k < n ∧ I_3 K M k v1 v14 v15 v16 v21 v22 v23 v24 N) (fun v1 v14 v15 v16 N => ∃ k, k < n ∧ I_4 K M k v1 v14 v15 v16 N) (fun v14 v15 v16 N => ∃ k, k < n ∧ I_5 K M k v14 v15 v16 N) (fun v14 v15 v16 v17 v18 v19 N => ∃ k, k < n ∧ I_6 K M k v14 v15 v16 v17 v18 v19 N) (fun v14 v15 v16 N => ∃ k, k < n ∧ I_7 K M k v14 v15 v16 N) (fun v14 v15 v16 v19 v20 v21 N => ∃ k, k < n ∧ I_8 K M k v14 v15 v16 v19 v20 v21 N) (fun v14 v15 v16 N => ∃ k, k < n ∧ I_9 K M k v14 v15 v16 N) (fun v14 v15 v16 v17 v18 N => ∃ k, k < n ∧ I_10 K M k v14 v15 v16 v17 v18 N) (fun v14 v15 v16 N => ∃ k, k < n ∧ I_11 K M k v14 v15 v16 N) (fun v14 v15 N => ∃ k, k < n ∧ I_12 K M k v14 v15 N) := by
  obtain ⟨si, se, s, hs, rfl, rfl⟩ := h
  obtain ⟨⟨wf, wb, lr, -, -⟩, -⟩ := id si
  have h12 := WF_s wf
  have w0 : vp_in (0 : Int32) 8 := l_v8 0 (by omega) rfl
  have b0 : N 193 0 = nI (q_s N) := by rw [lr.1.1, h12.2]
  unfold vc_L_same_5
  rw [l_n0, b0, x_le (by omega) (by omega)]
  refine ⟨w0, fun q => ?_, fun q => ?_⟩
  · exact ⟨100000 + 1000 * (20 - 0) + 900, by omega, si, se, 0, by omega, rfl, rfl⟩
  · exact ⟨500000 + 1000 * (20 - s) + 100 + (20 - 0), by omega, si, se, s, 0, by omega, by omega, rfl, rfl, rfl, rfl, rfl⟩
theorem sm_6 {g : xG} {K : Nat} {M : xM} (hK : K + 20 < 9000) (n : Nat) (v14 v15 v16 v17 v18 v19 : Int32) (N : xM) (h : I_6 K M n v14 v15 v16 v17 v18 v19 N) : vc_L_same_6 g v14 v15 v16 v17 v18 v19 N (P_s M) (fun v1 v14 v15 v16 N => ∃ k, k < n ∧ I_1 K M k v1 v14 v15 v16 N) (fun v1 v14 v15 v16 v20 N => ∃ k, k < n ∧ I_2 K M k v1 v14 v15 v16 v20 N) (fun v1 v14 v15 v16 v21 v22 v23 v24 N => ∃ k, k < n ∧ I_3 K M k v1 v14 v15 v16 v21 v22 v23 v24 N) (fun v1 v14 v15 v16 N => ∃ k, k < n ∧ I_4 K M k v1 v14 v15 v16 N) (fun v14 v15 v16 N => ∃ k, k < n ∧ I_5 K M k v14 v15 v16 N) (fun v14 v15 v16 v17 v18 v19 N => ∃ k, k < n ∧ I_6 K M k v14 v15 v16 v17 v18 v19 N) (fun v14 v15 v16 N => ∃ k, k < n ∧ I_7 K M k v14 v15 v16 N) (fun v14 v15 v16 v19 v20 v21 N => ∃ k, k < n ∧ I_8 K M k v14 v15 v16 v19 v20 v21 N) (fun v14 v15 v16 N => ∃ k, k < n ∧ I_9 K M k v14 v15 v16 N) (fun v14 v15 v16 v17 v18 N => ∃ k, k < n ∧ I_10 K M k v14 v15 v16 v17 v18 N) (fun v14 v15 v16 N => ∃ k, k < n ∧ I_11 K M k v14 v15 v16 N) (fun v14 v15 N => ∃ k, k < n ∧ I_12 K M k v14 v15 N) := by
  obtain ⟨si, se, s, j, hs, hj, rfl, rfl, rfl, rfl, rfl⟩ := h
  obtain ⟨⟨wf, wb, lr, -, -⟩, -⟩ := id si
  have h12 := WF_s wf
  obtain ⟨h20, h11⟩ := WF_w wf
  obtain ⟨⟨-, -, a2, a3, a4, -, -⟩, hT, hG, hv⟩ := id lr
  obtain ⟨t0, t1, t2, t3⟩ := hT s (by omega)
  have w2 : vp_in (2 : Int32) 8 := l_v8 2 (by omega) rfl
  have w3 : vp_in (3 : Int32) 8 := l_v8 3 (by omega) rfl
  have w4 : vp_in (4 : Int32) 8 := l_v8 4 (by omega) rfl
  have c0 : vp_in (nI (4 * s)) 48 := x_vi (by omega) (by omega)
  have c1 : vp_in (nI (4 * s + 1)) 48 := x_vi (by omega) (by omega)
  have c2 : vp_in (nI (4 * s + 2)) 48 := x_vi (by omega) (by omega)
  have c3 : vp_in (nI (4 * s + 3)) 48 := x_vi (by omega) (by omega)
  unfold vc_L_same_6
  rw [l_n2, l_n3, l_n4, l_41, l_42, l_43, l_40, a2, h11, x_le (by omega) (by omega), x_cl (show 4 * s < 5000 by omega), x_cl (show 4 * s + 1 < 5000 by omega), x_cl (show 4 * s + 2 < 5000 by omega), x_cl (show 4 * s + 3 < 5000 by omega), x_cl (show j < 5000 by omega)]
  refine ⟨w2, fun q => ?_, fun q => ?_⟩
  · have : j = q_w N := by omega
    subst this
    refine mo_X9_of (ok_X9_of _ _ N K wf) ?_
    rintro r N ⟨rfl, rfl⟩
    rw [l_of0 hs h12.1]
    refine ⟨c0, fun z => absurd t0.symm z, fun _ => ?_⟩
    refine mo_X9_of (ok_X9_of _ _ N K wf) ?_
    rintro r N ⟨rfl, rfl⟩
    rw [l_of1 hs h12.1]
    refine ⟨c1, fun z => absurd t1.symm z, fun _ => ?_⟩
    refine mo_X9_of (ok_X9_of _ _ N K wf) ?_
    rintro r N ⟨rfl, rfl⟩
    rw [l_of2 hs h12.1, a3, x_bit01 (by omega), x_b_if]
    refine ⟨w3, fun z => absurd rfl z, fun _ => ?_⟩
    refine mo_X9_of (ok_X9_of _ _ N K wf) ?_
    rintro r N ⟨rfl, rfl⟩
    rw [l_of3 hs h12.1]
    refine ⟨c2, fun z => absurd t2.symm z, fun _ => ?_⟩
    refine mo_X9_of (ok_X9_of _ _ N K wf) ?_
    rintro r N ⟨rfl, rfl⟩
    rw [l_of4 hs h12.1, a4, x_bit01 (by omega), x_b_if]
    refine ⟨w4, fun z => absurd rfl z, fun _ => ?_⟩
    refine mo_X9_of (ok_X9_of _ _ N K wf) ?_
    rintro r N ⟨rfl, rfl⟩
    rw [l_of5 hs h12.1]
    refine ⟨fun z => absurd rfl z, fun _ => ?_⟩
    refine mo_X9_of (ok_X9_of _ _ N K wf) ?_
    rintro r N ⟨rfl, rfl⟩
    rw [l_of6 hs h12.1]
    refine ⟨c3, fun z => absurd t3.symm z, fun _ => ?_⟩
    refine mo_X9_ifLeft (ok_X9_ifLeft _ N K wf) ?_
    rintro r N ⟨rfl, rfl⟩
    have el : q_Ril N (nI s) = nI (q_cn (fun w => !q_rd (x_up N 1 1 (q_no (N 1 1) s)) w) (q_w N)) := by
      rw [q_Ril, q_if1 (x_vi hs (by omega)), x_cl (by omega), h11]
      exact l_cn_not _ _
    rw [el]
    exact ⟨fun _ => ⟨500000 + 1000 * (20 - s) + 90, by omega, si, se, s, hs, rfl, rfl⟩, fun z => absurd rfl z⟩
  · have hj2 : j < q_w N := by omega
    have v20 : vp_in (nI j) 20 := x_vi (by omega) (by omega)
    have hw := hv j hj2
    refine ⟨v20, ?_⟩
    refine mo_L_set (ok_L_set hw N) ?_
    rintro r N ⟨rfl, rfl⟩
    refine ⟨v20, ?_⟩
    refine mo_L_set (ok_L_set hw N) ?_
    rintro r N ⟨rfl, rfl⟩
    rw [a3]
    have hrd : (l_ss (N 12 j) (N 13 j) &&& ((N 1 1 &&& (((1 : Int32) <<< (nI s &&& 31)) ^^^ (-1 : Int32))) ^^^ (-1 : Int32)) = 0) ↔ q_rd (x_up N 1 1 (q_no (N 1 1) s)) j = true := by
      unfold q_rd
      rw [decide_eq_true_eq, show q_ss (x_up N 1 1 (q_no (N 1 1) s)) j = q_ss N j from q_ss_cong (by rw [x_up_other (by decide)]) (by rw [x_up_other (by decide)]), u_at]
      rfl
    rw [hrd]
    refine ⟨w3, fun v => v = x_b ((!q_rd (x_up N 1 1 (q_no (N 1 1) s)) j) = true), ⟨fun z => (x_b0 (by rw [z]; decide)).symm, fun z => (x_b1 (by simpa using z)).symm⟩, ?_⟩
    rintro j70 rfl
    refine ⟨500000 + 1000 * (20 - s) + 100 + (20 - (j + 1)), by omega, si, se, s, j + 1, hs, by omega, rfl, rfl, nI_1 j, ?_, l_cn_s (fun w => !q_rd (x_up N 1 1 (q_no (N 1 1) s)) w) j⟩
    rw [x_bit01 (by omega), q_nw]
    by_cases z : bt (q_ss N j) s = true
    · rw [if_pos z]
      have z2 : bt (l_ss (N 12 j) (N 13 j)) s = true := z
      rw [if_pos z2]
    · rw [if_neg z]
      have z2 : ¬ bt (l_ss (N 12 j) (N 13 j)) s = true := z
      rw [if_neg z2, Int32.add_zero]
theorem sm_7 {g : xG} {K : Nat} {M : xM} (hK : K + 20 < 9000) (n : Nat) (v14 v15 v16 : Int32) (N : xM) (h : I_7 K M n v14 v15 v16 N) : vc_L_same_7 g v14 v15 v16 N (P_s M) (fun v1 v14 v15 v16 N => ∃ k, k < n ∧ I_1 K M k v1 v14 v15 v16 N) (fun v1 v14 v15 v16 v20 N => ∃ k, k < n ∧ I_2 K M k v1 v14 v15 v16 v20 N) (fun v1 v14 v15 v16 v21 v22 v23 v24 N => ∃ k, k < n ∧ I_3 K M k v1 v14 v15 v16 v21 v22 v23 v24 N) (fun v1 v14 v15 v16 N => ∃ k, k < n ∧ I_4 K M k v1 v14 v15 v16 N) (fun v14 v15 v16 N => ∃ k, k < n ∧ I_5 K M k v14 v15 v16 N) (fun v14 v15 v16 v17 v18 v19 N => ∃ k, k < n ∧ I_6 K M k v14 v15 v16 v17 v18 v19 N) (fun v14 v15 v16 N => ∃ k, k < n ∧ I_7 K M k v14 v15 v16 N) (fun v14 v15 v16 v19 v20 v21 N => ∃ k, k < n ∧ I_8 K M k v14 v15 v16 v19 v20 v21 N) (fun v14 v15 v16 N => ∃ k, k < n ∧ I_9 K M k v14 v15 v16 N) (fun v14 v15 v16 v17 v18 N => ∃ k, k < n ∧ I_10 K M k v14 v15 v16 v17 v18 N) (fun v14 v15 v16 N => ∃ k, k < n ∧ I_11 K M k v14 v15 v16 N) (fun v14 v15 N => ∃ k, k < n ∧ I_12 K M k v14 v15 N) := by
  obtain ⟨si, se, s, hs, rfl, rfl⟩ := h
  obtain ⟨⟨wf, wb, lr, -, -⟩, -⟩ := id si
  have h12 := WF_s wf
  have w0 : vp_in (0 : Int32) 8 := l_v8 0 (by omega) rfl
  have b0 : N 193 0 = nI (q_s N) := by rw [lr.1.1, h12.2]
  unfold vc_L_same_7
  rw [l_n0, b0, nI_1, pk_rem (by omega) (by omega) (by omega)]
  refine ⟨w0, nI_ne0 (by omega) (by omega), ?_⟩
  rintro y98 rfl
  have ho := Nat.mod_lt (s + 1) (show 0 < q_s N by omega)
  refine ⟨500000 + 1000 * (20 - s) + (50 - 0), by omega, si, se, s, _, 0, hs, ho, by omega, rfl, rfl, rfl, rfl, ?_⟩
  split <;> rfl
theorem sm_8 {g : xG} {K : Nat} {M : xM} (hK : K + 20 < 9000) (n : Nat) (v14 v15 v16 v19 v20 v21 : Int32) (N : xM) (h : I_8 K M n v14 v15 v16 v19 v20 v21 N) : vc_L_same_8 g v14 v15 v16 v19 v20 v21 N (P_s M) (fun v1 v14 v15 v16 N => ∃ k, k < n ∧ I_1 K M k v1 v14 v15 v16 N) (fun v1 v14 v15 v16 v20 N => ∃ k, k < n ∧ I_2 K M k v1 v14 v15 v16 v20 N) (fun v1 v14 v15 v16 v21 v22 v23 v24 N => ∃ k, k < n ∧ I_3 K M k v1 v14 v15 v16 v21 v22 v23 v24 N) (fun v1 v14 v15 v16 N => ∃ k, k < n ∧ I_4 K M k v1 v14 v15 v16 N) (fun v14 v15 v16 N => ∃ k, k < n ∧ I_5 K M k v14 v15 v16 N) (fun v14 v15 v16 v17 v18 v19 N => ∃ k, k < n ∧ I_6 K M k v14 v15 v16 v17 v18 v19 N) (fun v14 v15 v16 N => ∃ k, k < n ∧ I_7 K M k v14 v15 v16 N) (fun v14 v15 v16 v19 v20 v21 N => ∃ k, k < n ∧ I_8 K M k v14 v15 v16 v19 v20 v21 N) (fun v14 v15 v16 N => ∃ k, k < n ∧ I_9 K M k v14 v15 v16 N) (fun v14 v15 v16 v17 v18 N => ∃ k, k < n ∧ I_10 K M k v14 v15 v16 v17 v18 N) (fun v14 v15 v16 N => ∃ k, k < n ∧ I_11 K M k v14 v15 v16 N) (fun v14 v15 N => ∃ k, k < n ∧ I_12 K M k v14 v15 N) := by
  obtain ⟨si, se, s, o, u, hs, ho, hu, rfl, rfl, rfl, rfl, rfl⟩ := h
  obtain ⟨⟨wf, wb, lr, -, -⟩, -⟩ := id si
  have h12 := WF_s wf
  have h16 := WF_g wf
  have w1 : vp_in (1 : Int32) 8 := l_v8 1 (by omega) rfl
  have b1 : N 193 1 = nI (q_g N) := by rw [lr.1.2.1, h16.2]
  unfold vc_L_same_8
  rw [l_n1, b1, x_le (by omega) (by omega), x_eq (by omega) (by omega)]
  refine ⟨w1, fun q => ?_, fun q => ?_⟩
  · have : u = q_g N := by omega
    subst this
    refine mo_X9_together (ok_X9_together _ _ N K wf) ?_
    rintro r N ⟨rfl, rfl⟩
    have er : q_Rto N (nI s) (nI o) = if o = s then -2 else nI (q_cn (fun u => decide (q_kt N s (some o) u ≠ -6)) (q_g N)) := by
      rw [q_Rto, q_if1 ⟨x_vi hs (by omega), x_vi ho (by omega)⟩, x_cl (by omega), x_cl (by omega)]
      by_cases z : o = s
      · rw [if_pos z, if_pos (by rw [z])]
      · rw [if_neg z, if_neg (fun w => z ((x_eq (by omega) (by omega)).mp w).symm)]
    refine ⟨fun v => v = q_Rto N (nI s) (nI o), ⟨fun z => by rw [er, if_neg z, if_neg z], fun z => by rw [er, if_pos z]⟩, ?_⟩
    rintro j126 rfl
    exact ⟨fun _ => ⟨500000 + 1000 * (20 - (s + 1)) + 900, by omega, si, se, s + 1, by omega, rfl, nI_1 s⟩, fun z => absurd rfl z⟩
  · have hu2 : u < q_g N := by omega
    refine ⟨fun v N' => N' = N ∧ v = (if o = s then 0 else x_b (decide (q_kt N s (some o) u ≠ -6) = true)), ⟨fun z => ⟨rfl, by rw [if_pos z]⟩, fun z => ?_⟩, ?_⟩
    · refine mo_L_key (ok_L_key s (some o) u (by omega) (fun k q => by cases q; omega) (by omega) N N (LR_LT lr) wb) ?_
      rintro r N ⟨rfl, rfl⟩
      rw [if_neg z, l_kt_neg]
      exact ⟨fun w => ⟨rfl, (x_b0 (by simp [w])).symm⟩, fun w => ⟨rfl, (x_b1 (by simpa using w)).symm⟩⟩
    · rintro j128 N' ⟨rfl, rfl⟩
      refine ⟨500000 + 1000 * (20 - s) + (50 - (u + 1)), by omega, si, se, s, o, u + 1, hs, ho, by omega, rfl, rfl, rfl, nI_1 u, ?_⟩
      by_cases z : o = s
      · rw [if_pos z, if_pos z, if_pos z, Int32.add_zero]
      · rw [if_neg z, if_neg z, if_neg z]
        exact l_cn_s _ _
