/-! the law's comparison -/
theorem sm_12 {g : xG} {K : Nat} {M : xM} (hK : K + 20 < 9000) (n : Nat) (v14 v15 : Int32) (N : xM) (h : I_12 K M n v14 v15 N) : vc_L_same_12 g v14 v15 N (P_s M) (fun v1 v14 v15 v16 N => ∃ k, k < n ∧ I_1 K M k v1 v14 v15 v16 N) (fun v1 v14 v15 v16 v20 N => ∃ k, k < n ∧ I_2 K M k v1 v14 v15 v16 v20 N) (fun v1 v14 v15 v16 v21 v22 v23 v24 N => ∃ k, k < n ∧ I_3 K M k v1 v14 v15 v16 v21 v22 v23 v24 N) (fun v1 v14 v15 v16 N => ∃ k, k < n ∧ I_4 K M k v1 v14 v15 v16 N) (fun v14 v15 v16 N => ∃ k, k < n ∧ I_5 K M k v14 v15 v16 N) (fun v14 v15 v16 v17 v18 v19 N => ∃ k, k < n ∧ I_6 K M k v14 v15 v16 v17 v18 v19 N) (fun v14 v15 v16 N => ∃ k, k < n ∧ I_7 K M k v14 v15 v16 N) (fun v14 v15 v16 v19 v20 v21 N => ∃ k, k < n ∧ I_8 K M k v14 v15 v16 v19 v20 v21 N) (fun v14 v15 v16 N => ∃ k, k < n ∧ I_9 K M k v14 v15 v16 N) (fun v14 v15 v16 v17 v18 N => ∃ k, k < n ∧ I_10 K M k v14 v15 v16 v17 v18 N) (fun v14 v15 v16 N => ∃ k, k < n ∧ I_11 K M k v14 v15 v16 N) (fun v14 v15 N => ∃ k, k < n ∧ I_12 K M k v14 v15 N) := by
  obtain ⟨si, ⟨rfl, rfl⟩, rfl⟩ := h
  obtain ⟨⟨wf, wb, lr, lp, -⟩, fs⟩ := id si
  have h12 := WF_p wf
  obtain ⟨⟨a0, a1, a2, a3, a4, a5, a6⟩, -, -, -⟩ := id lr
  have b7 : N 193 7 = nI (q_p N) := by rw [lp.1, h12.2]
  unfold vc_L_same_12
  rw [l_n7, l_n0, l_n1, l_n2, l_n3, l_n4, l_n5, l_n6, b7]
  refine ⟨l_v8 7 (by omega) rfl, ?_⟩
  refine mo_X9_past (ok_X9_past _ _ N K wf) ?_
  rintro r N ⟨rfl, rfl⟩
  rw [l_pan h12.1]
  refine ⟨fun z => absurd rfl z, fun _ => ?_⟩
  refine mo_X9_count (ok_X9_count _ N K wf) ?_
  rintro r N ⟨rfl, rfl⟩
  rw [show q_Rco N (N 185 1) (N 181 1) 0 = N 1 0 from q_sw_0.symm]
  refine ⟨l_v8 0 (by omega) rfl, fun z => absurd a0.symm z, fun _ => ?_⟩
  refine mo_X9_count (ok_X9_count _ N K wf) ?_
  rintro r N ⟨rfl, rfl⟩
  rw [show q_Rco N (N 185 1) (N 181 1) 1 = N 1 1 from q_sw_1.symm]
  refine ⟨l_v8 3 (by omega) rfl, fun z => absurd a3.symm z, fun _ => ?_⟩
  refine mo_X9_count (ok_X9_count _ N K wf) ?_
  rintro r N ⟨rfl, rfl⟩
  rw [show q_Rco N (N 185 1) (N 181 1) 2 = N 6 0 from q_sw_2.symm]
  refine ⟨l_v8 1 (by omega) rfl, fun z => absurd a1.symm z, fun _ => ?_⟩
  refine mo_X9_count (ok_X9_count _ N K wf) ?_
  rintro r N ⟨rfl, rfl⟩
  rw [show q_Rco N (N 185 1) (N 181 1) 3 = N 11 0 from q_sw_3.symm]
  refine ⟨l_v8 2 (by omega) rfl, fun z => absurd a2.symm z, fun _ => ?_⟩
  refine mo_X9_count (ok_X9_count _ N K wf) ?_
  rintro r N ⟨rfl, rfl⟩
  rw [show q_Rco N (N 185 1) (N 181 1) 4 = nI (q_cn (q_rd N) (q_w N)) from q_sw_4.symm]
  refine ⟨fun z => absurd rfl z, fun _ => ?_⟩
  refine mo_X9_count (ok_X9_count _ N K wf) ?_
  rintro r N ⟨rfl, rfl⟩
  rw [show q_Rco N (N 185 1) (N 181 1) 5 = q_on (q_next N) from q_sw_5.symm]
  refine mo_L_next (ok_L_next 193 194 196 xa_193 xa_194 xa_196 _ N N K wf (by omega) lr) ?_
  rintro r N ⟨rfl, rfl⟩
  refine ⟨fun z => absurd rfl z, fun _ => ?_⟩
  refine mo_X9_count (ok_X9_count _ N K wf) ?_
  rintro r N ⟨rfl, rfl⟩
  rw [show q_Rco N (N 185 1) (N 181 1) 6 = N 0 4 from q_sw_6.symm]
  refine ⟨l_v8 5 (by omega) rfl, fun z => absurd a5.symm z, fun _ => ?_⟩
  refine mo_X9_count (ok_X9_count _ N K wf) ?_
  rintro r N ⟨rfl, rfl⟩
  rw [show q_Rco N (N 185 1) (N 181 1) 7 = N 0 5 from q_sw_7.symm]
  refine ⟨l_v8 6 (by omega) rfl, fun z => absurd a6.symm z, fun _ => ?_⟩
  refine mo_X9_count (ok_X9_count _ N K wf) ?_
  rintro r N ⟨rfl, rfl⟩
  rw [show q_Rco N (N 185 1) (N 181 1) 8 = N 1 2 from q_sw_8.symm]
  refine ⟨l_v8 4 (by omega) rfl, fun z => absurd a4.symm z, fun _ => ?_⟩
  refine mo_X9_endOfAll (ok_X9_endOfAll N K wf) ?_
  rintro r N ⟨rfl, rfl⟩
  exact ⟨fun z => absurd rfl z, fun _ => ⟨rfl, fs⟩⟩
theorem ok_L_same {g : xG} {K : Nat} {M : xM} (hK : K + 20 < 9000) (v1 : Int32) (h : LI K M) : mi_L_same g v1 M (fun r N => r = 1 ∧ l_fs M N) := by
  refine wk_L_same v1 M _ (I_1 K M) (I_2 K M) (I_3 K M) (I_4 K M) (I_5 K M) (I_6 K M) (I_7 K M) (I_8 K M) (I_9 K M) (I_10 K M) (I_11 K M) (I_12 K M) ?_ (fun n v1 v14 v15 v16 N h => sm_1 hK n v1 v14 v15 v16 N h) (fun n v1 v14 v15 v16 v20 N h => sm_2 hK n v1 v14 v15 v16 v20 N h) (fun n v1 v14 v15 v16 v21 v22 v23 v24 N h => sm_3 hK n v1 v14 v15 v16 v21 v22 v23 v24 N h) (fun n v1 v14 v15 v16 N h => sm_4 hK n v1 v14 v15 v16 N h) (fun n v14 v15 v16 N h => sm_5 hK n v14 v15 v16 N h) (fun n v14 v15 v16 v17 v18 v19 N h => sm_6 hK n v14 v15 v16 v17 v18 v19 N h) (fun n v14 v15 v16 N h => sm_7 hK n v14 v15 v16 N h) (fun n v14 v15 v16 v19 v20 v21 N h => sm_8 hK n v14 v15 v16 v19 v20 v21 N h) (fun n v14 v15 v16 N h => sm_9 hK n v14 v15 v16 N h) (fun n v14 v15 v16 v17 v18 N h => sm_10 hK n v14 v15 v16 v17 v18 N h) (fun n v14 v15 v16 N h => sm_11 hK n v14 v15 v16 N h) (fun n v14 v15 N h => sm_12 hK n v14 v15 N h)
  unfold vc_L_same
  rw [l_n5]
  refine ⟨l_v8 5 (by omega) rfl, 1000000 + 1000 * (20 - 0) + 900, ⟨h, l_fs_rf M⟩, 0, by omega, rfl, rfl, rfl, ?_⟩
  exact h.2.2.1.1.2.2.2.2.2.1
