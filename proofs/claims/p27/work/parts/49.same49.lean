/-! the law's comparison -/
theorem sm_2 {g : xG} {K : Nat} {M : xM} (hK : K + 20 < 9000) (n : Nat) (v1 v14 v15 v16 v20 : Int32) (N : xM) (h : I_2 K M n v1 v14 v15 v16 v20 N) : vc_L_same_2 g v1 v14 v15 v16 v20 N (P_s M) (fun v1 v14 v15 v16 N => ∃ k, k < n ∧ I_1 K M k v1 v14 v15 v16 N) (fun v1 v14 v15 v16 v20 N => ∃ k, k < n ∧ I_2 K M k v1 v14 v15 v16 v20 N) (fun v1 v14 v15 v16 v21 v22 v23 v24 N => ∃ k, k < n ∧ I_3 K M k v1 v14 v15 v16 v21 v22 v23 v24 N) (fun v1 v14 v15 v16 N => ∃ k, k < n ∧ I_4 K M k v1 v14 v15 v16 N) (fun v14 v15 v16 N => ∃ k, k < n ∧ I_5 K M k v14 v15 v16 N) (fun v14 v15 v16 v17 v18 v19 N => ∃ k, k < n ∧ I_6 K M k v14 v15 v16 v17 v18 v19 N) (fun v14 v15 v16 N => ∃ k, k < n ∧ I_7 K M k v14 v15 v16 N) (fun v14 v15 v16 v19 v20 v21 N => ∃ k, k < n ∧ I_8 K M k v14 v15 v16 v19 v20 v21 N) (fun v14 v15 v16 N => ∃ k, k < n ∧ I_9 K M k v14 v15 v16 N) (fun v14 v15 v16 v17 v18 N => ∃ k, k < n ∧ I_10 K M k v14 v15 v16 v17 v18 N) (fun v14 v15 v16 N => ∃ k, k < n ∧ I_11 K M k v14 v15 v16 N) (fun v14 v15 N => ∃ k, k < n ∧ I_12 K M k v14 v15 N) := by
  obtain ⟨si, i, hi, rfl, rfl, rfl, rfl, rfl⟩ := h
  obtain ⟨⟨wf, wb, lr, -, -⟩, -⟩ := id si
  obtain ⟨h20, h11⟩ := WF_w wf
  have w2 : vp_in (2 : Int32) 8 := l_v8 2 (by omega) rfl
  have w5 : vp_in (5 : Int32) 8 := l_v8 5 (by omega) rfl
  unfold vc_L_same_2
  rw [l_n2, l_n5]
  refine ⟨fun z => ?_, fun z => ?_⟩
  · have hr := x_b_ne.mp z
    refine mo_L_comes (ok_L_comes N N K i none wf wb hK hi (fun _ q => by cases q) hr lr) ?_
    rintro r N1 ⟨⟨m, hm, hc, rfl, et⟩, f1⟩
    have s1 := l_fs_l f1
    have si1 := SI_fs si s1
    have lo1 := l_lo s1
    obtain ⟨wf1, -, lr1, -, -⟩ := si1.1
    have ew1 : q_w N1 = q_w N := q_w_rows lo1
    refine mo_X9_turnOf (ok_X9_turnOf _ _ N1 K wf1) ?_
    rintro r N2 ⟨rfl, f2⟩
    have s2 := l_fs_9 f2
    have si2 := SI_fs si1 s2
    have lo2 := l_lo s2
    obtain ⟨wf2, -, lr2, -, -⟩ := si2.1
    have hr1 : q_rd N1 i = true := by rw [q_rd_rows lo1]; exact hr
    have hr2 : q_rd N2 i = true := by rw [q_rd_rows lo2]; exact hr1
    have e4 : (10000 : Int32) = nI 10000 := rfl
    have t1 : q_turn N1 i none = q_turn N i none := q_turn_row lo1 i none
    have t2 : q_turn N2 i none = q_turn N i none := by rw [q_turn_row lo2 i none, t1]
    rw [l_tu0 (by omega) (by omega) hr1, t1, e4, pk_rem (by omega) (by omega) (by omega), pk_div (by omega) (by omega) (by omega), show (10000 * (q_turn N i none).1 + m) / 10000 = (q_turn N i none).1 by omega, show (10000 * (q_turn N i none).1 + m) % 10000 = m by omega]
    refine ⟨fun z => absurd rfl z, fun _ => ?_⟩
    refine mo_X9_turnOf (ok_X9_turnOf _ _ N2 K wf2) ?_
    rintro r N3 ⟨rfl, f3⟩
    have s3 := l_fs_9 f3
    have si3 := SI_fs si2 s3
    have lo3 := l_lo s3
    have ew2 : q_w N2 = q_w N := by rw [q_w_rows lo2, ew1]
    have ew3 : q_w N3 = q_w N := by rw [q_w_rows lo3, ew2]
    have t3 : q_turn N3 i none = q_turn N i none := by rw [q_turn_row lo3 i none, t2]
    have m3 : N3 0 4 = N 0 4 := by rw [lo3 0 (by decide), lo2 0 (by decide), lo1 0 (by decide)]
    have b5 : N3 193 5 = N 0 4 := by rw [si3.1.2.2.1.1.2.2.2.2.2.1, m3]
    have b2 : N3 193 2 = nI (q_w N) := by rw [si3.1.2.2.1.1.2.2.1, (WF_w si3.1.1).2, ew3]
    have rd3 : q_rd N3 = q_rd N := by rw [q_rd_rows lo3, q_rd_rows lo2, q_rd_rows lo1]
    have ea3 : q_ea N3 (i + 1) = q_ea N (i + 1) := by rw [q_ea_rows lo3, q_ea_rows lo2, q_ea_rows lo1]
    rw [l_tu1 (by omega) (by omega) hr2, t2, b5, b2, et]
    refine ⟨w5, fun _ => ⟨w2, ?_⟩, fun z => absurd rfl z⟩
    refine mo_L_low (ok_L_low _ (q_w N) (by omega) (by omega) N3) ?_
    rintro r N3 ⟨⟨k, hk, rfl⟩, rfl⟩
    have go4 : ∃ k, k < 1000000 + 1000 * (20 - i) + 800 ∧ I_4 K M k v1 (nI (q_cn (q_rd N) (i + 1))) (q_ea N (i + 1)) (nI i) N3 := ⟨1000000 + 1000 * (20 - i) + 50, by omega, si3, i, by omega, rfl, rfl, by rw [rd3], by rw [ea3]⟩
    rw [x_eq (by omega) (by omega), b2]
    refine ⟨fun _ => go4, fun _ => ⟨w2, fun q1 => ?_, fun _ => go4⟩⟩
    refine ⟨1000000 + 1000 * (20 - i) + 100 + (20 - 0), by omega, si3, i, 0, (q_turn N i none).1, m, by omega, by rw [rd3]; exact hr, ?_, by omega, rfl, rfl, rfl, by rw [rd3], by rw [ea3], hc, by omega, rfl, by rw [t3, m3]; exact et, rfl, rfl⟩
    intro e
    exact q1 (by rw [← ew3, e]; rfl)
  · have hr := x_b_eq.mp z
    refine mo_X9_turnOf (ok_X9_turnOf _ _ N K wf) ?_
    rintro r N1 ⟨rfl, f1⟩
    rw [l_tun hi h20 hr]
    refine ⟨fun z => absurd rfl z, fun _ => ?_⟩
    have s1 := l_fs_9 f1
    have si1 := SI_fs si s1
    have lo1 := l_lo s1
    have ew1 : q_w N1 = q_w N := q_w_rows lo1
    refine mo_X9_heldUpBy (ok_X9_heldUpBy _ _ N1 K si1.1.1) ?_
    rintro r N2 ⟨rfl, f2⟩
    have s2 := l_fs_9 f2
    have si2 := SI_fs si1 s2
    have lo2 := l_lo s2
    have ew2 : q_w N2 = q_w N := by rw [q_w_rows lo2, ew1]
    rw [l_hbn (by omega) (by omega) (by rw [q_rd_rows lo1]; exact hr)]
    refine ⟨fun _ => ⟨1000000 + 1000 * (20 - i) + 50, by omega, si2, i, by omega, rfl, rfl, ?_, ?_⟩, fun z => absurd rfl z⟩
    · rw [q_rd_rows lo2, q_rd_rows lo1]
    · rw [q_ea_rows lo2, q_ea_rows lo1]
theorem sm_3 {g : xG} {K : Nat} {M : xM} (hK : K + 20 < 9000) (n : Nat) (v1 v14 v15 v16 v21 v22 v23 v24 : Int32) (N : xM) (h : I_3 K M n v1 v14 v15 v16 v21 v22 v23 v24 N) : vc_L_same_3 g v1 v14 v15 v16 v21 v22 v23 v24 N (P_s M) (fun v1 v14 v15 v16 N => ∃ k, k < n ∧ I_1 K M k v1 v14 v15 v16 N) (fun v1 v14 v15 v16 v20 N => ∃ k, k < n ∧ I_2 K M k v1 v14 v15 v16 v20 N) (fun v1 v14 v15 v16 v21 v22 v23 v24 N => ∃ k, k < n ∧ I_3 K M k v1 v14 v15 v16 v21 v22 v23 v24 N) (fun v1 v14 v15 v16 N => ∃ k, k < n ∧ I_4 K M k v1 v14 v15 v16 N) (fun v14 v15 v16 N => ∃ k, k < n ∧ I_5 K M k v14 v15 v16 N) (fun v14 v15 v16 v17 v18 v19 N => ∃ k, k < n ∧ I_6 K M k v14 v15 v16 v17 v18 v19 N) (fun v14 v15 v16 N => ∃ k, k < n ∧ I_7 K M k v14 v15 v16 N) (fun v14 v15 v16 v19 v20 v21 N => ∃ k, k < n ∧ I_8 K M k v14 v15 v16 v19 v20 v21 N) (fun v14 v15 v16 N => ∃ k, k < n ∧ I_9 K M k v14 v15 v16 N) (fun v14 v15 v16 v17 v18 N => ∃ k, k < n ∧ I_10 K M k v14 v15 v16 v17 v18 N) (fun v14 v15 v16 N => ∃ k, k < n ∧ I_11 K M k v14 v15 v16 N) (fun v14 v15 N => ∃ k, k < n ∧ I_12 K M k v14 v15 N) := by
  obtain ⟨si, i, j, c, m, hi, hr, h1, hj, rfl, rfl, rfl, rfl, rfl, hc, hm, rfl, et, rfl, rfl⟩ := h
  obtain ⟨⟨wf, wb, lr, -, -⟩, -⟩ := id si
  obtain ⟨h20, h11⟩ := WF_w wf
  have w2 : vp_in (2 : Int32) 8 := l_v8 2 (by omega) rfl
  have b2 : N 193 2 = nI (q_w N) := by rw [lr.1.2.2.1, h11]
  unfold vc_L_same_3
  rw [l_n2, b2, x_le (by omega) (by omega), x_eq (by omega) (by omega)]
  refine ⟨w2, fun q => ?_, fun q => ⟨fun hne => ?_, fun e => ?_⟩⟩
  · have : j = q_w N := by omega
    subst this
    have ne6 : (q_hb N i (q_turn N i none).2 (q_w N)).1 ≠ -6 := by
      by_cases i0 : i = 0
      · exact (l_hb_in h20).2 1 (by omega) (by omega)
      · exact (l_hb_in h20).2 0 (by omega) (by omega)
    refine mo_X9_heldUpBy (ok_X9_heldUpBy _ _ N K wf) ?_
    rintro r N1 ⟨rfl, f1⟩
    have s1 := l_fs_9 f1
    have si1 := SI_fs si s1
    have lo1 := l_lo s1
    have ew1 : q_w N1 = q_w N := q_w_rows lo1
    rw [l_hb0 hi h20 hr h1, l_hb, if_neg ne6]
    refine ⟨fun z => absurd rfl z, fun _ => ?_⟩
    refine mo_X9_heldUpBy (ok_X9_heldUpBy _ _ N1 K si1.1.1) ?_
    rintro r N2 ⟨rfl, f2⟩
    have s2 := l_fs_9 f2
    have si2 := SI_fs si1 s2
    have lo2 := l_lo s2
    have ew2 : q_w N2 = q_w N := by rw [q_w_rows lo2, ew1]
    rw [l_hb1 (by omega) (by omega) (by rw [q_rd_rows lo1]; exact hr) (by omega), ew1, q_hb_rows lo1, q_turn_row lo1]
    refine ⟨fun _ => ⟨1000000 + 1000 * (20 - i) + 50, by omega, si2, i, by omega, rfl, rfl, ?_, ?_⟩, fun z => absurd rfl z⟩
    · rw [q_rd_rows lo2, q_rd_rows lo1]
    · rw [q_ea_rows lo2, q_ea_rows lo1]
  all_goals
    have nxt : ∀ (p : Int32 × Int32) (N' : xM), p = q_hb N i (q_turn N i none).2 (j + 1) → l_fs N N' → ∃ k, k < 1000000 + 1000 * (20 - i) + 100 + (20 - j) ∧ I_3 K M k v1 (nI (q_cn (q_rd N) (i + 1))) (q_ea N (i + 1)) (nI i) (nI (10000 * c + m)) (l_hb p.1) p.2 (nI j + 1) N' := by
      intro p N' hp s1
      have lo1 := l_lo s1
      have ew1 : q_w N' = q_w N := q_w_rows lo1
      have t1 : q_turn N' i none = q_turn N i none := q_turn_row lo1 i none
      exact ⟨1000000 + 1000 * (20 - i) + 100 + (20 - (j + 1)), by omega, SI_fs si s1, i, j + 1, c, m, by omega, by rw [q_rd_rows lo1]; exact hr, by omega, by omega, rfl, rfl, nI_1 j, by rw [q_rd_rows lo1], by rw [q_ea_rows lo1], hc, hm, rfl, by rw [t1, lo1 0 (by decide)]; exact et, by rw [t1, q_hb_rows lo1, hp], by rw [t1, q_hb_rows lo1, hp]⟩
  · have hj2 : j < q_w N := by omega
    refine mo_L_comes (ok_L_comes N N K i (some j) wf wb hK hi (fun k q => by cases q; exact ⟨hj2, hne⟩) hr lr) ?_
    rintro r N1 ⟨⟨m2, hm2, hc2, rfl, et2⟩, f1⟩
    have s1 := l_fs_l f1
    have e4 : (10000 : Int32) = nI 10000 := rfl
    rw [e4, pk_rem (by omega) (by omega) (by omega), pk_rem (by omega) (by omega) (by omega), show (10000 * c + m) % 10000 = m by omega, show (10000 * (q_turn N i (some j)).1 + m2) % 10000 = m2 by omega]
    have dd : (q_turn N i none).2 - (q_turn N i (some j)).2 = nI m - nI m2 := by
      rw [et, et2]
      exact l_dd _ _ _
    have hbi := (l_hb_in (E := N) (w := i) (b := (q_turn N i none).2) (n := j) (by omega)).1
    have ej : l_hb (nI j) = nI j := if_neg (x_nm6 (by omega))
    have step : q_hb N i (q_turn N i none).2 (j + 1) = if (q_hb N i (q_turn N i none).2 j).1 = -6 then (nI j, nI m - nI m2) else if nI m - nI m2 ≤ (q_hb N i (q_turn N i none).2 j).2 then q_hb N i (q_turn N i none).2 j else (nI j, nI m - nI m2) := by
      rw [q_hb, if_neg hne, dd]
    generalize hH : q_hb N i (q_turn N i none).2 j = H at *
    rintro y77 rfl
    refine ⟨fun z => ?_, fun z => ⟨fun z2 => ?_, fun z2 => ?_⟩⟩
    · have h6 : H.1 = -6 := by
        rcases hbi with h6 | ⟨k, hk, h6⟩
        · exact h6
        · rw [l_hb, h6, if_neg (x_nm6 (by omega))] at z
          exact absurd z (x_neg (by omega))
      have := nxt (nI j, nI m - nI m2) N1 (by rw [step, if_pos h6]) s1
      rw [ej] at this
      exact this
    · have h6 : H.1 ≠ -6 := fun w => z (by rw [w]; decide)
      exact nxt H N1 (by rw [step, if_neg h6, if_pos z2]) s1
    · have h6 : H.1 ≠ -6 := fun w => z (by rw [w]; decide)
      have := nxt (nI j, nI m - nI m2) N1 (by rw [step, if_neg h6, if_neg z2]) s1
      rw [ej] at this
      exact this
  · exact nxt _ N (by rw [q_hb, if_pos e]) (l_fs_rf N)
theorem sm_4 {g : xG} {K : Nat} {M : xM} (hK : K + 20 < 9000) (n : Nat) (v1 v14 v15 v16 : Int32) (N : xM) (h : I_4 K M n v1 v14 v15 v16 N) : vc_L_same_4 g v1 v14 v15 v16 N (P_s M) (fun v1 v14 v15 v16 N => ∃ k, k < n ∧ I_1 K M k v1 v14 v15 v16 N) (fun v1 v14 v15 v16 v20 N => ∃ k, k < n ∧ I_2 K M k v1 v14 v15 v16 v20 N) (fun v1 v14 v15 v16 v21 v22 v23 v24 N => ∃ k, k < n ∧ I_3 K M k v1 v14 v15 v16 v21 v22 v23 v24 N) (fun v1 v14 v15 v16 N => ∃ k, k < n ∧ I_4 K M k v1 v14 v15 v16 N) (fun v14 v15 v16 N => ∃ k, k < n ∧ I_5 K M k v14 v15 v16 N) (fun v14 v15 v16 v17 v18 v19 N => ∃ k, k < n ∧ I_6 K M k v14 v15 v16 v17 v18 v19 N) (fun v14 v15 v16 N => ∃ k, k < n ∧ I_7 K M k v14 v15 v16 N) (fun v14 v15 v16 v19 v20 v21 N => ∃ k, k < n ∧ I_8 K M k v14 v15 v16 v19 v20 v21 N) (fun v14 v15 v16 N => ∃ k, k < n ∧ I_9 K M k v14 v15 v16 N) (fun v14 v15 v16 v17 v18 N => ∃ k, k < n ∧ I_10 K M k v14 v15 v16 v17 v18 N) (fun v14 v15 v16 N => ∃ k, k < n ∧ I_11 K M k v14 v15 v16 N) (fun v14 v15 N => ∃ k, k < n ∧ I_12 K M k v14 v15 N) := by
  obtain ⟨si, i, hi, rfl, rfl, rfl, rfl⟩ := h
  have h20 := (WF_w si.1.1).1
  exact ⟨1000000 + 1000 * (20 - (i + 1)) + 900, by omega, si, i + 1, by omega, rfl, nI_1 i, rfl, rfl⟩
