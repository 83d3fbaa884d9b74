/-! the law's comparison -/
theorem sm_1 {g : xG} {K : Nat} {M : xM} (hK : K + 20 < 9000) (n : Nat) (v1 v14 v15 v16 : Int32) (N : xM) (h : I_1 K M n v1 v14 v15 v16 N) : vc_L_same_1 g v1 v14 v15 v16 N (P_s M) (fun v1 v14 v15 v16 N => ∃ k, k < n ∧ I_1 K M k v1 v14 v15 v16 N) (fun v1 v14 v15 v16 v20 N => ∃ k, k < n ∧ I_2 K M k v1 v14 v15 v16 v20 N) (fun v1 v14 v15 v16 v21 v22 v23 v24 N => ∃ k, k < n ∧ I_3 K M k v1 v14 v15 v16 v21 v22 v23 v24 N) (fun v1 v14 v15 v16 N => ∃ k, k < n ∧ I_4 K M k v1 v14 v15 v16 N) (fun v14 v15 v16 N => ∃ k, k < n ∧ I_5 K M k v14 v15 v16 N) (fun v14 v15 v16 v17 v18 v19 N => ∃ k, k < n ∧ I_6 K M k v14 v15 v16 v17 v18 v19 N) (fun v14 v15 v16 N => ∃ k, k < n ∧ I_7 K M k v14 v15 v16 N) (fun v14 v15 v16 v19 v20 v21 N => ∃ k, k < n ∧ I_8 K M k v14 v15 v16 v19 v20 v21 N) (fun v14 v15 v16 N => ∃ k, k < n ∧ I_9 K M k v14 v15 v16 N) (fun v14 v15 v16 v17 v18 N => ∃ k, k < n ∧ I_10 K M k v14 v15 v16 v17 v18 N) (fun v14 v15 v16 N => ∃ k, k < n ∧ I_11 K M k v14 v15 v16 N) (fun v14 v15 N => ∃ k, k < n ∧ I_12 K M k v14 v15 N) := by
  obtain ⟨si, i, hi, rfl, rfl, rfl, rfl⟩ := h
  obtain ⟨⟨wf, wb, lr, -, -⟩, -⟩ := id si
  obtain ⟨h20, h11⟩ := WF_w wf
  obtain ⟨⟨-, -, a2, a3, a4, -, -⟩, hT, hG, hv⟩ := id lr
  have w2 : vp_in (2 : Int32) 8 := l_v8 2 (by omega) rfl
  have w3 : vp_in (3 : Int32) 8 := l_v8 3 (by omega) rfl
  have w4 : vp_in (4 : Int32) 8 := l_v8 4 (by omega) rfl
  unfold vc_L_same_1
  rw [l_n2, l_n3, l_n4, a2, h11, x_le (by omega) (by omega), x_cl (show i < 5000 by omega)]
  refine ⟨w2, fun q => ?_, fun q => ?_⟩
  · have : i = q_w N := by omega
    subst this
    exact ⟨500000 + 1000 * (20 - 0) + 900, by omega, si, ⟨rfl, rfl⟩, 0, by omega, rfl, rfl⟩
  · have hi2 : i < q_w N := by omega
    have v20 : vp_in (nI i) 20 := x_vi (by omega) (by omega)
    have hw := hv i hi2
    obtain ⟨a, p, c, ha, hp, hc, e12, e13, e14, ev⟩ := id hw
    obtain ⟨d1, d2, d3⟩ := l_w_d ha hp hc ev
    rw [d1, d2, d3, l_42, x_cl (show 4 * c + 2 < 5000 by omega)]
    refine ⟨v20, ?_⟩
    rintro y1 rfl
    rintro y2 rfl
    refine mo_L_set (ok_L_set hw N) ?_
    rintro r N ⟨rfl, rfl⟩
    rw [a3]
    have hrd : (l_ss (N 12 i) (N 13 i) &&& (N 1 1 ^^^ (-1 : Int32)) = 0) ↔ q_rd N i = true := by
      unfold q_rd
      rw [decide_eq_true_eq]
      rfl
    rw [hrd]
    refine ⟨w3, fun v => v = x_b (q_rd N i = true), ⟨fun z => (x_b0 z).symm, fun z => (x_b1 z).symm⟩, ?_⟩
    rintro j6 rfl
    refine ⟨fun v => v = x_b (q_rd N i = true), ⟨fun z => z.symm, fun z => (x_b1 (x_b_ne.mp z)).symm⟩, ?_⟩
    rintro j8 rfl
    refine ⟨fun v => q_ea N i + v = q_ea N (i + 1), ⟨fun z => ?_, fun z => ⟨x_vi (by omega) (by omega), ?_⟩⟩, ?_⟩
    · show q_ea N i + 0 = q_ea N (i + 1)
      rw [q_ea, if_neg (x_b_eq.mp z), Int32.add_zero]
    · show q_ea N i + N 195 (4 * c + 2) = q_ea N (i + 1)
      rw [q_ea, if_pos (x_b_ne.mp z), (hG c hc).2.2.1, e14, x_cl (by omega)]
    · intro j10 hj10
      refine mo_X9_inQueue (ok_X9_inQueue _ _ N K wf) ?_
      rintro r N ⟨rfl, rfl⟩
      rw [l_iq0 hi2 h20]
      refine ⟨fun z => absurd e12 z, fun _ => ?_⟩
      refine mo_X9_inQueue (ok_X9_inQueue _ _ N K wf) ?_
      rintro r N ⟨rfl, rfl⟩
      rw [l_iq1 hi2 h20]
      have y2 : ∃ o : Option Nat, (∀ k, o = some k → k < 12) ∧ nI p - 1 = l_on o ∧ N 13 i = q_on o ∧ (0 ≤ nI p - 1 → N 13 i = nI p - 1) ∧ (¬ (0 ≤ nI p - 1) → N 13 i = -6) := by
        by_cases p0 : p = 0
        · subst p0
          refine ⟨none, (fun _ z => by cases z), by decide +kernel, e13, fun z => absurd l_neg0 (Int32.not_lt.mpr z), fun _ => e13⟩
        · rw [if_neg p0] at e13
          rw [x_pred (by omega)]
          exact ⟨some (p - 1), (fun k z => by cases z; omega), rfl, e13, fun _ => e13, fun z => absurd (nI_pos' (by omega)) z⟩
      obtain ⟨o, ho, y2a, y2b, y2c, y2d⟩ := y2
      refine ⟨fun v => v = N 13 i, ⟨fun z => (y2c z).symm, fun z => (y2d z).symm⟩, ?_⟩
      rintro j16 rfl
      refine ⟨fun z => absurd rfl z, fun _ => ?_⟩
      refine mo_X9_inQueue (ok_X9_inQueue _ _ N K wf) ?_
      rintro r N ⟨rfl, rfl⟩
      rw [l_iq2 hi2 h20]
      refine ⟨fun z => absurd e14 z, fun _ => ?_⟩
      refine mo_X9_inQueue (ok_X9_inQueue _ _ N K wf) ?_
      rintro r N ⟨rfl, rfl⟩
      rw [l_iq3 hi2 h20, y2a]
      refine mo_L_key (ok_L_key a o c ha ho hc N N (LR_LT lr) wb) ?_
      rintro r N ⟨rfl, rfl⟩
      have ek : q_kt N (N 12 i).toNatClampNeg (q_ov (N 13 i)) (N 14 i).toNatClampNeg = q_kt N a o c := by
        rw [e12, e14, y2b, x_cl (by omega), x_cl (by omega), q_ov_on (fun k z => by have := ho k z; omega)]
      rw [ek]
      refine ⟨fun z => absurd rfl z, fun _ => ?_⟩
      refine mo_X9_inQueue (ok_X9_inQueue _ _ N K wf) ?_
      rintro r N ⟨rfl, rfl⟩
      rw [l_iq4 hi2 h20]
      refine ⟨fun v => v = x_b (q_rd N i = true), ⟨fun z => z.symm, fun z => (x_b1 (x_b_ne.mp z)).symm⟩, ?_⟩
      rintro j26 rfl
      refine ⟨fun z => absurd rfl z, fun _ => ?_⟩
      refine mo_X9_inQueue (ok_X9_inQueue _ _ N K wf) ?_
      rintro r N ⟨rfl, rfl⟩
      rw [l_iq5 hi2 h20]
      refine mo_L_set (ok_L_set hw N) ?_
      rintro r N ⟨rfl, rfl⟩
      rw [a4]
      have hfr : (l_ss (N 12 i) (N 13 i) &&& N 1 2 = 0) ↔ q_fr N (N 1 2) i = true := by
        unfold q_fr
        rw [decide_eq_true_eq]
        rfl
      rw [hfr]
      refine ⟨w4, fun v => v = x_b (q_fr N (N 1 2) i = true), ⟨fun z => (x_b0 z).symm, fun z => (x_b1 z).symm⟩, ?_⟩
      rintro j32 rfl
      refine ⟨fun z => absurd rfl z, fun _ => ?_⟩
      refine mo_X9_inQueue (ok_X9_inQueue _ _ N K wf) ?_
      rintro r N ⟨rfl, rfl⟩
      rw [l_iq6 hi2 h20]
      refine mo_L_turns (ok_L_turns 194 xa_194 (N 4) hw N (fun k hk => (hT k hk).2.2.1)) ?_
      rintro r N ⟨rfl, rfl⟩
      refine ⟨fun _ => ⟨1000000 + 1000 * (20 - i) + 800, by omega, si, i, hi2, rfl, rfl, rfl, l_cn_s _ _, hj10⟩, fun z => absurd rfl z⟩
