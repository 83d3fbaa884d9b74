/-! the law's acts -/
theorem lw_8 {g : xG} (n : Nat) (v14 v15 : Int32) (N : xM) (h : A_8 n v14 v15 N) : vc_L_law_8 g v14 v15 N (fun v14 N => ∃ k, k < n ∧ A_1 k v14 N) (fun v14 v15 v17 v18 N => ∃ k, k < n ∧ A_2 k v14 v15 v17 v18 N) (fun v14 v15 v17 N => ∃ k, k < n ∧ A_3 k v14 v15 v17 N) (fun v14 v15 v17 N => ∃ k, k < n ∧ A_4 k v14 v15 v17 N) (fun v14 v15 N => ∃ k, k < n ∧ A_5 k v14 v15 N) (fun v14 v15 N => ∃ k, k < n ∧ A_6 k v14 v15 N) (fun v14 v15 v17 v18 N => ∃ k, k < n ∧ A_7 k v14 v15 v17 v18 N) (fun v14 v15 N => ∃ k, k < n ∧ A_8 k v14 v15 N) (fun v14 v15 v17 v18 v19 N => ∃ k, k < n ∧ A_9 k v14 v15 v17 v18 v19 N) (fun v14 v15 N => ∃ k, k < n ∧ A_10 k v14 v15 N) := by
  obtain ⟨t, t5, ht, rfl, rfl, li, hs, hg⟩ := h
  obtain ⟨wf, wb, lr, lq, hh⟩ := id li
  unfold vc_L_law_8
  refine mo_L_low (ok_L_low _ 6 (by omega) (by omega) N) ?_
  rintro r N ⟨⟨k, hk, rfl⟩, rfl⟩
  refine mo_L_next (ok_L_next 193 194 196 xa_193 xa_194 xa_196 _ N N (20 * t) wf (by omega) lr) ?_
  rintro r N ⟨rfl, rfl⟩
  exact ⟨1000 * (30 - t) + 500 + ((1 + k) - 0), by omega, t, 1 + k, 0, N, N, t5, ht, by omega, by omega, by omega, rfl, rfl, nI_add 1 k, rfl, rfl, wf, hh, wf, wb, lr, lq, fun _ _ => rfl, rfl, hs, hg⟩
theorem lw_9 {g : xG} (n : Nat) (v14 v15 v17 v18 v19 : Int32) (N : xM) (h : A_9 n v14 v15 v17 v18 v19 N) : vc_L_law_9 g v14 v15 v17 v18 v19 N (fun v14 N => ∃ k, k < n ∧ A_1 k v14 N) (fun v14 v15 v17 v18 N => ∃ k, k < n ∧ A_2 k v14 v15 v17 v18 N) (fun v14 v15 v17 N => ∃ k, k < n ∧ A_3 k v14 v15 v17 N) (fun v14 v15 v17 N => ∃ k, k < n ∧ A_4 k v14 v15 v17 N) (fun v14 v15 N => ∃ k, k < n ∧ A_5 k v14 v15 N) (fun v14 v15 N => ∃ k, k < n ∧ A_6 k v14 v15 N) (fun v14 v15 v17 v18 N => ∃ k, k < n ∧ A_7 k v14 v15 v17 v18 N) (fun v14 v15 N => ∃ k, k < n ∧ A_8 k v14 v15 N) (fun v14 v15 v17 v18 v19 N => ∃ k, k < n ∧ A_9 k v14 v15 v17 v18 v19 N) (fun v14 v15 N => ∃ k, k < n ∧ A_10 k v14 v15 N) := by
  obtain ⟨t, m, i, E, M0, t5, ht, hn1, hn6, hin, rfl, rfl, rfl, rfl, rfl, wf, ⟨hn, hp, hq⟩, wE, bE, lr, lq, rows, es, hs, hg⟩ := h
  have h20 := WF_w wE
  have h15 := WF_p wE
  unfold vc_L_law_9
  rw [x_le (by omega) (by omega)]
  refine ⟨q_sn m 0 M0 = (nI i, E), ⟨fun z => ?_, fun z => ⟨fun z2 => ?_, fun z2 => ?_⟩⟩, fun e => ?_⟩
  · have : i = m := by omega
    subst this
    rw [← es, Nat.sub_self]
    rfl
  · cases hq2 : q_next E with
    | none =>
      rw [← es]
      exact q_sn_stop hq2
    | some w =>
      have := q_next_lt hq2
      rw [hq2] at z2
      exact absurd z2 (x_neg (show w < 5000 by omega))
  · cases hq2 : q_next E with
    | none =>
      rw [hq2] at z2
      exact absurd (show q_on none < 0 by decide) z2
    | some w =>
      have hw := q_next_lt hq2
      obtain ⟨u, hu, eu⟩ := (q_ok_of wE hw).2.2
      have wE2 : WF (20 * t + (i + 1)) (q_sg E w) := by
        have := WF_sg wE w hw (by omega)
        rw [Nat.add_assoc] at this
        exact this
      refine mo_L_sing (ok_L_sing 193 xa_193 xa_194 xa_195 xa_196 xa_197 xa_198 E N (20 * t + i) w u wE lr hw eu hu) ?_
      intro N3 sg
      have lr2 : LR (q_sg E w) (N3 193) (N3 194) (N3 195) (N3 196) := LR_sg (a := 193) lr h20.1 h20.2 hw eu hu sg
      have lq2 : LQ (q_sg E w) (N3 193) (N3 197) (N3 198) := LQ_sg (a := 193) lr lq h15.1 h15.2 hw sg
      have o3 : ∀ a, a < 193 → N3 a = N a := fun a ha => sg.2.2.2.2.2.2 a (Or.inl ha)
      refine mo_L_next (ok_L_next 193 194 196 xa_193 xa_194 xa_196 _ (q_sg E w) N3 _ wE2 (by omega) lr2) ?_
      rintro r N3 ⟨rfl, rfl⟩
      refine ⟨1000 * (30 - t) + 500 + (m - (i + 1)), by omega, t, m, i + 1, q_sg E w, M0, t5, ht, hn1, hn6, by omega, rfl, rfl, rfl, nI_1 i, rfl, WF_rows wf (fun j hj => o3 j (by omega)), ⟨hn, hp, ?_⟩, wE2, WB_sg bE w, lr2, lq2, fun j hj => by rw [o3 j (by omega), rows j hj], ?_, ?_, ?_⟩
      · unfold q_hi at *
        rw [o3 181 (by decide)]
        exact hq
      · rw [← es, q_sn_go hq2 (by omega), show m - (i + 1) = m - i - 1 by omega]
      · unfold q_s
        rw [q_sg_10']
        exact hs
      · unfold q_g
        rw [q_sg_lo E w 6 0 (by omega)]
        exact hg
  · refine mo_X9_sing (ok_X9_sing (nI m) N (20 * t) hn hp wf (by omega) hq) ?_
    rintro r N2 ⟨c1, c2⟩
    obtain ⟨N1, kp, hr, hN⟩ := c2 (q_if1 ⟨(x_le (a := 1) (by omega) (by omega)).mpr hn1, (x_le (b := 20) (by omega) (by omega)).mpr (by omega)⟩)
    have cm : (nI m).toNatClampNeg = m := x_cl (by omega)
    have hr : r = (q_sn m 0 N1).1 := by
      rw [← cm]
      exact hr
    have hN : N2 = (q_sn m 0 N1).2 := by
      have : N2 = (q_sn (nI m).toNatClampNeg 0 N1).2 := hN
      rw [cm] at this
      exact this
    have lo := q_KP_lo hq.2.1 kp
    have hi := q_KP_hi hq.2.1 kp
    obtain ⟨s1, s2⟩ := q_sn_rows m 0 M0 N1 (fun j hj => by rw [lo j hj, rows j hj])
    have r2 : ∀ a, 20 ≤ a → N2 a = N1 a := fun a ha => by rw [hN, q_sn_ge m 0 N1 a ha]
    have r3 : ∀ a, 185 ≤ a → N2 a = N a := fun a ha => by rw [r2 a (by omega), hi a ha]
    have row2 : ∀ j, j < 20 → N2 j = E j := fun j hj => by rw [hN, s2 j hj, e]
    refine ⟨fun _ => ⟨1000 * (30 - t), by omega, t, ht, rfl, rfl, LI_mono (LI_mk (KP_hi hq.1 hq.2.1 kp) (r2 181 (by decide)) row2 wE bE ?_ ?_) (by omega), ?_, fun _ => ?_⟩, fun z => absurd (by rw [hr, s1, e]) z⟩
    · rw [r3 193 (by decide), r3 194 (by decide), r3 195 (by decide), r3 196 (by decide)]
      exact lr
    · rw [r3 193 (by decide), r3 197 (by decide), r3 198 (by decide)]
      exact lq
    · unfold q_s
      rw [row2 1 (by decide)]
      exact hs
    · unfold q_g
      rw [row2 6 (by decide)]
      exact hg
