/-! the law's acts -/
theorem lw_6 {g : xG} (n : Nat) (v14 v15 : Int32) (N : xM) (h : A_6 n v14 v15 N) : vc_L_law_6 g v14 v15 N (fun v14 N => ∃ k, k < n ∧ A_1 k v14 N) (fun v14 v15 v17 v18 N => ∃ k, k < n ∧ A_2 k v14 v15 v17 v18 N) (fun v14 v15 v17 N => ∃ k, k < n ∧ A_3 k v14 v15 v17 N) (fun v14 v15 v17 N => ∃ k, k < n ∧ A_4 k v14 v15 v17 N) (fun v14 v15 N => ∃ k, k < n ∧ A_5 k v14 v15 N) (fun v14 v15 N => ∃ k, k < n ∧ A_6 k v14 v15 N) (fun v14 v15 v17 v18 N => ∃ k, k < n ∧ A_7 k v14 v15 v17 v18 N) (fun v14 v15 N => ∃ k, k < n ∧ A_8 k v14 v15 N) (fun v14 v15 v17 v18 v19 N => ∃ k, k < n ∧ A_9 k v14 v15 v17 v18 v19 N) (fun v14 v15 N => ∃ k, k < n ∧ A_10 k v14 v15 N) := by
  obtain ⟨t, t5, ht, rfl, rfl, li, hs, hg, hw⟩ := h
  obtain ⟨wf, wb, lr, lq, hh⟩ := id li
  have h20 := WF_w wf
  have b2 : N 193 2 = nI (q_w N) := by rw [lr.1.2.2.1, h20.2]
  unfold vc_L_law_6
  rw [l_n2, b2]
  refine ⟨l_v8 2 (by omega) rfl, ?_⟩
  refine mo_L_low (ok_L_low _ (q_w N) hw (by omega) N) ?_
  rintro r N ⟨⟨w, hw2, rfl⟩, rfl⟩
  exact ⟨1000 * (30 - t) + 500 + (20 - w), by omega, t, w, w, N 196, t5, ht, rfl, rfl, rfl, rfl, Nat.le_refl _, hw2, wf, wb, lr, SGd_0 _ _, lq, hh, hs, hg⟩
theorem lw_7 {g : xG} (n : Nat) (v14 v15 v17 v18 : Int32) (N : xM) (h : A_7 n v14 v15 v17 v18 N) : vc_L_law_7 g v14 v15 v17 v18 N (fun v14 N => ∃ k, k < n ∧ A_1 k v14 N) (fun v14 v15 v17 v18 N => ∃ k, k < n ∧ A_2 k v14 v15 v17 v18 N) (fun v14 v15 v17 N => ∃ k, k < n ∧ A_3 k v14 v15 v17 N) (fun v14 v15 v17 N => ∃ k, k < n ∧ A_4 k v14 v15 v17 N) (fun v14 v15 N => ∃ k, k < n ∧ A_5 k v14 v15 N) (fun v14 v15 N => ∃ k, k < n ∧ A_6 k v14 v15 N) (fun v14 v15 v17 v18 N => ∃ k, k < n ∧ A_7 k v14 v15 v17 v18 N) (fun v14 v15 N => ∃ k, k < n ∧ A_8 k v14 v15 N) (fun v14 v15 v17 v18 v19 N => ∃ k, k < n ∧ A_9 k v14 v15 v17 v18 v19 N) (fun v14 v15 N => ∃ k, k < n ∧ A_10 k v14 v15 N) := by
  obtain ⟨t, w, i, W, t5, ht, rfl, rfl, rfl, rfl, hwi, hi, wf, wb, lr, sd, lq, ⟨hn, hp, hq⟩, hs, hg⟩ := h
  have h20 := WF_w wf
  have b2 : N 193 2 = nI (q_w N) := by rw [lr.1.2.2.1, h20.2]
  have v2 : vp_in (2 : Int32) 8 := l_v8 2 (by omega) rfl
  unfold vc_L_law_7
  rw [l_n2, b2, nI_1, x_le (by omega) (by omega), x_cl (show i < 5000 by omega), x_cl (show i + 1 < 5000 by omega)]
  refine ⟨v2, fun q => ?_, fun q => ?_⟩
  · have : i = q_w N - 1 := by omega
    subst this
    refine mo_X9_takeBack (ok_X9_takeBack (nI w) N (20 * t) hn hp wf hq) ?_
    rintro r N2 ⟨c1, c2⟩
    have hw : w < q_w N := by omega
    obtain ⟨N1, kp, hr, hN⟩ := c2 (q_if1 (x_vi hw (by omega)))
    have cw : (nI w).toNatClampNeg = w := x_cl (by omega)
    have hr : r = q_rm N1 w 11 0 := by
      rw [← cw]
      exact hr
    have hN : N2 = q_rm N1 w := by
      have : N2 = q_rm N1 (nI w).toNatClampNeg := hN
      rw [cw] at this
      exact this
    have lo := q_KP_lo hq.2.1 kp
    have hi2 := q_KP_hi hq.2.1 kp
    have r2 : ∀ a, 20 ≤ a → N2 a = N1 a := fun a ha => by
      rw [hN]
      funext k
      exact q_rm_o (by omega)
    have r3 : ∀ a, 185 ≤ a → N2 a = N a := fun a ha => by rw [r2 a (by omega), hi2 a ha]
    have ew : q_w N1 = q_w N := q_w_rows lo
    have e11 : N1 11 0 = nI (q_w N) := by rw [lo 11 (by decide), h20.2]
    have b22 : N2 193 2 = nI (q_w N) := by rw [r3 193 (by decide), b2]
    have hr2 : r = nI (q_w N) - 1 := by
      rw [hr, ← e11]
      rfl
    rw [b22]
    refine ⟨v2, v2, fun _ => ?_, fun z => absurd hr2 z⟩
    have o3 : ∀ a, a ≠ 193 → x_up N2 193 2 (nI (q_w N) - 1) a = N2 a := fun a ha => x_up_other ha
    have lr2 : LR (q_rm N1 w) (x_up N2 193 2 (nI (q_w N) - 1) 193) (x_up N2 193 2 (nI (q_w N) - 1) 194) (x_up N2 193 2 (nI (q_w N) - 1) 195) (x_up N2 193 2 (nI (q_w N) - 1) 196) := by
      rw [o3 194 (by decide), o3 195 (by decide), o3 196 (by decide), r3 194 (by decide), r3 195 (by decide), r3 196 (by decide)]
      refine LR_rm (LR_rows lr lo) (by omega) (by rw [e11, ew]) w (by omega) ?_ (fun k hk => ?_) (by rw [ew]; exact sd)
      · rw [u_at, b2]
      · rw [u_ne hk, r3 193 (by decide)]
    have lq2 : LQ (q_rm N1 w) (x_up N2 193 2 (nI (q_w N) - 1) 193) (x_up N2 193 2 (nI (q_w N) - 1) 197) (x_up N2 193 2 (nI (q_w N) - 1) 198) := by
      rw [o3 197 (by decide), o3 198 (by decide), r3 197 (by decide), r3 198 (by decide)]
      refine LQ_of lq ?_ (fun a k x1 x2 => ?_)
      · rw [u_ne (by decide), r3 193 (by decide)]
      · rw [q_rm_o (by omega), lo a x2]
    have wf2 : WF (20 * t) (q_rm N1 w) := WF_rm (WF_rows wf lo) w (by omega)
    have wb2 : WB (q_rm N1 w) := WB_rm (WB_of wb (fun a k ha => by rw [lo a (by omega)])) w
    have rows : ∀ j, j < 20 → x_up N2 193 2 (nI (q_w N) - 1) j = q_rm N1 w j := fun j hj => by rw [o3 j (by omega), hN]
    refine ⟨1000 * (30 - t), by omega, t, ht, rfl, rfl, LI_mono (LI_mk (KP_hi hq.1 hq.2.1 kp) (by rw [o3 181 (by decide), r2 181 (by decide)]) rows wf2 wb2 lr2 lq2) (by omega), ?_, fun _ => ?_⟩
    · have : q_s (x_up N2 193 2 (nI (q_w N) - 1)) = q_s N := by
        unfold q_s
        rw [rows 1 (by decide), q_rm_o (by omega), lo 1 (by decide)]
      rw [this]
      exact hs
    · have : q_g (x_up N2 193 2 (nI (q_w N) - 1)) = q_g N := by
        unfold q_g
        rw [rows 6 (by decide), q_rm_o (by omega), lo 6 (by decide)]
      rw [this]
      exact hg
  · have o3 : ∀ a, a ≠ 196 → x_up N 196 i (N 196 (i + 1)) a = N a := fun a ha => x_up_other ha
    have rows : ∀ j, j < 20 → x_up N 196 i (N 196 (i + 1)) j = N j := fun j hj => o3 j (by omega)
    have ew : q_w (x_up N 196 i (N 196 (i + 1))) = q_w N := q_w_rows rows
    refine ⟨x_vi (by omega) (by omega), x_vi (by omega) (by omega), 1000 * (30 - t) + 500 + (20 - (i + 1)), by omega, t, w, i + 1, W, t5, ht, rfl, rfl, rfl, rfl, by omega, by omega, WF_rows wf rows, WB_of wb (fun a k ha => by rw [rows a (by omega)]), ?_, SGd_s hwi sd u_at (fun k hk => u_ne hk), ?_, ⟨hn, hp, ?_⟩, ?_, ?_⟩
    · rw [o3 193 (by decide), o3 194 (by decide), o3 195 (by decide)]
      exact LR_rows lr rows
    · rw [o3 193 (by decide), o3 197 (by decide), o3 198 (by decide)]
      exact LQ_rows lq rows
    · unfold q_hi at *
      rw [o3 181 (by decide)]
      exact hq
    · have : q_s (x_up N 196 i (N 196 (i + 1))) = q_s N := by
        unfold q_s
        rw [rows 1 (by decide)]
      rw [this]
      exact hs
    · have : q_g (x_up N 196 i (N 196 (i + 1))) = q_g N := by
        unfold q_g
        rw [rows 6 (by decide)]
      rw [this]
      exact hg
