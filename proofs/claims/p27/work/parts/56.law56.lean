/-! the law's acts -/
theorem lw_2 {g : xG} (n : Nat) (v14 v15 v17 v18 : Int32) (N : xM) (h : A_2 n v14 v15 v17 v18 N) : vc_L_law_2 g v14 v15 v17 v18 N (fun v14 N => ∃ k, k < n ∧ A_1 k v14 N) (fun v14 v15 v17 v18 N => ∃ k, k < n ∧ A_2 k v14 v15 v17 v18 N) (fun v14 v15 v17 N => ∃ k, k < n ∧ A_3 k v14 v15 v17 N) (fun v14 v15 v17 N => ∃ k, k < n ∧ A_4 k v14 v15 v17 N) (fun v14 v15 N => ∃ k, k < n ∧ A_5 k v14 v15 N) (fun v14 v15 N => ∃ k, k < n ∧ A_6 k v14 v15 N) (fun v14 v15 v17 v18 N => ∃ k, k < n ∧ A_7 k v14 v15 v17 v18 N) (fun v14 v15 N => ∃ k, k < n ∧ A_8 k v14 v15 N) (fun v14 v15 v17 v18 v19 N => ∃ k, k < n ∧ A_9 k v14 v15 v17 v18 v19 N) (fun v14 v15 N => ∃ k, k < n ∧ A_10 k v14 v15 N) := by
  obtain ⟨t, f, d, ht, t1, rfl, rfl, li, ts, tg, rfl, rfl, hf, hd⟩ := h
  obtain ⟨wf, wb, lr, lq, hn, hp, hq⟩ := id li
  have h12 := WF_s wf
  obtain ⟨⟨a0, -, -, a3, -, -, -⟩, -, -, -⟩ := id lr
  have v0 : vp_in (0 : Int32) 8 := l_v8 0 (by omega) rfl
  have v3 : vp_in (3 : Int32) 8 := l_v8 3 (by omega) rfl
  have er : q_esi (nI f) (nI (f + d)) N = if q_s N = 12 then -4 else 0 := by
    rw [q_esi, q_if1 ⟨⟨nI_pos' (by omega), (x_le (b := 60) (by omega) (by omega)).mpr (by omega)⟩, (x_le (by omega) (by omega)).mpr (by omega), (x_le (b := 60) (by omega) (by omega)).mpr (by omega)⟩]
  unfold vc_L_law_2
  rw [l_n0, l_n3]
  refine mo_X9_singer (ok_X9_singer _ _ N (20 * t) hn hp wf hq) ?_
  rintro r N2 ⟨c1, c2⟩
  have q12 : (nI (q_s N) = (12 : Int32)) ↔ q_s N = 12 := x_eq (b := 12) (by omega) (by omega)
  have l12 : ((12 : Int32) ≤ nI (q_s N)) ↔ 12 ≤ q_s N := x_le (a := 12) (by omega) (by omega)
  by_cases z : q_s N = 12
  · obtain ⟨hr, hN⟩ := c1 (by rw [er, if_pos z]; decide)
    rw [er, if_pos z] at hr
    rw [hN, a0, h12.2, q12, l12]
    refine ⟨v0, fun v => v = -4, ⟨fun w => absurd z w, fun _ => rfl⟩, ?_⟩
    rintro j rfl
    exact ⟨fun _ => ⟨v0, fun _ => ⟨1000 * (30 - t), by omega, t, ht, rfl, rfl, LI_mono li (by omega), by omega, fun w => tg (by omega)⟩, fun w => absurd (show 12 ≤ q_s N by omega) w⟩, fun w => absurd hr w⟩
  · obtain ⟨N1, kp, hr, hN⟩ := c2 (by rw [er, if_neg z])
    have hr : r = nI (q_s N1) := hr
    have hN : N2 = q_as N1 (q_s N1) (nI f) (nI (f + d)) := hN
    have lo := q_KP_lo hq.2.1 kp
    have hi := q_KP_hi hq.2.1 kp
    have es : q_s N1 = q_s N := by
      unfold q_s
      rw [lo 1 (by decide)]
    have r2 : ∀ a, 20 ≤ a → N2 a = N1 a := fun a ha => by
      rw [hN]
      exact q_as_o (by omega) (by omega) (by omega)
    have r3 : ∀ a, 185 ≤ a → N2 a = N a := fun a ha => by rw [r2 a (by omega), hi a ha]
    have b0 : N2 193 0 = nI (q_s N) := by rw [r3 193 (by decide), a0, h12.2]
    rw [b0, q12, l12]
    refine ⟨v0, fun v => v = nI (q_s N), ⟨fun _ => ⟨v0, rfl⟩, fun w => absurd w z⟩, ?_⟩
    rintro j rfl
    refine ⟨fun _ => ⟨v0, fun w => absurd w (by omega), fun _ => ?_⟩, fun w => absurd (by rw [hr, es]) w⟩
    have xo : ∀ k v, x_up N2 194 k v 193 0 = nI (q_s N) := fun k v => by
      rw [x_up_other (by decide)]
      exact b0
    rw [xo, l_41, l_40, x_cl (show 4 * q_s N + 1 < 5000 by omega), x_cl (show 4 * q_s N < 5000 by omega)]
    refine ⟨v0, x_vi (by omega) (by omega), v0, x_vi (by omega) (by omega), ?_⟩
    intro N3 h3
    refine ⟨v3, v0, v0, v3, ?_⟩
    intro N4 h4
    have b3 : N3 193 = N 193 := by rw [h3, x_up_other (by decide), x_up_other (by decide), r3 193 (by decide)]
    have o4 : ∀ a, a ≠ 193 → a ≠ 194 → N4 a = N2 a := fun a x1 x2 => by rw [h4, x_up_other x1, x_up_other x1, h3, x_up_other x2, x_up_other x2]
    have s4 : N4 194 = N3 194 := by rw [h4, x_up_other (by decide), x_up_other (by decide)]
    have lr1 : LR N1 (N 193) (N 194) (N 195) (N 196) := LR_rows lr lo
    have wb1 : WB N1 := WB_of wb (fun a k ha => by rw [lo a (by omega)])
    have lr2 : LR N2 (N4 193) (N4 194) (N4 195) (N4 196) := by
      rw [o4 195 (by decide) (by decide), o4 196 (by decide) (by decide), r3 195 (by decide), r3 196 (by decide), hN, es]
      refine LR_as lr1 (q_s N) _ _ ?_ ?_ (fun k k0 k3 => ?_) ?_ ?_ (fun k k0 k1 => ?_)
      · rw [h4, u_ne (by decide), u_at, b3, a0, h12.2, nI_1]
      · rw [h4, u_at, b3, a0, h12.2]
      · rw [h4, u_ne k3, u_ne k0, b3]
      · rw [s4, h3, u_ne (by omega), u_at]
      · rw [s4, h3, u_at]
      · rw [s4, h3, u_ne k1, u_ne k0, r3 194 (by decide)]
    have lq2 : LQ N2 (N4 193) (N4 197) (N4 198) := by
      rw [o4 197 (by decide) (by decide), o4 198 (by decide) (by decide), r3 197 (by decide), r3 198 (by decide)]
      refine LQ_of lq ?_ (fun a k x1 x2 => ?_)
      · rw [h4, u_ne (by decide), u_ne (by decide), b3]
      · rw [hN, q_as_o (by omega) (by omega) (by omega), lo a x2]
    have wf2 : WF (20 * t) N2 := by
      rw [hN]
      exact WF_as (WF_rows wf lo) _ _ (by omega)
    have wb2 : WB N2 := by
      rw [hN]
      exact WB_as wb1 _ f (f + d) (by omega) (by omega)
    have rows : ∀ j, j < 20 → N4 j = N2 j := fun j hj => o4 j (by omega) (by omega)
    refine ⟨1000 * (30 - t), by omega, t, ht, rfl, rfl, LI_mono (LI_mk (KP_hi hq.1 hq.2.1 kp) ?_ rows wf2 wb2 lr2 lq2) (by omega), ?_, fun w => ?_⟩
    · rw [o4 181 (by decide) (by decide), r2 181 (by decide)]
    · have e10 : N4 1 0 = nI (q_s N + 1) := by
        rw [rows 1 (by decide), hN, es]
        simp [q_as, x_up]
      have : q_s N4 = q_s N + 1 := by
        show (N4 1 0).toNatClampNeg = _
        rw [e10, x_cl (by omega)]
      omega
    · have eg : q_g N4 = q_g N := by
        unfold q_g
        rw [rows 6 (by decide), hN, q_as_o (by decide) (by decide) (by decide), lo 6 (by decide)]
      rw [eg]
      exact tg (by omega)
theorem lw_3 {g : xG} (n : Nat) (v14 v15 v17 : Int32) (N : xM) (h : A_3 n v14 v15 v17 N) : vc_L_law_3 g v14 v15 v17 N (fun v14 N => ∃ k, k < n ∧ A_1 k v14 N) (fun v14 v15 v17 v18 N => ∃ k, k < n ∧ A_2 k v14 v15 v17 v18 N) (fun v14 v15 v17 N => ∃ k, k < n ∧ A_3 k v14 v15 v17 N) (fun v14 v15 v17 N => ∃ k, k < n ∧ A_4 k v14 v15 v17 N) (fun v14 v15 N => ∃ k, k < n ∧ A_5 k v14 v15 N) (fun v14 v15 N => ∃ k, k < n ∧ A_6 k v14 v15 N) (fun v14 v15 v17 v18 N => ∃ k, k < n ∧ A_7 k v14 v15 v17 v18 N) (fun v14 v15 N => ∃ k, k < n ∧ A_8 k v14 v15 N) (fun v14 v15 v17 v18 v19 N => ∃ k, k < n ∧ A_9 k v14 v15 v17 v18 v19 N) (fun v14 v15 N => ∃ k, k < n ∧ A_10 k v14 v15 N) := by
  obtain ⟨t, f, ht, t0, rfl, rfl, li, ts, tg, rfl, hf⟩ := h
  obtain ⟨wf, wb, lr, lq, hn, hp, hq⟩ := id li
  have h16 := WF_g wf
  obtain ⟨⟨-, a1, -, -, -, -, -⟩, -, -, -⟩ := id lr
  have v1 : vp_in (1 : Int32) 8 := l_v8 1 (by omega) rfl
  unfold vc_L_law_3
  rw [l_n1]
  refine mo_L_low (ok_L_low _ 20 (by omega) (by omega) N) ?_
  rintro r N ⟨⟨d, hd, rfl⟩, rfl⟩
  refine mo_L_low (ok_L_low _ 9 (by omega) (by omega) N) ?_
  rintro r N ⟨⟨l, hl, rfl⟩, rfl⟩
  have el : (1 : Int32) + nI l = nI (1 + l) := nI_add 1 l
  have er : q_eso (nI f) (nI (f + d)) (nI (1 + l)) N = if q_g N = 16 then -4 else 0 := by
    rw [q_eso, q_if1 ⟨⟨⟨nI_pos' (by omega), (x_le (b := 60) (by omega) (by omega)).mpr (by omega)⟩, (x_le (by omega) (by omega)).mpr (by omega), (x_le (b := 60) (by omega) (by omega)).mpr (by omega)⟩, (x_le (a := 1) (by omega) (by omega)).mpr (by omega), (x_le (b := 9) (by omega) (by omega)).mpr (by omega)⟩]
  rw [el, nI_add]
  refine mo_X9_song (ok_X9_song _ _ _ N (20 * t) hn hp wf hq) ?_
  rintro r N2 ⟨c1, c2⟩
  have q16 : (nI (q_g N) = (16 : Int32)) ↔ q_g N = 16 := x_eq (b := 16) (by omega) (by omega)
  have l16 : ((16 : Int32) ≤ nI (q_g N)) ↔ 16 ≤ q_g N := x_le (a := 16) (by omega) (by omega)
  by_cases z : q_g N = 16
  · obtain ⟨hr, hN⟩ := c1 (by rw [er, if_pos z]; decide)
    rw [er, if_pos z] at hr
    rw [hN, a1, h16.2, q16, l16]
    refine ⟨v1, fun v => v = -4, ⟨fun w => absurd z w, fun _ => rfl⟩, ?_⟩
    rintro j rfl
    exact ⟨fun _ => ⟨v1, fun _ => ⟨1000 * (30 - t), by omega, t, ht, rfl, rfl, LI_mono li (by omega), ts, fun w => by omega⟩, fun w => absurd (show 16 ≤ q_g N by omega) w⟩, fun w => absurd hr w⟩
  · obtain ⟨N1, kp, hr, hN⟩ := c2 (by rw [er, if_neg z])
    have hr : r = nI (q_g N1) := hr
    have hN : N2 = q_ag N1 (q_g N1) (nI f) (nI (f + d)) (nI (1 + l)) := hN
    have lo := q_KP_lo hq.2.1 kp
    have hi := q_KP_hi hq.2.1 kp
    have es : q_g N1 = q_g N := by
      unfold q_g
      rw [lo 6 (by decide)]
    have r2 : ∀ a, 20 ≤ a → N2 a = N1 a := fun a ha => by
      rw [hN]
      exact q_ag_o (by omega) (by omega) (by omega) (by omega)
    have r3 : ∀ a, 185 ≤ a → N2 a = N a := fun a ha => by rw [r2 a (by omega), hi a ha]
    have b1 : N2 193 1 = nI (q_g N) := by rw [r3 193 (by decide), a1, h16.2]
    rw [b1, q16, l16]
    refine ⟨v1, fun v => v = nI (q_g N), ⟨fun _ => ⟨v1, rfl⟩, fun w => absurd w z⟩, ?_⟩
    rintro j rfl
    refine ⟨fun _ => ⟨v1, fun w => absurd w (by omega), fun _ => ?_⟩, fun w => absurd (by rw [hr, es]) w⟩
    have xo : ∀ k v, x_up N2 195 k v 193 1 = nI (q_g N) := fun k v => by
      rw [x_up_other (by decide)]
      exact b1
    rw [xo, l_41, l_40, x_cl (show 4 * q_g N + 1 < 5000 by omega), x_cl (show 4 * q_g N < 5000 by omega)]
    refine ⟨v1, x_vi (by omega) (by omega), v1, x_vi (by omega) (by omega), ?_⟩
    intro N3 h3
    have b3 : N3 193 = N 193 := by rw [h3, x_up_other (by decide), x_up_other (by decide), r3 193 (by decide)]
    rw [b3, a1, h16.2, l_42, x_cl (show 4 * q_g N + 2 < 5000 by omega)]
    refine ⟨v1, v1, x_vi (by omega) (by omega), ?_⟩
    intro N4 h4
    have o4 : ∀ a, a ≠ 193 → a ≠ 195 → N4 a = N2 a := fun a x1 x2 => by rw [h4, x_up_other x2, x_up_other x1, h3, x_up_other x2, x_up_other x2]
    have k193 : N4 193 = x_up N3 193 1 (nI (q_g N) + 1) 193 := by rw [h4, x_up_other (by decide)]
    have lr1 : LR N1 (N 193) (N 194) (N 195) (N 196) := LR_rows lr lo
    have wb1 : WB N1 := WB_of wb (fun a k ha => by rw [lo a (by omega)])
    have lr2 : LR N2 (N4 193) (N4 194) (N4 195) (N4 196) := by
      rw [o4 194 (by decide) (by decide), o4 196 (by decide) (by decide), r3 194 (by decide), r3 196 (by decide), hN, es]
      refine LR_ag lr1 (q_g N) _ _ _ ?_ (fun k k1 => ?_) ?_ ?_ ?_ (fun k k0 k1 k2 => ?_)
      · rw [k193, u_at, nI_1]
      · rw [k193, u_ne k1, b3]
      · rw [h4, u_ne (by omega), x_up_other (by decide), h3, u_ne (by omega), u_at]
      · rw [h4, u_ne (by omega), x_up_other (by decide), h3, u_at]
      · rw [h4, u_at]
      · rw [h4, u_ne k2, x_up_other (by decide), h3, u_ne k1, u_ne k0, r3 195 (by decide)]
    have lq2 : LQ N2 (N4 193) (N4 197) (N4 198) := by
      rw [o4 197 (by decide) (by decide), o4 198 (by decide) (by decide), r3 197 (by decide), r3 198 (by decide)]
      refine LQ_of lq ?_ (fun a k x1 x2 => ?_)
      · rw [k193, u_ne (by decide), b3]
      · rw [hN, q_ag_o (by omega) (by omega) (by omega) (by omega), lo a x2]
    have wf2 : WF (20 * t) N2 := by
      rw [hN]
      exact WF_ag (WF_rows wf lo) _ _ _ (by omega)
    have wb2 : WB N2 := by
      rw [hN]
      exact WB_ag wb1 _ f (f + d) (1 + l) (by omega) (by omega) (by omega)
    have rows : ∀ j, j < 20 → N4 j = N2 j := fun j hj => o4 j (by omega) (by omega)
    refine ⟨1000 * (30 - t), by omega, t, ht, rfl, rfl, LI_mono (LI_mk (KP_hi hq.1 hq.2.1 kp) ?_ rows wf2 wb2 lr2 lq2) (by omega), ?_, fun _ => ?_⟩
    · rw [o4 181 (by decide) (by decide), r2 181 (by decide)]
    · have eg : q_s N4 = q_s N := by
        unfold q_s
        rw [rows 1 (by decide), hN, q_ag_o (by decide) (by decide) (by decide) (by decide), lo 1 (by decide)]
      rw [eg]
      exact ts
    · have e10 : N4 6 0 = nI (q_g N + 1) := by
        rw [rows 6 (by decide), hN, es]
        simp [q_ag, x_up]
      have : q_g N4 = q_g N + 1 := by
        show (N4 6 0).toNatClampNeg = _
        rw [e10, x_cl (by omega)]
      omega
