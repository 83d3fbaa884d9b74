/-! the law's acts -/
theorem lw_5 {g : xG} (n : Nat) (v14 v15 : Int32) (N : xM) (h : A_5 n v14 v15 N) : vc_L_law_5 g v14 v15 N (fun v14 N => ∃ k, k < n ∧ A_1 k v14 N) (fun v14 v15 v17 v18 N => ∃ k, k < n ∧ A_2 k v14 v15 v17 v18 N) (fun v14 v15 v17 N => ∃ k, k < n ∧ A_3 k v14 v15 v17 N) (fun v14 v15 v17 N => ∃ k, k < n ∧ A_4 k v14 v15 v17 N) (fun v14 v15 N => ∃ k, k < n ∧ A_5 k v14 v15 N) (fun v14 v15 N => ∃ k, k < n ∧ A_6 k v14 v15 N) (fun v14 v15 v17 v18 N => ∃ k, k < n ∧ A_7 k v14 v15 v17 v18 N) (fun v14 v15 N => ∃ k, k < n ∧ A_8 k v14 v15 N) (fun v14 v15 v17 v18 v19 N => ∃ k, k < n ∧ A_9 k v14 v15 v17 v18 v19 N) (fun v14 v15 N => ∃ k, k < n ∧ A_10 k v14 v15 N) := by
  obtain ⟨t, t5, ht, rfl, rfl, li, hs, hg⟩ := h
  obtain ⟨wf, wb, lr, lq, hn, hp, hq⟩ := id li
  have h12 := WF_s wf
  obtain ⟨⟨a0, -, -, a3, -, -, -⟩, -, -, -⟩ := id lr
  have v0 : vp_in (0 : Int32) 8 := l_v8 0 (by omega) rfl
  have v3 : vp_in (3 : Int32) 8 := l_v8 3 (by omega) rfl
  have b0 : N 193 0 = nI (q_s N) := by rw [a0, h12.2]
  unfold vc_L_law_5
  rw [l_n0, l_n3, b0]
  refine ⟨v0, ?_⟩
  refine mo_L_low (ok_L_low _ (q_s N) hs (by omega) N) ?_
  rintro r N ⟨⟨s, hs2, rfl⟩, rfl⟩
  refine mo_L_low (ok_L_low _ 2 (by omega) (by omega) N) ?_
  rintro r N ⟨⟨d, hd, rfl⟩, rfl⟩
  refine ⟨fun v => ∃ hl : Bool, v = q_b01 hl, ⟨fun _ => ⟨false, rfl⟩, fun _ => ⟨true, rfl⟩⟩, ?_⟩
  rintro j22 ⟨hl, rfl⟩
  have xb := x_bit (x := N 1 1) (i := s) (by omega)
  rw [a3, xb]
  refine ⟨v3, fun v => v = q_b01 (bt (N 1 1) s), ⟨fun z => ?_, fun z => ?_⟩, ?_⟩
  · cases e : bt (N 1 1) s with
    | false => rfl
    | true => exact absurd e z
  · rw [z]
    rfl
  rintro j24 rfl
  have e01 : (q_b01 (bt (N 1 1) s) = q_b01 hl) ↔ hl = bt (N 1 1) s := by
    generalize bt (N 1 1) s = b
    cases hl <;> cases b <;> decide
  rw [e01]
  refine ⟨fun N' => (hl = bt (N 1 1) s → N' = x_up N 193 3 (q_tl N s hl)) ∧ (¬ hl = bt (N 1 1) s → N' = N), ⟨fun z => ⟨fun w => absurd w z, fun _ => rfl⟩, fun z => ⟨v3, v3, fun _ => ?_, fun w => absurd z w⟩⟩, ?_⟩
  · rw [l_xor (by omega) z]
  rintro N3 ⟨d1, d2⟩
  have g3 : ∀ a, a ≠ 193 → N3 a = N a := fun a ha => by
    by_cases z : hl = bt (N 1 1) s
    · rw [d1 z, x_up_other ha]
    · rw [d2 z]
  have wf3 : WF (20 * t) N3 := WF_rows wf (fun j hj => g3 j (by omega))
  have hq3 : q_hi (20 * t) N3 hn hp := by
    unfold q_hi at *
    rw [g3 181 (by decide)]
    exact hq
  refine mo_X9_leave (ok_X9_leave (nI s) hl N3 (20 * t) hn hp wf3 hq3) ?_
  rintro r N4 ⟨c1, c2⟩
  have es3 : q_s N3 = q_s N := by
    unfold q_s
    rw [g3 1 (by decide)]
  have er : q_ele (nI s) hl N3 = if hl = bt (N 1 1) s then 0 else -5 := by
    rw [q_ele, es3, q_if1 (x_vi hs2 (by omega)), x_cl (by omega), g3 1 (by decide)]
  by_cases z : hl = bt (N 1 1) s
  · obtain ⟨N1, kp, hr, hN⟩ := c2 (by rw [er, if_pos z])
    have hr : r = nI (q_cn (bt (q_Fl (nI s) hl N1 1 1)) 12) := hr
    have hN : N4 = q_Fl (nI s) hl N1 := hN
    have lo := q_KP_lo hq.2.1 kp
    have hi := q_KP_hi hq.2.1 kp
    have e3 := d1 z
    have l1 : ∀ j, j < 20 → N1 j = N j := fun j hj => by rw [lo j hj, g3 j (by omega)]
    have hF : q_Fl (nI s) hl N1 = x_up N1 1 1 (q_tl N s hl) := by
      unfold q_Fl q_tl
      rw [x_cl (by omega), l1 1 (by decide)]
    have r2 : ∀ a, a ≠ 1 → N4 a = N1 a := fun a ha => by rw [hN, hF, x_up_other ha]
    have b193 : N4 193 = x_up N 193 3 (q_tl N s hl) 193 := by rw [r2 193 (by decide), hi 193 (by decide), e3]
    have b3 : N4 193 3 = q_tl N s hl := by rw [b193, u_at]
    have r3 : ∀ a, 185 ≤ a → a ≠ 193 → N4 a = N a := fun a ha hb => by rw [r2 a (by omega), hi a ha, g3 a hb]
    have hbit : ∀ i, 12 ≤ i → bt (q_tl N s hl) i = false := fun i hi2 => by
      by_cases w : i < 32
      · rw [q_tl_bt (by omega) w, if_neg (by omega)]
        cases e : bt (N 1 1) i with
        | false => rfl
        | true =>
          have := wf.2.2.2.2.1 i e
          omega
      · exact b_big (by omega)
    refine ⟨fun v N' => N' = N4 ∧ v = r, ⟨fun w => absurd z w, fun _ => ⟨v3, ?_⟩⟩, ?_⟩
    · rw [b3]
      obtain ⟨x, hx, ex, ec⟩ := l_bits hbit
      rw [ex]
      refine mo_L_bits (ok_L_bits x hx N4) ?_
      rintro r' N' ⟨rfl, rfl⟩
      refine ⟨rfl, ?_⟩
      rw [hr, hF, u_at, ec]
    · rintro j30 N5 ⟨h5, rfl⟩
      subst h5
      have lr2 : LR (x_up N1 1 1 (q_tl N s hl)) (N5 193) (N5 194) (N5 195) (N5 196) := by
        rw [r3 194 (by decide) (by decide), r3 195 (by decide) (by decide), r3 196 (by decide) (by decide)]
        exact LR_th (LR_rows lr l1) _ b3 (fun k hk => by rw [b193, u_ne hk])
      have lq2 : LQ (x_up N1 1 1 (q_tl N s hl)) (N5 193) (N5 197) (N5 198) := by
        rw [r3 197 (by decide) (by decide), r3 198 (by decide) (by decide)]
        refine LQ_of lq ?_ (fun a k x1 x2 => ?_)
        · rw [b193, u_ne (by decide)]
        · rw [x_up_other (by omega), l1 a x2]
      have wf2 : WF (20 * t) (x_up N1 1 1 (q_tl N s hl)) := by
        have := q_Fl_WF (hl := hl) (WF_rows wf l1) (s := s) (by unfold q_s; rw [l1 1 (by decide)]; exact hs2)
        rw [hF] at this
        exact this
      have wb2 : WB (x_up N1 1 1 (q_tl N s hl)) := WB_th (WB_of wb (fun a k ha => by rw [l1 a (by omega)])) _
      have rows : ∀ j, j < 20 → N5 j = x_up N1 1 1 (q_tl N s hl) j := fun j _ => by rw [hN, hF]
      refine ⟨fun _ => ⟨1000 * (30 - t), by omega, t, ht, rfl, rfl, LI_mono (LI_mk (KP_hi hq.1 hq.2.1 kp) (r2 181 (by decide)) rows wf2 wb2 lr2 lq2) (by omega), ?_, fun _ => ?_⟩, fun w => absurd rfl w⟩
      · have : q_s N5 = q_s N := by
          unfold q_s
          rw [rows 1 (by decide), u_ne (by decide), l1 1 (by decide)]
        rw [this]
        exact hs
      · have : q_g N5 = q_g N := by
          unfold q_g
          rw [r2 6 (by decide), l1 6 (by decide)]
        rw [this]
        exact hg
  · obtain ⟨hr, hN⟩ := c1 (by rw [er, if_neg z]; decide)
    rw [er, if_neg z] at hr
    have hN2 : N4 = N := hN.trans (d2 z)
    refine ⟨fun v N' => N' = N ∧ v = -5, ⟨fun _ => ⟨hN2, rfl⟩, fun w => absurd w z⟩, ?_⟩
    rintro j30 N5 ⟨h5, rfl⟩
    rw [h5]
    exact ⟨fun _ => ⟨1000 * (30 - t), by omega, t, ht, rfl, rfl, LI_mono li (by omega), hs, fun _ => hg⟩, fun w => absurd hr w⟩
