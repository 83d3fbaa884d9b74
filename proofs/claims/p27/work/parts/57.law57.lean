/-! the law's acts -/
theorem lw_4 {g : xG} (n : Nat) (v14 v15 v17 : Int32) (N : xM) (h : A_4 n v14 v15 v17 N) : vc_L_law_4 g v14 v15 v17 N (fun v14 N => ∃ k, k < n ∧ A_1 k v14 N) (fun v14 v15 v17 v18 N => ∃ k, k < n ∧ A_2 k v14 v15 v17 v18 N) (fun v14 v15 v17 N => ∃ k, k < n ∧ A_3 k v14 v15 v17 N) (fun v14 v15 v17 N => ∃ k, k < n ∧ A_4 k v14 v15 v17 N) (fun v14 v15 N => ∃ k, k < n ∧ A_5 k v14 v15 N) (fun v14 v15 N => ∃ k, k < n ∧ A_6 k v14 v15 N) (fun v14 v15 v17 v18 N => ∃ k, k < n ∧ A_7 k v14 v15 v17 v18 N) (fun v14 v15 N => ∃ k, k < n ∧ A_8 k v14 v15 N) (fun v14 v15 v17 v18 v19 N => ∃ k, k < n ∧ A_9 k v14 v15 v17 v18 v19 N) (fun v14 v15 N => ∃ k, k < n ∧ A_10 k v14 v15 N) := by
  obtain ⟨t, i, t5, ht, hi3, rfl, rfl, rfl, li, hs, hg⟩ := h
  obtain ⟨wf, wb, lr, lq, hn, hp, hq⟩ := id li
  have h12 := WF_s wf
  have h16 := WF_g wf
  have h20 := WF_w wf
  obtain ⟨⟨a0, a1, a2, -, -, -, -⟩, -, -, -⟩ := id lr
  have v0 : vp_in (0 : Int32) 8 := l_v8 0 (by omega) rfl
  have v1 : vp_in (1 : Int32) 8 := l_v8 1 (by omega) rfl
  have v2 : vp_in (2 : Int32) 8 := l_v8 2 (by omega) rfl
  have l3 : ((3 : Int32) ≤ nI i) ↔ 3 ≤ i := x_le (a := 3) (by omega) (by omega)
  have b0 : N 193 0 = nI (q_s N) := by rw [a0, h12.2]
  have b1 : N 193 1 = nI (q_g N) := by rw [a1, h16.2]
  have b2 : N 193 2 = nI (q_w N) := by rw [a2, h20.2]
  unfold vc_L_law_4
  rw [l3, l_n0, l_n1, l_n2, b0]
  refine ⟨fun z => ⟨1000 * (30 - t), by omega, t, ht, rfl, rfl, LI_mono li (by omega), hs, fun _ => hg⟩, fun z => ⟨v0, ?_⟩⟩
  refine mo_L_low (ok_L_low _ (q_s N) hs (by omega) N) ?_
  rintro r N ⟨⟨a, ha, rfl⟩, rfl⟩
  refine mo_L_low (ok_L_low _ 2 (by omega) (by omega) N) ?_
  rintro r N ⟨⟨d, hd, rfl⟩, rfl⟩
  refine ⟨fun v N' => N' = N ∧ ∃ o : Option Nat, (∀ i, o = some i → i < q_s N) ∧ v = l_on o, ⟨fun _ => ⟨rfl, none, (fun _ z => by cases z), rfl⟩, fun _ => ⟨v0, ?_⟩⟩, ?_⟩
  · rw [b0]
    refine mo_L_low (ok_L_low _ (q_s N) hs (by omega) N) ?_
    rintro r N ⟨⟨b, hb, rfl⟩, rfl⟩
    exact ⟨rfl, some b, (fun i z => by cases z; exact hb), rfl⟩
  rintro j39 N ⟨hN, o, ho, rfl⟩
  subst hN
  rw [b1]
  refine ⟨v1, ?_⟩
  refine mo_L_low (ok_L_low _ (q_g N) hg (by omega) N) ?_
  rintro r N ⟨⟨u, hu, rfl⟩, rfl⟩
  have kk := ok_L_key (g := g) a o u (by omega) (fun i hi => by have := ho i hi; omega) (by omega) N N (LR_LT lr) wb
  have ab : (nI a = l_on o) ↔ o = some a := by
    cases o with
    | none => exact ⟨fun w => absurd (show nI a < 0 by rw [w]; decide) (x_neg (by omega)), fun w => by cases w⟩
    | some b =>
      have := ho b rfl
      have e : (nI a = nI b) ↔ a = b := x_eq (by omega) (by omega)
      exact ⟨fun w => by rw [e.mp w], fun w => by cases w; rfl⟩
  have aq : (nI a = q_on o) ↔ o = some a := by
    cases o with
    | none => exact ⟨fun w => absurd w (x_nm6 (by omega)), fun w => by cases w⟩
    | some b => exact ab
  have jo1 : 0 ≤ l_on o → l_on o = q_on o := by
    cases o with
    | none => exact fun w => absurd w (by decide)
    | some b => exact fun _ => rfl
  have jo2 : ¬ (0 ≤ l_on o) → (-6 : Int32) = q_on o := by
    cases o with
    | none => exact fun _ => rfl
    | some b =>
      have := ho b rfl
      exact fun w => absurd (nI_pos' (by omega)) w
  have oin : q_on o = -6 ∨ vp_in (q_on o) (q_s N) := by
    cases o with
    | none => exact Or.inl rfl
    | some b => exact Or.inr (x_vi (ho b rfl) (by omega))
  have ov : q_ov (q_on o) = o := q_ov_on (fun i hi => by have := ho i hi; omega)
  have en : q_en N (nI a) (q_on o) (nI u) = if o = some a then -2 else 0 := by
    rw [q_en, q_if1 ⟨x_vi ha (by omega), oin, x_vi hu (by omega)⟩]
    by_cases w : o = some a
    · rw [if_pos w, if_pos (aq.mpr w)]
    · rw [if_neg w, if_neg (fun x => w (aq.mp x))]
  have rk : q_Rke N (nI a) (q_on o) (nI u) = if o = some a then -2 else q_kt N a o u := by
    rw [q_Rke, en, ov, x_cl (by omega), x_cl (by omega)]
    by_cases w : o = some a
    · rw [if_pos w, q_if0 (by decide), if_pos w]
    · rw [if_neg w, q_if1 rfl, if_neg w]
  have ew : q_ewi (nI a) (q_on o) (nI u) N = if o = some a then -2 else if q_w N = 20 then -4 else if q_kt N a o u = -6 then -5 else 0 := by
    rw [q_ewi, q_ew, en, ov, x_cl (show a < 5000 by omega), x_cl (show u < 5000 by omega)]
    by_cases w : o = some a
    · rw [if_pos w, q_if0 (by decide), if_pos w]
    · rw [if_neg w, q_if1 rfl, if_neg w]
      by_cases w2 : q_w N = 20
      · rw [q_if0 (by omega), if_pos w2]
      · rw [q_if1 (by omega), if_neg w2]
        by_cases w3 : q_kt N a o u = -6
        · rw [q_if1 w3, if_pos w3]
        · rw [q_if0 w3, if_neg w3]
  have q20 : (nI (q_w N) = (20 : Int32)) ↔ q_w N = 20 := x_eq (b := 20) (by omega) (by omega)
  obtain ⟨W, hW⟩ : ∃ W : Int32, W = (if o = some a then -2 else if q_w N = 20 then -4 else if q_kt N a o u = -6 then -5 else nI (q_w N)) := ⟨_, rfl⟩
  rw [ab, b2, q20]
  refine ⟨fun v N' => N' = N ∧ v = W, ⟨fun z1 => ⟨v2, fun z2 => ?_, fun z2 => ⟨rfl, ?_⟩⟩, fun z1 => ⟨rfl, ?_⟩⟩, ?_⟩
  · refine mo_L_key kk ?_
    rintro r N ⟨rfl, rfl⟩
    rw [b2]
    have ng := l_kt_neg (E := N) (a := a) (u := u) (o := o)
    refine ⟨fun z3 => ⟨v2, rfl, ?_⟩, fun z3 => ⟨rfl, ?_⟩⟩
    · rw [hW, if_neg z1, if_neg z2, if_neg (fun w => Int32.not_lt.mpr z3 (ng.mpr w))]
    · rw [hW, if_neg z1, if_neg z2, if_pos (ng.mp (Int32.not_le.mp z3))]
  · rw [hW, if_neg z1, if_pos z2]
  · rw [hW, if_pos z1]
  rintro j44 N ⟨hN, rfl⟩
  subst hN
  refine ⟨fun v => v = q_on o, ⟨jo1, jo2⟩, ?_⟩
  rintro j47 rfl
  refine mo_X9_key (ok_X9_key _ _ _ N (20 * t) wf) ?_
  rintro r N ⟨rfl, rfl⟩
  refine ⟨fun v N' => N' = N ∧ v = q_Rke N (nI a) (q_on o) (nI u), ⟨fun z1 => ?_, fun z1 => ⟨rfl, by rw [rk, if_pos z1]⟩⟩, ?_⟩
  · refine mo_L_key kk ?_
    rintro r N ⟨rfl, rfl⟩
    exact ⟨rfl, by rw [rk, if_neg z1]⟩
  rintro j51 N ⟨hN, rfl⟩
  subst hN
  refine ⟨fun w => absurd rfl w, fun _ => ⟨fun v => v = q_on o, ⟨jo1, jo2⟩, ?_⟩⟩
  rintro j54 rfl
  refine mo_X9_wish (ok_X9_wish _ _ _ N (20 * t) hn hp wf hq) ?_
  rintro r N2 ⟨c1, c2⟩
  by_cases z0 : q_ewi (nI a) (q_on o) (nI u) N = 0
  · obtain ⟨N1, kp, hr, hN⟩ := c2 z0
    have hr : r = nI (q_w N1) := hr
    have hN : N2 = q_aw N1 (q_w N1) (nI a) (q_on o) (nI u) := hN
    have lo := q_KP_lo hq.2.1 kp
    have hi := q_KP_hi hq.2.1 kp
    have es : q_w N1 = q_w N := q_w_rows lo
    have no1 : ¬ o = some a := fun w => by rw [ew, if_pos w] at z0; exact absurd z0 (by decide)
    have no2 : ¬ q_w N = 20 := fun w => by rw [ew, if_neg no1, if_pos w] at z0; exact absurd z0 (by decide)
    have no3 : ¬ q_kt N a o u = -6 := fun w => by rw [ew, if_neg no1, if_neg no2, if_pos w] at z0; exact absurd z0 (by decide)
    have hW2 : j44 = nI (q_w N) := by rw [hW, if_neg no1, if_neg no2, if_neg no3]
    have r2 : ∀ a, 20 ≤ a → N2 a = N1 a := fun a ha => by
      rw [hN]
      exact q_aw_o (by omega) (by omega) (by omega) (by omega)
    have r3 : ∀ a, 185 ≤ a → N2 a = N a := fun a ha => by rw [r2 a (by omega), hi a ha]
    have b22 : N2 193 2 = nI (q_w N) := by rw [r3 193 (by decide), b2]
    have w20 : q_w N < 20 := by omega
    rw [hW2, b22]
    refine ⟨fun _ => ⟨fun w => absurd w (x_neg (by omega)), fun _ => ⟨v2, v2, x_vi w20 (by omega), ?_⟩⟩, fun w => absurd (by rw [hr, es]) w⟩
    intro N3 h3
    rw [x_cl (show q_w N < 5000 by omega)] at h3
    obtain ⟨p, hp12, hp1, hp2⟩ : ∃ p, p ≤ 12 ∧ l_on o + 1 = nI p ∧ q_on o = (if p = 0 then -6 else nI (p - 1)) := by
      cases o with
      | none => exact ⟨0, by omega, by decide +kernel, rfl⟩
      | some b =>
        have := ho b rfl
        exact ⟨b + 1, by omega, nI_1 b, by rw [if_neg (by omega)]; rfl⟩
    have cv : ((10000 : Int32) * nI u) + ((100 : Int32) * (l_on o + (1 : Int32))) + nI a = nI (10000 * u + 100 * p + a) := by
      rw [hp1, show (10000 : Int32) = nI 10000 from rfl, show (100 : Int32) = nI 100 from rfl, pk_mul, pk_mul, nI_add, nI_add]
    rw [cv] at h3
    have lw : l_w (nI (10000 * u + 100 * p + a)) (nI a) (q_on o) (nI u) := ⟨a, p, u, by omega, hp12, by omega, rfl, hp2, rfl, rfl⟩
    have o3 : ∀ a, a ≠ 193 → a ≠ 196 → N3 a = N2 a := fun a x1 x2 => by rw [h3, x_up_other x2, x_up_other x1]
    have k193 : N3 193 = x_up N2 193 2 (nI (q_w N) + 1) 193 := by rw [h3, x_up_other (by decide)]
    have lr2 : LR N2 (N3 193) (N3 194) (N3 195) (N3 196) := by
      rw [o3 194 (by decide) (by decide), o3 195 (by decide) (by decide), r3 194 (by decide), r3 195 (by decide), hN]
      refine LR_aw (LR_rows lr lo) (q_w N1) rfl (by omega) _ _ _ _ ?_ (fun k k2 => ?_) ?_ (fun k k1 => ?_) lw
      · rw [k193, u_at, nI_1, es]
      · rw [k193, u_ne k2, r3 193 (by decide)]
      · rw [h3, es, u_at]
      · rw [es] at k1
        rw [h3, u_ne k1, x_up_other (by decide), r3 196 (by decide)]
    have lq2 : LQ N2 (N3 193) (N3 197) (N3 198) := by
      rw [o3 197 (by decide) (by decide), o3 198 (by decide) (by decide), r3 197 (by decide), r3 198 (by decide)]
      refine LQ_of lq ?_ (fun a k x1 x2 => ?_)
      · rw [k193, u_ne (by decide), r3 193 (by decide)]
      · rw [hN, q_aw_o (by omega) (by omega) (by omega) (by omega), lo a x2]
    have es1 : q_s N1 = q_s N := by
      unfold q_s
      rw [lo 1 (by decide)]
    have eg1 : q_g N1 = q_g N := by
      unfold q_g
      rw [lo 6 (by decide)]
    have wf2 : WF (20 * t) N2 := by
      rw [hN]
      exact WF_aw (WF_rows wf lo) _ _ _ (by omega) (by rw [es1]; exact x_vi ha (by omega)) (by rw [es1]; exact oin) (by rw [eg1]; exact x_vi hu (by omega))
    have wb2 : WB N2 := by
      rw [hN]
      exact WB_aw (WB_of wb (fun a k ha => by rw [lo a (by omega)])) _ _ _ _
    have rows : ∀ j, j < 20 → N3 j = N2 j := fun j hj => o3 j (by omega) (by omega)
    refine ⟨1000 * (30 - t) + 700 + (3 - (i + 1)), by omega, t, i + 1, t5, ht, by omega, rfl, rfl, nI_1 i, LI_mk (KP_hi hq.1 hq.2.1 kp) ?_ rows wf2 wb2 lr2 lq2, ?_, ?_⟩
    · rw [o3 181 (by decide) (by decide), r2 181 (by decide)]
    · have : q_s N3 = q_s N := by
        unfold q_s
        rw [rows 1 (by decide), hN, q_aw_o (by decide) (by decide) (by decide) (by decide), lo 1 (by decide)]
      rw [this]
      exact hs
    · have : q_g N3 = q_g N := by
        unfold q_g
        rw [rows 6 (by decide), hN, q_aw_o (by decide) (by decide) (by decide) (by decide), lo 6 (by decide)]
      rw [this]
      exact hg
  · obtain ⟨hr, hN⟩ := c1 z0
    have hW2 : j44 = q_ewi (nI a) (q_on o) (nI u) N := by
      rw [hW]
      rw [ew] at z0 ⊢
      by_cases w : o = some a
      · rw [if_pos w, if_pos w]
      · rw [if_neg w, if_neg w]
        by_cases w2 : q_w N = 20
        · rw [if_pos w2, if_pos w2]
        · rw [if_neg w2, if_neg w2]
          by_cases w3 : q_kt N a o u = -6
          · rw [if_pos w3, if_pos w3]
          · rw [if_neg w, if_neg w2, if_neg w3] at z0
            exact absurd rfl z0
    rw [hN, hW2]
    refine ⟨fun _ => ⟨fun _ => ⟨1000 * (30 - t) + 700 + (3 - (i + 1)), by omega, t, i + 1, t5, ht, by omega, rfl, rfl, nI_1 i, li, hs, hg⟩, fun w => absurd (q_ew_neg.mp (Int32.not_lt.mp w)) z0⟩, fun w => absurd hr w⟩
