theorem x_b_if {b : Bool} : (if b = true then (1 : Int32) else 0) = x_b (b = true) := by
  by_cases h : b = true
  · rw [if_pos h, x_b1 h]
  · rw [if_neg h, x_b0 h]
theorem q_la_row {E E' : xM} (h9 : E' 9 = E 9) (h11 : E' 11 = E 11) (h12 : E' 12 = E 12) (h13 : E' 13 = E 13) (h14 : E' 14 = E 14) (wish : Nat) : ∀ (f : Nat) (W y : Int32) (t : Nat → Int32) (mn : Int32) (c : Nat), q_la E' wish f W y t mn c = q_la E wish f W y t mn c
  | 0, _, _, _, _, _ => rfl
  | f + 1, W, y, t, mn, c => by
    unfold q_la
    rw [q_tf_row h12 h13, q_fr_row h12 h13, show q_w E' = q_w E by unfold q_w; rw [h11]]
    cases q_nx (q_tf E t) (bt W) (q_fr E y) (q_w E) with
    | none => rfl
    | some i =>
      simp only
      rw [h9, h14, show q_ss E' i = q_ss E i from q_ss_cong (by rw [h12]) (by rw [h13])]
      split
      · rfl
      · exact q_la_row h9 h11 h12 h13 h14 wish f _ _ _ _ _
theorem q_om_row {E E' : xM} (h12 : E' 12 = E 12) (h13 : E' 13 = E 13) (x : Int32) : ∀ n, q_om E' x n = q_om E x n
  | 0 => rfl
  | n + 1 => by rw [q_om, q_om, q_om_row h12 h13 x n, show q_ss E' n = q_ss E n from q_ss_cong (by rw [h12]) (by rw [h13])]
theorem q_turn_row {E E' : xM} (h : ∀ j, j < 20 → E' j = E j) (wish : Nat) (m : Option Nat) : q_turn E' wish m = q_turn E wish m := by
  unfold q_turn
  rw [q_la_row (h 9 (by decide)) (h 11 (by decide)) (h 12 (by decide)) (h 13 (by decide)) (h 14 (by decide)), h 1 (by decide), h 4 (by decide), h 0 (by decide)]
  congr 1
  have ew : q_w E' = q_w E := by
    unfold q_w
    rw [h 11 (by decide)]
  cases m with
  | none =>
    unfold q_wait
    rw [ew, h 1 (by decide)]
    exact q_om_row (h 12 (by decide)) (h 13 (by decide)) _ _
  | some i =>
    unfold q_wait
    simp only
    rw [ew, h 1 (by decide), q_om_row (h 12 (by decide)) (h 13 (by decide))]
noncomputable def q_Rtu (E : xM) (v1 v2 : Int32) : Int32 := q_if (vp_in v1 (q_w E)) (q_if (0 ≤ v2 ∧ v2 ≤ 1) (q_if (q_rd E v1.toNatClampNeg = true) (if v2 = 0 then nI (q_turn E v1.toNatClampNeg none).1 else (q_turn E v1.toNatClampNeg none).2) (-6)) (-2)) (-1)
theorem ok_X9_turnOf {g : xG} (v1 v2 : Int32) (M : xM) (K : Nat) (h : WF K M) : mi_X9_turnOf g v1 v2 M (fun r N => r = q_Rtu M v1 v2 ∧ ∀ a, a ≠ 191 → a ≠ 192 → N a = M a) := by
  have hw := WF_w h
  refine wk_X9_turnOf _ _ M _ ?_
  unfold vc_X9_turnOf
  refine mo_X8_has (ok_X8_has _ _ (q_w M) (by omega) hw.2) ?_
  rintro r M ⟨rfl, rfl⟩
  refine ⟨fun z => ?_, fun z => ⟨by rw [q_Rtu, q_if0 (x_b_eq.mp z)], fun _ _ _ => rfl⟩⟩
  have z := x_b_ne.mp z
  rw [q_Rtu, q_if1 z]
  obtain ⟨w, hw2, rfl⟩ := x_of (by omega) z
  rw [x_cl (by omega)]
  refine mo_X9_isBetween (ok_X9_isBetween _ _ _ _) ?_
  rintro r M ⟨rfl, rfl⟩
  refine ⟨fun z2 => ?_, fun z2 => ⟨by rw [q_if0 (x_b_eq.mp z2)], fun _ _ _ => rfl⟩⟩
  rw [q_if1 (x_b_ne.mp z2)]
  refine mo_X0_isReady (ok_X0_isReady w _ (q_w M) hw2 hw.1 hw.2) ?_
  rintro r M ⟨rfl, rfl⟩
  refine ⟨fun z3 => ?_, fun z3 => ⟨by rw [q_if0 (x_b_eq.mp z3)], fun _ _ _ => rfl⟩⟩
  rw [q_if1 (x_b_ne.mp z3)]
  refine mo_X5_lookAhead (ok_X5_lookAhead w none (fun _ q => by cases q) M K h hw2) ?_
  rintro N ⟨⟨r, hr, e1, e2⟩, ho⟩
  have hr : r = q_turn M w none := hr
  subst hr
  exact ⟨fun q => ⟨by rw [if_neg q, e2], ho⟩, fun q => ⟨by rw [if_pos q, e1], ho⟩⟩
def q_hb (E : xM) (wish : Nat) (b : Int32) : Nat → Int32 × Int32
  | 0 => (-6, 0)
  | i + 1 => if i = wish then q_hb E wish b i else if (q_hb E wish b i).1 = -6 then (nI i, b - (q_turn E wish (some i)).2) else if b - (q_turn E wish (some i)).2 ≤ (q_hb E wish b i).2 then q_hb E wish b i else (nI i, b - (q_turn E wish (some i)).2)
noncomputable def q_Rhb (E : xM) (v1 v2 : Int32) : Int32 := q_if (vp_in v1 (q_w E)) (q_if (0 ≤ v2 ∧ v2 ≤ 1) (q_if (q_rd E v1.toNatClampNeg = true) (if q_w E = 1 then -6 else if v2 = 0 then (q_hb E v1.toNatClampNeg (q_turn E v1.toNatClampNeg none).2 (q_w E)).1 else (q_hb E v1.toNatClampNeg (q_turn E v1.toNatClampNeg none).2 (q_w E)).2) (-6)) (-2)) (-1)
theorem ok_X9_beginWithout {g : xG} (E M : xM) (K wish : Nat) (miss : Option Nat) (hE : WF K E) (hw : wish < q_w E) (hm : ∀ i, miss = some i → i < q_w E) (h : ∀ a, a ≠ 191 → a ≠ 192 → M a = E a) (hM : WF K M) : mi_X9_beginWithout g (nI wish) (q_on miss) M (fun r N => r = (q_turn E wish miss).2 ∧ ∀ a, a ≠ 191 → a ≠ 192 → N a = E a) := by
  have h20 := (WF_w hE).1
  refine wk_X9_beginWithout _ _ M _ ?_
  unfold vc_X9_beginWithout
  have ew : q_w M = q_w E := by
    unfold q_w
    rw [h 11 (by decide) (by decide)]
  refine mo_X5_lookAhead (ok_X5_lookAhead wish miss (fun i hi => by have := hm i hi; omega) M K hM (by omega)) ?_
  rintro N ⟨⟨r, hr, e1, e2⟩, ho⟩
  have hr : r = q_turn M wish miss := hr
  rw [q_turn_row (E := E) (fun j hj => h j (by omega) (by omega))] at hr
  subst hr
  exact ⟨e2, fun a a1 a2 => by rw [ho a a1 a2, h a a1 a2]⟩
theorem WF_rows {K : Nat} {E E' : xM} (h : WF K E) (e : ∀ j, j < 20 → E' j = E j) : WF K E' := by
  unfold WF q_s q_g q_w q_p at *
  rw [e 1 (by decide), e 4 (by decide), e 6 (by decide), e 11 (by decide), e 12 (by decide), e 13 (by decide), e 14 (by decide), e 15 (by decide)]
  exact h
theorem ok_X9_heldUpBy {g : xG} (v1 v2 : Int32) (M : xM) (K : Nat) (h : WF K M) : mi_X9_heldUpBy g v1 v2 M (fun r N => r = q_Rhb M v1 v2 ∧ ∀ a, a ≠ 191 → a ≠ 192 → N a = M a) := by
  obtain ⟨h20, h11⟩ := WF_w h
  refine wk_X9_heldUpBy _ _ M _ (fun k w1 w2 w3 w4 w5 w6 N => ∃ w i, w < q_w M ∧ v1 = nI w ∧ (0 ≤ v2 ∧ v2 ≤ 1) ∧ q_rd M w = true ∧ q_w M ≠ 1 ∧ i ≤ q_w M ∧ k = q_w M - i ∧ w1 = nI w ∧ w2 = v2 ∧ w3 = (q_turn M w none).2 ∧ (w4, w5) = q_hb M w (q_turn M w none).2 i ∧ w6 = nI i ∧ ∀ a, a ≠ 191 → a ≠ 192 → N a = M a) ?_ ?_
  · unfold vc_X9_heldUpBy
    refine mo_X8_has (ok_X8_has _ _ (q_w M) (by omega) h11) ?_
    rintro r M ⟨rfl, rfl⟩
    refine ⟨fun z => ?_, fun z => ⟨by rw [q_Rhb, q_if0 (x_b_eq.mp z)], fun _ _ _ => rfl⟩⟩
    have z := x_b_ne.mp z
    rw [q_Rhb, q_if1 z]
    obtain ⟨w, hw2, rfl⟩ := x_of (by omega) z
    rw [x_cl (by omega)]
    refine mo_X9_isBetween (ok_X9_isBetween _ _ _ _) ?_
    rintro r M ⟨rfl, rfl⟩
    refine ⟨fun z2 => ?_, fun z2 => ⟨by rw [q_if0 (x_b_eq.mp z2)], fun _ _ _ => rfl⟩⟩
    rw [q_if1 (x_b_ne.mp z2)]
    refine mo_X0_isReady (ok_X0_isReady w _ (q_w M) hw2 h20 h11) ?_
    rintro r M ⟨rfl, rfl⟩
    refine ⟨fun z3 => ⟨by rw [q_if0 (x_b_eq.mp z3)], fun _ _ _ => rfl⟩, fun z3 => ?_⟩
    rw [q_if1 (x_b_ne.mp z3), h11, show (1 : Int32) = nI 1 from rfl, x_eq (by omega) (by omega)]
    refine ⟨fun q => ?_, fun q => ⟨by rw [if_pos q], fun _ _ _ => rfl⟩⟩
    refine mo_X9_beginWithout (ok_X9_beginWithout M M K w none h hw2 (fun _ q => by cases q) (fun _ _ _ => rfl) h) ?_
    rintro r N ⟨rfl, ho⟩
    exact ⟨q_w M, w, 0, hw2, rfl, x_b_ne.mp z2, x_b_ne.mp z3, q, by omega, by omega, rfl, rfl, rfl, rfl, rfl, ho⟩
  · rintro k w1 w2 w3 w4 w5 w6 N ⟨w, i, hw, rfl, hv2, hr, h1, hi, rfl, rfl, rfl, rfl, e45, rfl, ho⟩
    unfold vc_X9_heldUpBy_1
    rw [ho 11 (by decide) (by decide), h11, x_le (by omega) (by omega), x_eq (by omega) (by omega)]
    refine ⟨fun q => ?_, fun q => ?_⟩
    · have : i = q_w M := by omega
      subst this
      have e1 : q_Rhb M (nI w) w2 = if w2 = 0 then w4 else w5 := by
        rw [q_Rhb, q_if1 (x_vi hw (by omega)), q_if1 hv2, x_cl (by omega), q_if1 hr, if_neg h1, ← e45]
      rw [e1]
      exact ⟨fun q => ⟨by rw [if_neg q], ho⟩, fun q => ⟨by rw [if_pos q], ho⟩⟩
    · have e4 : w4 = (q_hb M w (q_turn M w none).2 i).1 := by rw [← e45]
      have e5 : w5 = (q_hb M w (q_turn M w none).2 i).2 := by rw [← e45]
      have nxt : ∀ (x4 x5 : Int32) (N' : xM), (x4, x5) = q_hb M w (q_turn M w none).2 (i + 1) → (∀ a, a ≠ 191 → a ≠ 192 → N' a = M a) → ∃ k, k < q_w M - i ∧ ∃ w' i', w' < q_w M ∧ nI w = nI w' ∧ (0 ≤ w2 ∧ w2 ≤ 1) ∧ q_rd M w' = true ∧ q_w M ≠ 1 ∧ i' ≤ q_w M ∧ k = q_w M - i' ∧ nI w = nI w' ∧ w2 = w2 ∧ (q_turn M w none).2 = (q_turn M w' none).2 ∧ (x4, x5) = q_hb M w' (q_turn M w' none).2 i' ∧ nI i + 1 = nI i' ∧ ∀ a, a ≠ 191 → a ≠ 192 → N' a = M a := fun x4 x5 N' hx hN => ⟨q_w M - (i + 1), by omega, w, i + 1, hw, rfl, hv2, hr, h1, by omega, rfl, rfl, rfl, rfl, hx, nI_1 i, hN⟩
      refine ⟨fun q2 => ?_, fun q2 => nxt _ _ _ (by rw [q_hb, if_pos q2]; exact e45) ho⟩
      have hN : WF K N := WF_rows h (fun j hj => ho j (by omega) (by omega))
      refine mo_X9_beginWithout (ok_X9_beginWithout M N K w (some i) h hw (fun j hj => by cases hj; omega) ho hN) ?_
      rintro r N ⟨rfl, ho⟩
      refine ⟨fun q3 => nxt _ _ _ ?_ ho, fun q3 => ⟨fun q4 => nxt _ _ _ ?_ ho, fun q4 => nxt _ _ _ ?_ ho⟩⟩
      · rw [q_hb, if_neg q2, ← e4, if_pos q3]
      · rw [q_hb, if_neg q2, ← e4, if_neg q3, ← e5, if_pos q4]
        exact e45
      · rw [q_hb, if_neg q2, ← e4, if_neg q3, ← e5, if_neg q4]
