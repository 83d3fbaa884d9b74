/-! what holds at each cut of the law -/
def A_1 (k : Nat) (v14 : Int32) (N : xM) : Prop := ∃ t, t ≤ 30 ∧ k = 1000 * (30 - t) + 900 ∧ v14 = nI t ∧ LI (20 * t) N ∧ (1 ≤ t → 0 < q_s N) ∧ (2 ≤ t → 0 < q_g N)
def A_2 (k : Nat) (v14 v15 v17 v18 : Int32) (N : xM) : Prop := ∃ t f d, t < 30 ∧ t ≠ 1 ∧ k = 1000 * (30 - t) + 800 ∧ v14 = nI t ∧ LI (20 * t) N ∧ (1 ≤ t → 0 < q_s N) ∧ (2 ≤ t → 0 < q_g N) ∧ v17 = nI f ∧ v18 = nI (f + d) ∧ f < 30 ∧ d < 31
def A_3 (k : Nat) (v14 v15 v17 : Int32) (N : xM) : Prop := ∃ t f, t < 30 ∧ t ≠ 0 ∧ k = 1000 * (30 - t) + 800 ∧ v14 = nI t ∧ LI (20 * t) N ∧ 0 < q_s N ∧ (2 ≤ t → 0 < q_g N) ∧ v17 = nI f ∧ f < 30
def A_4 (k : Nat) (v14 v15 v17 : Int32) (N : xM) : Prop := ∃ t i, 5 ≤ t ∧ t < 30 ∧ i ≤ 3 ∧ k = 1000 * (30 - t) + 700 + (3 - i) ∧ v14 = nI t ∧ v17 = nI i ∧ LI (20 * t) N ∧ 0 < q_s N ∧ 0 < q_g N
def A_5 (k : Nat) (v14 v15 : Int32) (N : xM) : Prop := ∃ t, 5 ≤ t ∧ t < 30 ∧ k = 1000 * (30 - t) + 800 ∧ v14 = nI t ∧ LI (20 * t) N ∧ 0 < q_s N ∧ 0 < q_g N
def A_6 (k : Nat) (v14 v15 : Int32) (N : xM) : Prop := ∃ t, 5 ≤ t ∧ t < 30 ∧ k = 1000 * (30 - t) + 800 ∧ v14 = nI t ∧ LI (20 * t) N ∧ 0 < q_s N ∧ 0 < q_g N ∧ 0 < q_w N
def A_7 (k : Nat) (v14 v15 v17 v18 : Int32) (N : xM) : Prop := ∃ t w i W, 5 ≤ t ∧ t < 30 ∧ k = 1000 * (30 - t) + 500 + (20 - i) ∧ v14 = nI t ∧ v17 = nI w ∧ v18 = nI i ∧ w ≤ i ∧ i < q_w N ∧ WF (20 * t) N ∧ WB N ∧ LR N (N 193) (N 194) (N 195) W ∧ SGd W (N 196) w i ∧ LQ N (N 193) (N 197) (N 198) ∧ (∃ n p, q_hi 0 N n p) ∧ 0 < q_s N ∧ 0 < q_g N
def A_8 (k : Nat) (v14 v15 : Int32) (N : xM) : Prop := ∃ t, 5 ≤ t ∧ t < 30 ∧ k = 1000 * (30 - t) + 800 ∧ v14 = nI t ∧ LI (20 * t) N ∧ 0 < q_s N ∧ 0 < q_g N
def A_9 (k : Nat) (v14 v15 v17 v18 v19 : Int32) (N : xM) : Prop := ∃ t n i E M0, 5 ≤ t ∧ t < 30 ∧ 1 ≤ n ∧ n ≤ 6 ∧ i ≤ n ∧ k = 1000 * (30 - t) + 500 + (n - i) ∧ v14 = nI t ∧ v17 = nI n ∧ v18 = nI i ∧ v19 = q_on (q_next E) ∧ WF (20 * t) N ∧ (∃ n p, q_hi 0 N n p) ∧ WF (20 * t + i) E ∧ WB E ∧ LR E (N 193) (N 194) (N 195) (N 196) ∧ LQ E (N 193) (N 197) (N 198) ∧ (∀ j, j < 20 → N j = M0 j) ∧ q_sn (n - i) i E = q_sn n 0 M0 ∧ 0 < q_s E ∧ 0 < q_g E
def A_10 (k : Nat) (v14 v15 : Int32) (N : xM) : Prop := ∃ t, t < 30 ∧ k = 1000 * (30 - t) ∧ v14 = nI t ∧ LI (20 * (t + 1)) N ∧ 0 < q_s N ∧ (1 ≤ t → 0 < q_g N)
theorem q_ew_neg {E : xM} {v1 v2 v3 : Int32} {a : Nat} : 0 ≤ q_ew E v1 v2 v3 a ↔ q_ew E v1 v2 v3 a = 0 := by
  have c : ∀ r : Int32, r = -1 ∨ r = -2 ∨ r = -4 ∨ r = -5 ∨ r = 0 → (0 ≤ r ↔ r = 0) := by
    rintro r (rfl | rfl | rfl | rfl | rfl) <;> decide
  refine c _ ?_
  unfold q_ew
  by_cases q : q_en E v1 v2 v3 = 0
  · rw [q_if1 q]
    by_cases q2 : a < 20
    · rw [q_if1 q2]
      by_cases q3 : q_kt E v1.toNatClampNeg (q_ov v2) v3.toNatClampNeg = -6
      · rw [q_if1 q3]; simp
      · rw [q_if0 q3]; simp
    · rw [q_if0 q2]; simp
  · rw [q_if0 q]
    unfold q_en at q ⊢
    by_cases q2 : vp_in v1 (q_s E) ∧ (v2 = -6 ∨ vp_in v2 (q_s E)) ∧ vp_in v3 (q_g E)
    · rw [q_if1 q2] at q ⊢
      by_cases q3 : v1 = v2
      · rw [if_pos q3]; simp
      · rw [if_neg q3] at q
        exact absurd rfl q
    · rw [q_if0 q2]; simp
