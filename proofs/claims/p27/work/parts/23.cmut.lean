def q_vd (j k : Nat) : Prop := match j with
  | 0 => k = 4 ∨ k = 5
  | 1 => k < 3
  | 6 => k < 1
  | 11 => k < 1
  | 15 => k < 1
  | 2 => k < 12
  | 3 => k < 12
  | 4 => k < 12
  | 5 => k < 12
  | 7 => k < 16
  | 8 => k < 16
  | 9 => k < 16
  | 10 => k < 16
  | 12 => k < 20
  | 13 => k < 20
  | 14 => k < 20
  | _ => k < 12
theorem ok_X9_copyRow {g : xG} {n : Nat} (a b : Nat) (ha : x_isA a 0 n) (hb : x_isA b 0 n) (hn : n < 5000) (M : xM) : mi_X9_copyRow g a b M (fun N => (∀ k, k < n → N b k = M a k) ∧ ∀ c, c ≠ b → N c = M c) := by
  refine wk_X9_copyRow a b ha hb M _ ?_
  unfold vc_X9_copyRow
  rw [if_neg (Int32.lt_irrefl (a := nI n)), x_cl hn]
  have h0 : (0 : Int32).toNatClampNeg = 0 := rfl
  rw [h0]
  refine ⟨Int32.lt_irrefl, Int32.lt_irrefl, x_neg hn, by omega, by omega, ?_, fun c hc => x_row_other hc⟩
  intro k hk
  rw [x_row_same]
  unfold va_cpy
  rw [if_pos ⟨by omega, by omega⟩]
  congr 1
  omega
def q_R1 (M N : xM) (e f j : Nat) : Prop := (∀ k, q_vd j k → N (20 * e + j) k = M (20 * f + j) k) ∧ ∀ a, a ≠ 20 * e + j → N a = M a
def q_CP (M N : xM) (e f lo hi : Nat) : Prop := (∀ j k, lo ≤ j → j < hi → q_vd j k → N (20 * e + j) k = M (20 * f + j) k) ∧ ∀ a, ¬ (20 * e + lo ≤ a ∧ a < 20 * e + hi) → N a = M a
theorem q_CP_0 {M N : xM} {e f j : Nat} (h : q_R1 M N e f j) : q_CP M N e f j (j + 1) := by
  refine ⟨fun i k h1 h2 hv => ?_, fun a ha => h.2 a (by omega)⟩
  have : i = j := by omega
  subst this
  exact h.1 k hv
theorem q_CP_app {M N N2 : xM} {e f lo mi hi : Nat} (hef : e ≠ f) (h1 : lo ≤ mi) (h2 : mi ≤ hi) (hh : hi ≤ 20) (ha : q_CP M N e f lo mi) (hb : q_CP N N2 e f mi hi) : q_CP M N2 e f lo hi := by
  refine ⟨fun j k l1 l2 hv => ?_, fun a hq => ?_⟩
  · by_cases q : j < mi
    · rw [hb.2 _ (by omega)]
      exact ha.1 j k l1 q hv
    · rw [hb.1 j k (by omega) l2 hv, ha.2 _ (by omega)]
  · rw [hb.2 a (by omega), ha.2 a (by omega)]
theorem q_CP_row {M N : xM} {e f j : Nat} {n : Nat} (hv : ∀ k, q_vd j k → k < n) (h : (∀ k, k < n → N (20 * e + j) k = M (20 * f + j) k) ∧ ∀ c, c ≠ 20 * e + j → N c = M c) : q_CP M N e f j (j + 1) := q_CP_0 ⟨fun k hk => h.1 k (hv k hk), h.2⟩
theorem ok_X6_copyFrom {g : xG} (e f : Nat) (he : e < 9) (hf : f < 9) (hef : e ≠ f) (M : xM) : mi_X6_copyFrom g e f M (fun N => q_CP M N e f 1 6) := by
  refine wk_X6_copyFrom e f he hf M _ ?_
  unfold vc_X6_copyFrom
  intro N1 h1
  have c1 : q_CP M (x_up N1 (20 * e + 1) 2 (N1 (20 * f + 1) 2)) e f 1 2 := by
    refine q_CP_0 ⟨fun k hk => ?_, fun a ha => ?_⟩
    · have hk : k < 3 := hk
      have d : ¬ (20 * f + 1 = 20 * e + 1) := by omega
      subst h1
      rcases (show k = 0 ∨ k = 1 ∨ k = 2 by omega) with rfl | rfl | rfl <;> simp [x_up, d]
    · subst h1
      rw [x_up_other ha, x_up_other ha, x_up_other ha]
  refine mo_X9_copyRow (ok_X9_copyRow _ _ (x_arrE (j := 2) hf (by decide) rfl rfl) (x_arrE (j := 2) he (by decide) rfl rfl) (by omega) _) ?_
  intro N2 h2
  refine mo_X9_copyRow (ok_X9_copyRow _ _ (x_arrE (j := 3) hf (by decide) rfl rfl) (x_arrE (j := 3) he (by decide) rfl rfl) (by omega) _) ?_
  intro N3 h3
  refine mo_X9_copyRow (ok_X9_copyRow _ _ (x_arrE (j := 4) hf (by decide) rfl rfl) (x_arrE (j := 4) he (by decide) rfl rfl) (by omega) _) ?_
  intro N4 h4
  refine mo_X9_copyRow (ok_X9_copyRow _ _ (x_arrE (j := 5) hf (by decide) rfl rfl) (x_arrE (j := 5) he (by decide) rfl rfl) (by omega) _) ?_
  intro N5 h5
  have d2 := q_CP_app hef (by decide) (by decide) (by decide) c1 (q_CP_row (j := 2) (fun k hk => hk) h2)
  have d3 := q_CP_app hef (by decide) (by decide) (by decide) d2 (q_CP_row (j := 3) (fun k hk => hk) h3)
  have d4 := q_CP_app hef (by decide) (by decide) (by decide) d3 (q_CP_row (j := 4) (fun k hk => hk) h4)
  exact q_CP_app hef (by decide) (by decide) (by decide) d4 (q_CP_row (j := 5) (fun k hk => hk) h5)
theorem ok_X7_copyFrom {g : xG} (e f : Nat) (he : e < 9) (hf : f < 9) (hef : e ≠ f) (M : xM) : mi_X7_copyFrom g e f M (fun N => q_CP M N e f 6 11) := by
  refine wk_X7_copyFrom e f he hf M _ ?_
  unfold vc_X7_copyFrom
  have c1 : q_CP M (x_up M (20 * e + 6) 0 (M (20 * f + 6) 0)) e f 6 7 := by
    refine q_CP_0 ⟨fun k hk => ?_, fun a ha => x_up_other ha⟩
    have hk : k < 1 := hk
    rcases (show k = 0 by omega) with rfl
    simp [x_up]
  refine mo_X9_copyRow (ok_X9_copyRow _ _ (x_arrE (j := 7) hf (by decide) rfl rfl) (x_arrE (j := 7) he (by decide) rfl rfl) (by omega) _) ?_
  intro N2 h2
  refine mo_X9_copyRow (ok_X9_copyRow _ _ (x_arrE (j := 8) hf (by decide) rfl rfl) (x_arrE (j := 8) he (by decide) rfl rfl) (by omega) _) ?_
  intro N3 h3
  refine mo_X9_copyRow (ok_X9_copyRow _ _ (x_arrE (j := 9) hf (by decide) rfl rfl) (x_arrE (j := 9) he (by decide) rfl rfl) (by omega) _) ?_
  intro N4 h4
  refine mo_X9_copyRow (ok_X9_copyRow _ _ (x_arrE (j := 10) hf (by decide) rfl rfl) (x_arrE (j := 10) he (by decide) rfl rfl) (by omega) _) ?_
  intro N5 h5
  have d2 := q_CP_app hef (by decide) (by decide) (by decide) c1 (q_CP_row (j := 7) (fun k hk => hk) h2)
  have d3 := q_CP_app hef (by decide) (by decide) (by decide) d2 (q_CP_row (j := 8) (fun k hk => hk) h3)
  have d4 := q_CP_app hef (by decide) (by decide) (by decide) d3 (q_CP_row (j := 9) (fun k hk => hk) h4)
  exact q_CP_app hef (by decide) (by decide) (by decide) d4 (q_CP_row (j := 10) (fun k hk => hk) h5)
theorem ok_X8_copyFrom {g : xG} (e f : Nat) (he : e < 9) (hf : f < 9) (hef : e ≠ f) (M : xM) : mi_X8_copyFrom g e f M (fun N => q_CP M N e f 11 15) := by
  refine wk_X8_copyFrom e f he hf M _ ?_
  unfold vc_X8_copyFrom
  have c1 : q_CP M (x_up M (20 * e + 11) 0 (M (20 * f + 11) 0)) e f 11 12 := by
    refine q_CP_0 ⟨fun k hk => ?_, fun a ha => x_up_other ha⟩
    have hk : k < 1 := hk
    rcases (show k = 0 by omega) with rfl
    simp [x_up]
  refine mo_X9_copyRow (ok_X9_copyRow _ _ (x_arrE (j := 12) hf (by decide) rfl rfl) (x_arrE (j := 12) he (by decide) rfl rfl) (by omega) _) ?_
  intro N2 h2
  refine mo_X9_copyRow (ok_X9_copyRow _ _ (x_arrE (j := 13) hf (by decide) rfl rfl) (x_arrE (j := 13) he (by decide) rfl rfl) (by omega) _) ?_
  intro N3 h3
  refine mo_X9_copyRow (ok_X9_copyRow _ _ (x_arrE (j := 14) hf (by decide) rfl rfl) (x_arrE (j := 14) he (by decide) rfl rfl) (by omega) _) ?_
  intro N4 h4
  have d2 := q_CP_app hef (by decide) (by decide) (by decide) c1 (q_CP_row (j := 12) (fun k hk => hk) h2)
  have d3 := q_CP_app hef (by decide) (by decide) (by decide) d2 (q_CP_row (j := 13) (fun k hk => hk) h3)
  exact q_CP_app hef (by decide) (by decide) (by decide) d3 (q_CP_row (j := 14) (fun k hk => hk) h4)
theorem ok_X4_copyFrom {g : xG} (e f : Nat) (he : e < 9) (hf : f < 9) (hef : e ≠ f) (M : xM) : mi_X4_copyFrom g e f M (fun N => q_CP M N e f 15 20) := by
  refine wk_X4_copyFrom e f he hf M _ ?_
  unfold vc_X4_copyFrom
  have c1 : q_CP M (x_up M (20 * e + 15) 0 (M (20 * f + 15) 0)) e f 15 16 := by
    refine q_CP_0 ⟨fun k hk => ?_, fun a ha => x_up_other ha⟩
    have hk : k < 1 := hk
    rcases (show k = 0 by omega) with rfl
    simp [x_up]
  refine mo_X9_copyRow (ok_X9_copyRow _ _ (x_arrE (j := 16) hf (by decide) rfl rfl) (x_arrE (j := 16) he (by decide) rfl rfl) (by omega) _) ?_
  intro N2 h2
  refine mo_X9_copyRow (ok_X9_copyRow _ _ (x_arrE (j := 17) hf (by decide) rfl rfl) (x_arrE (j := 17) he (by decide) rfl rfl) (by omega) _) ?_
  intro N3 h3
  refine mo_X9_copyRow (ok_X9_copyRow _ _ (x_arrE (j := 18) hf (by decide) rfl rfl) (x_arrE (j := 18) he (by decide) rfl rfl) (by omega) _) ?_
  intro N4 h4
  refine mo_X9_copyRow (ok_X9_copyRow _ _ (x_arrE (j := 19) hf (by decide) rfl rfl) (x_arrE (j := 19) he (by decide) rfl rfl) (by omega) _) ?_
  intro N5 h5
  have d2 := q_CP_app hef (by decide) (by decide) (by decide) c1 (q_CP_row (j := 16) (fun k hk => hk) h2)
  have d3 := q_CP_app hef (by decide) (by decide) (by decide) d2 (q_CP_row (j := 17) (fun k hk => hk) h3)
  have d4 := q_CP_app hef (by decide) (by decide) (by decide) d3 (q_CP_row (j := 18) (fun k hk => hk) h4)
  exact q_CP_app hef (by decide) (by decide) (by decide) d4 (q_CP_row (j := 19) (fun k hk => hk) h5)
theorem ok_X0_copyFrom {g : xG} (e f : Nat) (he : e < 9) (hf : f < 9) (hef : e ≠ f) (M : xM) : mi_X0_copyFrom g e f M (fun N => q_CP M N e f 0 20) := by
  refine wk_X0_copyFrom e f he hf M _ ?_
  unfold vc_X0_copyFrom
  refine mo_X6_copyFrom (ok_X6_copyFrom e f he hf hef _) ?_
  intro N1 h1
  refine mo_X7_copyFrom (ok_X7_copyFrom e f he hf hef _) ?_
  intro N2 h2
  refine mo_X8_copyFrom (ok_X8_copyFrom e f he hf hef _) ?_
  intro N3 h3
  refine mo_X4_copyFrom (ok_X4_copyFrom e f he hf hef _) ?_
  intro N4 h4
  have d2 := q_CP_app hef (by decide) (by decide) (by decide) h1 h2
  have d3 := q_CP_app hef (by decide) (by decide) (by decide) d2 h3
  have d4 := q_CP_app hef (by decide) (by decide) (by decide) d3 h4
  refine ⟨fun j k l1 l2 hv => ?_, fun a ha => ?_⟩
  · by_cases q : j = 0
    · subst q
      have hv : k = 4 ∨ k = 5 := hv
      have d : ¬ (20 * f = 20 * e) := by omega
      have e1 := congrFun (d4.2 (20 * f) (by omega))
      rcases hv with rfl | rfl <;> simp [x_up, d, e1]
    · rw [x_up_other (by omega), x_up_other (by omega)]
      exact d4.1 j k (by omega) l2 hv
  · rw [x_up_other (by omega), x_up_other (by omega)]
    exact d4.2 a (by omega)
theorem ok_X1_keep {g : xG} (M : xM) (n p : Nat) (hn : n ≤ 6) (hp : p < 6) (h1 : M 181 1 = nI n) (h2 : M 181 2 = nI p) : mi_X1_keep g M (fun N => N 181 1 = nI (if n < 6 then n + 1 else 6) ∧ N 181 2 = nI (if p = 5 then 0 else p + 1) ∧ (∀ j k, j < 20 → q_vd j k → N (20 * (1 + p) + j) k = M j k) ∧ ∀ a, a ≠ 181 → ¬ (20 * (1 + p) ≤ a ∧ a < 20 * (1 + p) + 20) → N a = M a) := by
  refine wk_X1_keep M _ ?_
  unfold vc_X1_keep
  rw [h2, x_cl (by omega)]
  refine ⟨x_vi hp (by omega), ?_⟩
  refine mo_X0_copyFrom (ok_X0_copyFrom _ _ (by omega) (by omega) (by omega) _) ?_
  intro N1 c
  have e1 : N1 181 = M 181 := c.2 181 (by omega)
  have mn : (if (6 : Int32) < nI n + 1 then (6 : Int32) else nI n + 1) = nI (if n < 6 then n + 1 else 6) := by
    rw [nI_1]
    have h6 : (6 : Int32) = nI 6 := rfl
    rw [h6]
    by_cases q : n < 6
    · rw [if_neg (by rw [x_lt (by omega) (by omega)]; omega), if_pos q]
    · rw [if_pos (by rw [x_lt (by omega) (by omega)]; omega), if_neg q]
  have fr : ∀ (N : xM), (∀ a, a ≠ 181 → N a = N1 a) → (∀ j k, j < 20 → q_vd j k → N (20 * (1 + p) + j) k = M j k) ∧ ∀ a, a ≠ 181 → ¬ (20 * (1 + p) ≤ a ∧ a < 20 * (1 + p) + 20) → N a = M a := by
    intro N hN
    refine ⟨fun j k hj hv => ?_, fun a ha hq => ?_⟩
    · rw [hN _ (by omega), c.1 j k (by omega) hj hv]
      simp
    · rw [hN a ha]
      exact c.2 a (by omega)
  refine ⟨fun q => ?_, fun q => ?_⟩
  · rintro N rfl
    refine ⟨?_, ?_, fr _ (fun a ha => by rw [x_up_other ha, x_up_other ha])⟩
    · simp only [x_up, e1, h1, h2]
      simpa using mn
    · rw [e1, h2] at q
      have : p ≠ 5 := fun z => q (by rw [z]; rfl)
      simp only [x_up, e1, h1, h2, if_neg this]
      simp [nI_1]
  · rintro N rfl
    refine ⟨?_, ?_, fr _ (fun a ha => by rw [x_up_other ha, x_up_other ha])⟩
    · simp only [x_up, e1, h1, h2]
      simpa using mn
    · rw [e1, h2] at q
      have h5 : (5 : Int32) = nI 5 := rfl
      rw [h5, x_eq (by omega) (by omega)] at q
      simp [x_up, q, nI_0]
