def q_rm (E : xM) (w : Nat) : xM := fun a k => if a = 11 ∧ k = 0 then E 11 0 - 1 else if (a = 12 ∨ a = 13 ∨ a = 14) ∧ w ≤ k ∧ k + 1 < q_w E then E a (k + 1) else E a k
def q_rm1 (E : xM) (w i : Nat) : xM := fun a k => if (a = 12 ∨ a = 13 ∨ a = 14) ∧ w ≤ k ∧ k < i then E a (k + 1) else E a k
theorem q_rm1_0 (E : xM) (w : Nat) : q_rm1 E w w = E := by
  funext a k
  unfold q_rm1
  rw [if_neg (by omega)]
theorem q_rm1_s (E : xM) (w i : Nat) (h : w ≤ i) : x_up (x_up (x_up (q_rm1 E w i) 12 i (q_rm1 E w i 12 (i + 1))) 13 i ((x_up (q_rm1 E w i) 12 i (q_rm1 E w i 12 (i + 1))) 13 (i + 1))) 14 i ((x_up (x_up (q_rm1 E w i) 12 i (q_rm1 E w i 12 (i + 1))) 13 i ((x_up (q_rm1 E w i) 12 i (q_rm1 E w i 12 (i + 1))) 13 (i + 1))) 14 (i + 1)) = q_rm1 E w (i + 1) := by
  funext a k
  simp only [x_up, q_rm1]
  grind
theorem q_rm1_e (E : xM) (w : Nat) (h : w < q_w E) : x_up (q_rm1 E w (q_w E - 1)) 11 0 (q_rm1 E w (q_w E - 1) 11 0 - 1) = q_rm E w := by
  funext a k
  simp only [x_up, q_rm1, q_rm]
  grind
theorem ok_X8_removeAt {g : xG} (w : Nat) (M : xM) (n : Nat) (hn : n ≤ 20) (h : M 11 0 = nI n) (hw : w < n) : mi_X8_removeAt g (nI w) M (fun N => N = q_rm M w) := by
  have hq : q_w M = n := q_w_of hn h
  refine wk_X8_removeAt _ M _ (fun k v2 N => ∃ i, w ≤ i ∧ i < n ∧ k = n - i ∧ v2 = nI i ∧ N = q_rm1 M w i) ?_ ?_
  · unfold vc_X8_removeAt
    exact ⟨n - w, w, by omega, hw, rfl, rfl, (q_rm1_0 M w).symm⟩
  · rintro k v2 N ⟨i, hi, hi2, rfl, rfl, rfl⟩
    unfold vc_X8_removeAt_1
    have e11 : q_rm1 M w i 11 0 = nI n := by
      simp [q_rm1, h]
    rw [e11, x_pred (by omega), x_le (by omega) (by omega), nI_1]
    refine ⟨fun q => ?_, fun q => ?_⟩
    · have : i = q_w M - 1 := by omega
      subst this
      have := q_rm1_e M w (by omega)
      rw [e11, x_pred (by omega)] at this
      exact this
    · have v1 : vp_in (nI i) 20 := x_vi (by omega) (by omega)
      have v2 : vp_in (nI (i + 1)) 20 := x_vi (by omega) (by omega)
      rw [x_cl (by omega), x_cl (by omega)]
      refine ⟨v2, v1, v2, v1, ?_⟩
      rintro N rfl
      exact ⟨v2, v1, n - (i + 1), by omega, i + 1, by omega, by omega, rfl, rfl, q_rm1_s M w i hi⟩
def q_re (E : xM) (f o s b : Int32) : xM := fun a k => if a = 15 ∧ k = 0 then nI (if q_p E < 12 then q_p E + 1 else 12) else if 16 ≤ a ∧ a ≤ 19 then (if k = 0 then (if a = 16 then f else if a = 17 then o else if a = 18 then s else b) else if k < (if q_p E < 12 then q_p E + 1 else 12) then E a (k - 1) else E a k) else E a k
def q_re1 (E : xM) (n i : Nat) : xM := fun a k => if a = 15 ∧ k = 0 then nI n else if (16 ≤ a ∧ a ≤ 19) ∧ i < k ∧ k < n then E a (k - 1) else E a k
theorem q_re1_0 (E : xM) (n : Nat) (v : Int32) (hv : v = nI n) : x_up E 15 0 v = q_re1 E n (n - 1) := by
  funext a k
  simp only [x_up, q_re1]
  grind
theorem q_re1_s (E : xM) (n i : Nat) (hi : i + 1 < n) (N3 N4 : xM) (h3 : N3 = x_up (x_up (q_re1 E n (i + 1)) 16 (i + 1) (q_re1 E n (i + 1) 16 i)) 17 (i + 1) ((x_up (q_re1 E n (i + 1)) 16 (i + 1) (q_re1 E n (i + 1) 16 i)) 17 i)) (h4 : N4 = x_up (x_up N3 18 (i + 1) (N3 18 i)) 19 (i + 1) ((x_up N3 18 (i + 1) (N3 18 i)) 19 i)) : N4 = q_re1 E n i := by
  subst h3
  subst h4
  funext a k
  simp only [x_up, q_re1]
  grind
theorem q_re1_e (E : xM) (f o s b : Int32) (n : Nat) (hn : n = if q_p E < 12 then q_p E + 1 else 12) (N2 : xM) (h2 : N2 = x_up (x_up (x_up (q_re1 E n 0) 16 0 f) 17 0 o) 18 0 s) : x_up N2 19 0 b = q_re E f o s b := by
  subst h2
  funext a k
  simp only [x_up, q_re1, q_re, ← hn]
  grind
theorem q_p_of {M : xM} {n : Nat} (hn : n ≤ 12) (h : M 15 0 = nI n) : q_p M = n := by
  unfold q_p
  rw [h, x_cl (by omega)]
theorem ok_X4_remember {g : xG} (f o s b : Int32) (M : xM) (n : Nat) (hn : n ≤ 12) (h : M 15 0 = nI n) : mi_X4_remember g f o s b M (fun N => N = q_re M f o s b) := by
  have hq : q_p M = n := q_p_of hn h
  generalize hm : (if q_p M < 12 then q_p M + 1 else 12) = m at *
  have hm0 : 0 < m ∧ m ≤ 12 := by
    rw [← hm]
    split <;> omega
  have mn : (if (12 : Int32) < M 15 0 + 1 then (12 : Int32) else M 15 0 + 1) = nI m := by
    rw [h, nI_1, ← hm, hq, show (12 : Int32) = nI 12 from rfl]
    by_cases q : n < 12
    · rw [if_neg (by rw [x_lt (by omega) (by omega)]; omega), if_pos q]
    · rw [if_pos (by rw [x_lt (by omega) (by omega)]; omega), if_neg q]
  refine wk_X4_remember f o s b M _ (fun k v1 v2 v3 v4 v5 N => ∃ i, i < m ∧ k = i ∧ v5 = nI i ∧ v1 = f ∧ v2 = o ∧ v3 = s ∧ v4 = b ∧ N = q_re1 M m i) ?_ ?_
  · unfold vc_X4_remember
    rw [mn]
    intro y hy
    refine ⟨m - 1, m - 1, by omega, rfl, ?_, rfl, rfl, rfl, rfl, q_re1_0 M m _ rfl⟩
    rw [hy]
    simp only [x_up]
    simpa using x_pred hm0.1
  · rintro k v1 v2 v3 v4 v5 N ⟨i, hi, rfl, rfl, rfl, rfl, rfl, rfl, rfl⟩
    unfold vc_X4_remember_1
    have h0 : (0 : Int32).toNatClampNeg = 0 := rfl
    have v0 : vp_in (0 : Int32) 12 := x_vi (n := 0) (by omega) (by omega)
    rw [h0]
    refine ⟨fun q => ?_, fun q => ?_⟩
    · rw [← nI_0, x_le (by omega) (by omega)] at q
      have : k = 0 := by omega
      subst this
      refine ⟨v0, v0, v0, ?_⟩
      intro N2 h2
      exact ⟨v0, q_re1_e M _ _ _ _ m hm.symm N2 h2⟩
    · rw [← nI_0, x_le (by omega) (by omega)] at q
      obtain ⟨i, rfl⟩ : ∃ i, k = i + 1 := ⟨k - 1, by omega⟩
      have e1 : nI (i + 1) - 1 = nI i := nI_pred i
      have e2 : nI (i + 1) + (-1) = nI i := pk_m1 i
      have va : vp_in (nI i) 12 := x_vi (by omega) (by omega)
      have vb : vp_in (nI (i + 1)) 12 := x_vi (by omega) (by omega)
      rw [e1, e2, x_cl (by omega), x_cl (by omega)]
      refine ⟨va, vb, va, vb, ?_⟩
      intro N3 h3
      refine ⟨va, vb, va, vb, ?_⟩
      intro N4 h4
      exact ⟨i, by omega, i, by omega, rfl, rfl, rfl, rfl, rfl, rfl, q_re1_s M m i hi N3 N4 h3 h4⟩
def q_st (E : xM) (x len : Int32) (n : Nat) : xM := fun a k => if a = 4 ∧ k < n ∧ bt x k = true then E 4 k + 1 else if a = 5 ∧ k < n ∧ bt x k = true then E 5 k + len else E a k
theorem q_st_0 (E : xM) (x len : Int32) : q_st E x len 0 = E := by
  funext a k
  simp [q_st]
theorem q_st_n (E : xM) (x len : Int32) (i : Nat) (h : ¬ bt x i = true) : q_st E x len i = q_st E x len (i + 1) := by
  funext a k
  simp only [q_st]
  grind
theorem q_st_y (E : xM) (x len : Int32) (i : Nat) (h : bt x i = true) : x_up (x_up (q_st E x len i) 4 i (q_st E x len i 4 i + 1)) 5 i ((x_up (q_st E x len i) 4 i (q_st E x len i 4 i + 1)) 5 i + len) = q_st E x len (i + 1) := by
  funext a k
  simp only [x_up, q_st]
  grind
theorem ok_X6_singTurn {g : xG} (x len : Int32) (M : xM) (n : Nat) (hn : n ≤ 12) (h : M 1 0 = nI n) : mi_X6_singTurn g x len M (fun N => N = x_up (q_st M x len n) 1 2 x) := by
  refine wk_X6_singTurn x len M _ (fun k v1 v2 v3 N => ∃ i, i ≤ n ∧ k = n - i ∧ v3 = nI i ∧ v1 = x ∧ v2 = len ∧ N = q_st M x len i) ?_ ?_
  · unfold vc_X6_singTurn
    exact ⟨n, 0, by omega, by omega, rfl, rfl, rfl, (q_st_0 M x len).symm⟩
  · rintro k x len v3 N ⟨i, hi, rfl, rfl, rfl, rfl, rfl⟩
    unfold vc_X6_singTurn_1
    have e : q_st M x len i 1 0 = nI n := by simp [q_st, h]
    rw [e, x_le (by omega) (by omega), nI_1]
    refine ⟨fun q => ?_, fun q => ?_⟩
    · have : i = n := by omega
      subst this
      rfl
    · refine mo_X9_isIn (ok_X9_isIn _ i (by omega) _) ?_
      rintro r N ⟨rfl, rfl⟩
      refine ⟨fun z => ⟨n - (i + 1), by omega, i + 1, by omega, rfl, rfl, rfl, rfl, q_st_n M x len i (x_b_eq.mp z)⟩, fun z => ?_⟩
      have v : vp_in (nI i) 12 := x_vi (by omega) (by omega)
      refine ⟨v, v, v, v, ?_⟩
      rw [x_cl (by omega)]
      rintro N rfl
      exact ⟨n - (i + 1), by omega, i + 1, by omega, rfl, rfl, rfl, rfl, q_st_y M x len i (x_b_ne.mp z)⟩
theorem ok_X6_setThere {g : xG} (i : Nat) (p : Prop) (M : xM) : mi_X6_setThere g (nI i) (x_b p) M (fun N => (p → N = x_up M 1 1 (M 1 1 ||| ((1 : Int32) <<< (nI i &&& 31)))) ∧ (¬ p → N = x_up M 1 1 (M 1 1 &&& (((1 : Int32) <<< (nI i &&& 31)) ^^^ -1)))) := by
  refine wk_X6_setThere _ _ M _ ?_
  unfold vc_X6_setThere
  exact ⟨fun h => ⟨fun z => absurd z (x_b_eq.mp h), fun _ => rfl⟩, fun h => ⟨fun _ => rfl, fun z => absurd (x_b_ne.mp h) z⟩⟩
def q_as (E : xM) (n : Nat) (lo hi : Int32) : xM := x_up (x_up (x_up (x_up E 2 n lo) 3 n hi) 1 1 (E 1 1 ||| ((1 : Int32) <<< (nI n &&& 31)))) 1 0 (nI (n + 1))
theorem ok_X6_add {g : xG} (lo hi : Int32) (M : xM) (n : Nat) (hn : n < 12) (h : M 1 0 = nI n) : mi_X6_add g lo hi M (fun r N => r = nI n ∧ N = q_as M n lo hi) := by
  refine wk_X6_add lo hi M _ ?_
  unfold vc_X6_add
  have v : vp_in (nI n) 12 := x_vi (by omega) (by omega)
  rw [h, x_cl (by omega)]
  refine ⟨v, v, ?_⟩
  have := ok_X6_setThere (g := g) n True (x_up (x_up M 2 n lo) 3 n hi)
  rw [x_b1 trivial] at this
  refine mo_X6_setThere this ?_
  rintro N ⟨hN, -⟩
  have hN := hN trivial
  subst hN
  refine ⟨rfl, ?_⟩
  funext a k
  simp [x_up, q_as, h, nI_1]
def q_ag (E : xM) (n : Nat) (lo hi len : Int32) : xM := x_up (x_up (x_up (x_up E 7 n lo) 8 n hi) 9 n len) 6 0 (nI (n + 1))
theorem ok_X7_add {g : xG} (lo hi len : Int32) (M : xM) (n : Nat) (hn : n < 16) (h : M 6 0 = nI n) : mi_X7_add g lo hi len M (fun r N => r = nI n ∧ N = q_ag M n lo hi len) := by
  refine wk_X7_add lo hi len M _ ?_
  unfold vc_X7_add
  have v : vp_in (nI n) 16 := x_vi (by omega) (by omega)
  rw [h, x_cl (by omega)]
  refine ⟨v, v, v, ?_⟩
  rintro N rfl
  refine ⟨rfl, ?_⟩
  funext a k
  simp [x_up, q_ag, h, nI_1]
def q_aw (E : xM) (n : Nat) (f o s : Int32) : xM := x_up (x_up (x_up (x_up E 12 n f) 13 n o) 14 n s) 11 0 (nI (n + 1))
theorem ok_X8_add {g : xG} (f o s : Int32) (M : xM) (n : Nat) (hn : n < 20) (h : M 11 0 = nI n) : mi_X8_add g f o s M (fun r N => r = nI n ∧ N = q_aw M n f o s) := by
  refine wk_X8_add f o s M _ ?_
  unfold vc_X8_add
  have v : vp_in (nI n) 20 := x_vi (by omega) (by omega)
  rw [h, x_cl (by omega)]
  refine ⟨v, v, v, ?_⟩
  rintro N rfl
  refine ⟨rfl, ?_⟩
  funext a k
  simp [x_up, q_aw, h, nI_1]
def q_sg (E : xM) (w : Nat) : xM :=
  let E1 := q_re E (E 12 w) (E 13 w) (E 14 w) (E 0 4)
  let E2 := x_up (q_st E1 (q_ss E w) (E 9 (E 14 w).toNatClampNeg) (q_s E)) 1 2 (q_ss E w)
  let E3 := x_up E2 10 (E 14 w).toNatClampNeg (E2 10 (E 14 w).toNatClampNeg + 1)
  let E4 := x_up (x_up E3 0 4 (E3 0 4 + E 9 (E 14 w).toNatClampNeg)) 0 5 (E3 0 5 + 1)
  q_rm E4 w
theorem ok_X0_singTurn {g : xG} (w : Nat) (M : xM) (K : Nat) (h : WF K M) (hw : w < q_w M) : mi_X0_singTurn g (nI w) M (fun N => N = q_sg M w) := by
  have hok := q_ok_of h hw
  obtain ⟨⟨hs1, hs2⟩, ⟨hg1, hg2⟩, ⟨hw1, hw2⟩, ⟨hp1, hp2⟩, -⟩ := h
  refine wk_X0_singTurn _ M _ ?_
  unfold vc_X0_singTurn
  refine mo_X0_lengthOfWish (ok_X0_lengthOfWish w (by omega) _ hok) ?_
  rintro r M ⟨rfl, rfl⟩
  have v : vp_in (nI w) 20 := x_vi (by omega) (by omega)
  refine ⟨v, v, v, ?_⟩
  rw [x_cl (by omega)]
  refine mo_X4_remember (ok_X4_remember _ _ _ _ _ (q_p M) hp2 hp1) ?_
  rintro N rfl
  refine mo_X8_singersOf (ok_X8_singersOf w (by omega) _) ?_
  rintro r N ⟨rfl, rfl⟩
  have ess : q_ss (q_re M (M 12 w) (M 13 w) (M 14 w) (M 0 4)) w = q_ss M w := q_ss_cong (by simp [q_re]) (by simp [q_re])
  rw [ess]
  refine mo_X6_singTurn (ok_X6_singTurn _ _ _ (q_s M) hs2 (by simpa [q_re] using hs1)) ?_
  rintro N rfl
  obtain ⟨-, -, s, h1, h2⟩ := hok
  have v2 : vp_in (M 14 w) 16 := by rw [h2]; exact x_vi h1 (by omega)
  refine ⟨v2, v2, ?_⟩
  rintro N rfl
  refine mo_X8_removeAt (ok_X8_removeAt w _ (q_w M) hw2 (by simpa [x_up, q_st, q_re] using hw1) hw) ?_
  rintro N rfl
  rfl
