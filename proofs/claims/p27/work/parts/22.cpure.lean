theorem ok_X9_isBetween {g : xG} (v0 v1 v2 : Int32) (M : xM) : mi_X9_isBetween g v0 v1 v2 M (fun r N => r = x_b (v1 ≤ v0 ∧ v0 ≤ v2) ∧ N = M) := by
  refine wk_X9_isBetween v0 v1 v2 M _ ?_
  unfold vc_X9_isBetween
  refine ⟨fun h => ⟨?_, rfl⟩, fun h => ⟨fun h2 => ⟨?_, rfl⟩, fun h2 => ⟨?_, rfl⟩⟩⟩
  · exact (x_b0 fun q => Int32.not_lt.mpr q.1 h).symm
  · exact (x_b0 fun q => Int32.not_lt.mpr q.2 h2).symm
  · exact (x_b1 ⟨Int32.not_lt.mp h, Int32.not_lt.mp h2⟩).symm
theorem ok_X9_isIn {g : xG} (v0 : Int32) (i : Nat) (hi : i < 32) (M : xM) : mi_X9_isIn g v0 (nI i) M (fun r N => r = x_b (bt v0 i = true) ∧ N = M) := by
  refine wk_X9_isIn v0 (nI i) M _ ?_
  unfold vc_X9_isIn
  exact ⟨fun h => ⟨(x_b0 fun q => h ((x_bit hi).mpr q)).symm, rfl⟩, fun h => ⟨(x_b1 ((x_bit hi).mp h)).symm, rfl⟩⟩
theorem ok_X9_isToneRange {g : xG} (v0 v1 : Int32) (M : xM) : mi_X9_isToneRange g v0 v1 M (fun r N => r = x_b ((0 ≤ v0 ∧ v0 ≤ 60) ∧ v0 ≤ v1 ∧ v1 ≤ 60) ∧ N = M) := by
  refine wk_X9_isToneRange v0 v1 M _ ?_
  unfold vc_X9_isToneRange
  refine mo_X9_isBetween (ok_X9_isBetween _ _ _ _) ?_
  rintro _ _ ⟨rfl, rfl⟩
  refine ⟨fun h => ⟨(x_b0 fun q => x_b_eq.mp h q.1).symm, rfl⟩, fun h => ?_⟩
  refine mo_X9_isBetween (ok_X9_isBetween _ _ _ _) ?_
  rintro _ _ ⟨rfl, rfl⟩
  exact ⟨fun h2 => ⟨(x_b0 fun q => x_b_eq.mp h2 q.2).symm, rfl⟩, fun h2 => ⟨(x_b1 ⟨x_b_ne.mp h, x_b_ne.mp h2⟩).symm, rfl⟩⟩
theorem ok_X9_asNumber {g : xG} (p : Prop) (M : xM) : mi_X9_asNumber g (x_b p) M (fun r N => r = x_b p ∧ N = M) := by
  refine wk_X9_asNumber _ M _ ?_
  unfold vc_X9_asNumber
  exact ⟨fun h => ⟨(x_b0 (x_b_eq.mp h)).symm, rfl⟩, fun h => ⟨(x_b1 (x_b_ne.mp h)).symm, rfl⟩⟩
theorem ok_X6_has {g : xG} (v : Int32) (M : xM) (n : Nat) (hn : n < 5000) (h : M 1 0 = nI n) : mi_X6_has g v M (fun r N => r = x_b (vp_in v n) ∧ N = M) := by
  refine wk_X6_has v M _ ?_
  unfold vc_X6_has
  refine mo_X9_isBetween (ok_X9_isBetween _ _ _ _) ?_
  rintro _ _ ⟨rfl, rfl⟩
  exact ⟨x_b_nar, by rw [h, x_b_iff (x_hasI hn)], rfl⟩
theorem ok_X7_has {g : xG} (v : Int32) (M : xM) (n : Nat) (hn : n < 5000) (h : M 6 0 = nI n) : mi_X7_has g v M (fun r N => r = x_b (vp_in v n) ∧ N = M) := by
  refine wk_X7_has v M _ ?_
  unfold vc_X7_has
  refine mo_X9_isBetween (ok_X9_isBetween _ _ _ _) ?_
  rintro _ _ ⟨rfl, rfl⟩
  exact ⟨x_b_nar, by rw [h, x_b_iff (x_hasI hn)], rfl⟩
theorem ok_X8_has {g : xG} (v : Int32) (M : xM) (n : Nat) (hn : n < 5000) (h : M 11 0 = nI n) : mi_X8_has g v M (fun r N => r = x_b (vp_in v n) ∧ N = M) := by
  refine wk_X8_has v M _ ?_
  unfold vc_X8_has
  refine mo_X9_isBetween (ok_X9_isBetween _ _ _ _) ?_
  rintro _ _ ⟨rfl, rfl⟩
  exact ⟨x_b_nar, by rw [h, x_b_iff (x_hasI hn)], rfl⟩
theorem ok_X6_isThere {g : xG} (i : Nat) (hi : i < 32) (M : xM) : mi_X6_isThere g (nI i) M (fun r N => r = x_b (bt (M 1 1) i = true) ∧ N = M) := by
  refine wk_X6_isThere _ M _ ?_
  unfold vc_X6_isThere
  refine mo_X9_isIn (ok_X9_isIn _ i hi _) ?_
  rintro _ _ ⟨rfl, rfl⟩
  exact ⟨x_b_nar, rfl, rfl⟩
theorem ok_X8_singersOf {g : xG} (w : Nat) (hw : w < 20) (M : xM) : mi_X8_singersOf g (nI w) M (fun r N => r = q_ss M w ∧ N = M) := by
  refine wk_X8_singersOf _ M _ ?_
  unfold vc_X8_singersOf
  rw [x_cl (by omega)]
  have hv : vp_in (nI w) 20 := x_vi hw (by omega)
  exact ⟨hv, hv, fun h => ⟨hv, by rw [q_ss, if_neg h], rfl⟩, fun h => ⟨by rw [q_ss, if_pos h], rfl⟩⟩
theorem ok_X8_onesWithout {g : xG} (x : Int32) (M : xM) (n : Nat) (hn : n ≤ 20) (h : M 11 0 = nI n) : mi_X8_onesWithout g x M (fun r N => r = q_om M x n ∧ N = M) := by
  refine wk_X8_onesWithout x M _ (fun k v1 v2 v3 N => ∃ i, i ≤ n ∧ k = n - i ∧ v3 = nI i ∧ v1 = x ∧ v2 = q_om M x i ∧ N = M) ?_ ?_
  · unfold vc_X8_onesWithout
    exact ⟨n, 0, by omega, by omega, rfl, rfl, rfl, rfl⟩
  · rintro k v1 v2 v3 N ⟨i, hi, rfl, rfl, rfl, rfl, rfl⟩
    unfold vc_X8_onesWithout_1
    rw [h, x_le (by omega) (by omega)]
    refine ⟨fun q => ?_, fun q => ?_⟩
    · have : i = n := by omega
      subst this
      exact ⟨rfl, rfl⟩
    · refine mo_X8_singersOf (ok_X8_singersOf i (by omega) _) ?_
      rintro _ _ ⟨rfl, rfl⟩
      refine ⟨fun z => ⟨n - (i + 1), by omega, i + 1, by omega, rfl, nI_1 i, rfl, ?_, rfl⟩, fun z => ⟨n - (i + 1), by omega, i + 1, by omega, rfl, nI_1 i, rfl, ?_, rfl⟩⟩
      · rw [q_om, if_neg z]
      · rw [q_om, if_pos z]
theorem ok_X8_readyOnes {g : xG} (x : Int32) (M : xM) (n : Nat) (hn : n ≤ 20) (h : M 11 0 = nI n) : mi_X8_readyOnes g x M (fun r N => r = q_om M (x ^^^ -1) n ∧ N = M) := by
  refine wk_X8_readyOnes x M _ ?_
  unfold vc_X8_readyOnes
  exact ok_X8_onesWithout _ M n hn h
theorem ok_X8_freshOnes {g : xG} (x : Int32) (M : xM) (n : Nat) (hn : n ≤ 20) (h : M 11 0 = nI n) : mi_X8_freshOnes g x M (fun r N => r = q_om M x n ∧ N = M) := by
  refine wk_X8_freshOnes x M _ ?_
  unfold vc_X8_freshOnes
  exact ok_X8_onesWithout _ M n hn h
def q_ok (M : xM) (w : Nat) : Prop := (∃ f, f < 12 ∧ M 12 w = nI f) ∧ (M 13 w = -6 ∨ ∃ o, o < 12 ∧ M 13 w = nI o) ∧ ∃ s, s < 16 ∧ M 14 w = nI s
theorem q_ok_of {K : Nat} {M : xM} (h : WF K M) {w : Nat} (hw : w < q_w M) : q_ok M w := by
  obtain ⟨⟨-, h1⟩, ⟨-, h2⟩, -, -, -, -, h3⟩ := h
  obtain ⟨⟨f, f1, f2⟩, ho, s, s1, s2⟩ := h3 w hw
  refine ⟨⟨f, by omega, f2⟩, ?_, s, by omega, s2⟩
  rcases ho with ho | ⟨o, o1, o2⟩
  · exact Or.inl ho
  · exact Or.inr ⟨o, by omega, o2⟩
theorem ok_X8_turnsFor {g : xG} (w : Nat) (hw : w < 20) (t : Nat) (ht : x_isA t 0 12) (M : xM) (h : q_ok M w) : mi_X8_turnsFor g (nI w) t M (fun r N => r = q_tf M (M t) w ∧ N = M) := by
  refine wk_X8_turnsFor _ t ht M _ ?_
  unfold vc_X8_turnsFor
  rw [x_cl (by omega)]
  have hv : vp_in (nI w) 20 := x_vi hw (by omega)
  obtain ⟨⟨f, hf, ef⟩, ho, -⟩ := h
  refine ⟨hv, by rw [ef]; exact x_vi hf (by omega), hv, fun q => ⟨hv, ?_, ?_, rfl⟩, fun q => ⟨?_, rfl⟩⟩
  · rcases ho with ho | ⟨o, h1, h2⟩
    · exact absurd ho q
    · rw [h2]
      exact x_vi h1 (by omega)
  · rw [q_tf, if_neg q]
  · rw [q_tf, if_pos q]
theorem ok_X8_fewestTurnsAmong {g : xG} (x : Int32) (t : Nat) (ht : x_isA t 0 12) (M : xM) (n : Nat) (hn : n ≤ 20) (h : M 11 0 = nI n) (hok : ∀ w, w < n → q_ok M w) : mi_X8_fewestTurnsAmong g x t M (fun r N => r = q_on (q_fm (q_tf M (M t)) (bt x) n) ∧ N = M) := by
  refine wk_X8_fewestTurnsAmong x t ht M _ (fun k v1 v3 v4 N => ∃ i, i ≤ n ∧ k = n - i ∧ v4 = nI i ∧ v1 = x ∧ v3 = q_on (q_fm (q_tf M (M t)) (bt x) i) ∧ N = M) ?_ ?_
  · unfold vc_X8_fewestTurnsAmong
    exact ⟨n, 0, by omega, by omega, rfl, rfl, rfl, rfl⟩
  · rintro k x v3 v4 M ⟨i, hi, rfl, rfl, rfl, rfl, rfl⟩
    unfold vc_X8_fewestTurnsAmong_1
    rw [h, x_le (by omega) (by omega)]
    refine ⟨fun q => ?_, fun q => ?_⟩
    · have : i = n := by omega
      subst this
      exact ⟨rfl, rfl⟩
    · have lt : ∀ j, q_fm (q_tf M (M t)) (bt x) i = some j → j < 20 := fun j hj => by have := q_fm_lt hj; omega
      refine mo_X9_isIn (ok_X9_isIn _ i (by omega) _) ?_
      rintro _ M ⟨rfl, rfl⟩
      have stp : ∀ v, q_on (q_fm (q_tf M (M t)) (bt x) (i + 1)) = v → ∃ k, k < n - i ∧ ∃ i', i' ≤ n ∧ k = n - i' ∧ nI i + 1 = nI i' ∧ x = x ∧ v = q_on (q_fm (q_tf M (M t)) (bt x) i') ∧ M = M := fun v hv => ⟨n - (i + 1), by omega, i + 1, by omega, rfl, nI_1 i, rfl, hv.symm, rfl⟩
      cases hq : q_fm (q_tf M (M t)) (bt x) i with
      | none =>
        refine ⟨fun z => stp _ ?_, fun z => ⟨fun _ => stp _ ?_, fun z2 => absurd rfl z2⟩⟩
        · rw [q_fm, hq]
          simp only
          rw [if_neg (x_b_eq.mp z)]
        · rw [q_fm, hq]
          simp only
          rw [if_pos (x_b_ne.mp z)]
          rfl
      | some j =>
        have hj := lt j hq
        refine ⟨fun z => stp _ ?_, fun z => ⟨fun z2 => absurd z2 (x_nm6 (by omega)), fun z2 => ?_⟩⟩
        · rw [q_fm, hq]
          simp only
          rw [if_neg (by rw [Bool.and_eq_true]; exact fun w => x_b_eq.mp z w.1)]
        · refine mo_X8_turnsFor (ok_X8_turnsFor i (by omega) t ht _ (hok i (by omega))) ?_
          rintro _ M ⟨rfl, rfl⟩
          refine mo_X8_turnsFor (ok_X8_turnsFor j (by omega) t ht _ (hok j (by have := q_fm_lt hq; omega))) ?_
          rintro _ M ⟨rfl, rfl⟩
          refine ⟨fun z3 => stp _ ?_, fun z3 => stp _ ?_⟩
          · rw [q_fm, hq]
            simp only
            rw [if_neg (by rw [Bool.and_eq_true, decide_eq_true_eq]; exact fun w => Int32.not_lt.mpr z3 w.2)]
          · rw [q_fm, hq]
            simp only
            rw [if_pos (by rw [Bool.and_eq_true, decide_eq_true_eq]; exact ⟨x_b_ne.mp z, Int32.not_le.mp z3⟩)]
            rfl
theorem ok_X8_nextAmong {g : xG} (x y : Int32) (t : Nat) (ht : x_isA t 0 12) (M : xM) (n : Nat) (hn : n ≤ 20) (h : M 11 0 = nI n) (hok : ∀ w, w < n → q_ok M w) : mi_X8_nextAmong g x y t M (fun r N => r = q_on (q_nx (q_tf M (M t)) (bt x) (q_fr M y) n) ∧ N = M) := by
  refine wk_X8_nextAmong x y t ht M _ ?_
  unfold vc_X8_nextAmong
  refine mo_X8_freshOnes (ok_X8_freshOnes _ M n hn h) ?_
  rintro _ _ ⟨rfl, rfl⟩
  refine mo_X8_fewestTurnsAmong (ok_X8_fewestTurnsAmong _ t ht _ n hn h hok) ?_
  rintro _ N ⟨rfl, rfl⟩
  have e : q_fm (q_tf N (N t)) (bt (x &&& q_om N y n)) n = q_fm (q_tf N (N t)) (fun i => bt x i && q_fr N y i) n := by
    refine q_fm_cong (fun _ _ => rfl) (fun i hi => ?_)
    rw [b_and, q_om_bt (by omega) (by omega)]
    simp [q_fr, hi]
  rw [e]
  have lt : ∀ i, q_fm (q_tf N (N t)) (fun i => bt x i && q_fr N y i) n = some i → i < 5000 := fun i hi => by have := q_fm_lt hi; omega
  refine ⟨fun z => ?_, fun z => ⟨?_, rfl⟩⟩
  · rw [q_on_none lt] at z
    refine mo_X8_fewestTurnsAmong (ok_X8_fewestTurnsAmong _ t ht _ n hn h hok) ?_
    rintro _ _ ⟨rfl, rfl⟩
    exact ⟨by rw [q_nx, z], rfl⟩
  · rw [q_on_none lt] at z
    cases hq : q_fm (q_tf N (N t)) (fun i => bt x i && q_fr N y i) n with
    | none => exact absurd hq z
    | some i => rw [q_nx, hq]
theorem ok_X0_isReady {g : xG} (w : Nat) (M : xM) (n : Nat) (hw : w < n) (hn : n ≤ 20) (h : M 11 0 = nI n) : mi_X0_isReady g (nI w) M (fun r N => r = x_b (q_rd M w = true) ∧ N = M) := by
  refine wk_X0_isReady _ M _ ?_
  unfold vc_X0_isReady
  refine mo_X8_readyOnes (ok_X8_readyOnes _ M n hn h) ?_
  rintro _ _ ⟨rfl, rfl⟩
  refine mo_X9_isIn (ok_X9_isIn _ w (by omega) _) ?_
  rintro _ N ⟨rfl, rfl⟩
  refine ⟨x_b_nar, x_b_iff ?_, rfl⟩
  rw [q_om_bt (by omega) (by omega)]
  simp [q_rd, hw]
theorem q_next_eq {E : xM} {n : Nat} (hn : n ≤ 20) (e : q_w E = n) : q_nx (q_tf E (E 4)) (bt (q_om E (E 1 1 ^^^ -1) n)) (q_fr E (E 1 2)) n = q_next E := by
  unfold q_next
  rw [e]
  refine q_nx_cong (fun _ _ => rfl) (fun i hi => ?_) (fun _ _ => rfl)
  rw [q_om_bt (by omega) (by omega)]
  simp [q_rd, hi]
theorem q_w_of {M : xM} {n : Nat} (hn : n ≤ 20) (h : M 11 0 = nI n) : q_w M = n := by
  unfold q_w
  rw [h, x_cl (by omega)]
theorem ok_X0_nextWish {g : xG} (M : xM) (n : Nat) (hn : n ≤ 20) (h : M 11 0 = nI n) (hok : ∀ w, w < n → q_ok M w) : mi_X0_nextWish g M (fun r N => r = q_on (q_next M) ∧ N = M) := by
  refine wk_X0_nextWish M _ ?_
  unfold vc_X0_nextWish
  refine mo_X8_readyOnes (ok_X8_readyOnes _ M n hn h) ?_
  rintro _ _ ⟨rfl, rfl⟩
  refine mo_X8_nextAmong (ok_X8_nextAmong _ _ 4 xa_4 _ n hn h hok) ?_
  rintro _ N ⟨rfl, rfl⟩
  exact ⟨by rw [q_next_eq hn (q_w_of hn h)], rfl⟩
theorem ok_X0_lengthOfWish {g : xG} (w : Nat) (hw : w < 20) (M : xM) (h : q_ok M w) : mi_X0_lengthOfWish g (nI w) M (fun r N => r = M 9 (M 14 w).toNatClampNeg ∧ N = M) := by
  refine wk_X0_lengthOfWish _ M _ ?_
  unfold vc_X0_lengthOfWish
  rw [x_cl (by omega)]
  obtain ⟨-, -, s, h1, h2⟩ := h
  exact ⟨x_vi hw (by omega), by rw [h2]; exact x_vi h1 (by omega), rfl, rfl⟩
theorem ok_X8_numberWith {g : xG} (s : Nat) (hs : s < 32) (M : xM) (n : Nat) (hn : n ≤ 20) (h : M 11 0 = nI n) : mi_X8_numberWith g (nI s) M (fun r N => r = q_nw M s n ∧ N = M) := by
  refine wk_X8_numberWith _ M _ (fun k v1 v2 v3 N => ∃ i, i ≤ n ∧ k = n - i ∧ v3 = nI i ∧ v1 = nI s ∧ v2 = q_nw M s i ∧ N = M) ?_ ?_
  · unfold vc_X8_numberWith
    exact ⟨n, 0, by omega, by omega, rfl, rfl, rfl, rfl⟩
  · rintro k v1 v2 v3 N ⟨i, hi, rfl, rfl, rfl, rfl, rfl⟩
    unfold vc_X8_numberWith_1
    rw [h, x_le (by omega) (by omega)]
    refine ⟨fun q => ?_, fun q => ?_⟩
    · have : i = n := by omega
      subst this
      exact ⟨rfl, rfl⟩
    · refine mo_X8_singersOf (ok_X8_singersOf i (by omega) _) ?_
      rintro _ _ ⟨rfl, rfl⟩
      refine mo_X9_isIn (ok_X9_isIn _ s hs _) ?_
      rintro _ _ ⟨rfl, rfl⟩
      refine ⟨fun z => ⟨n - (i + 1), by omega, i + 1, by omega, rfl, nI_1 i, rfl, ?_, rfl⟩, fun z => ⟨n - (i + 1), by omega, i + 1, by omega, rfl, nI_1 i, rfl, ?_, rfl⟩⟩
      · rw [q_nw, if_neg (x_b_eq.mp z)]
      · rw [q_nw, if_pos (x_b_ne.mp z)]
