def q_an (t : Nat → Int32) (x : Int32) (n : Nat) : Nat → Int32 := fun k => if k < n ∧ bt x k = true then t k + 1 else t k
def q_at (t : Nat → Int32) (x : Int32) : Nat → Int32 := q_an t x 12
theorem ok_X5_addTurn {g : xG} (x : Int32) (M : xM) : mi_X5_addTurn g x M (fun N => N = x_row M 192 (q_at (M 192) x)) := by
  refine wk_X5_addTurn x M _ (fun k v1 v2 N => ∃ i, i ≤ 12 ∧ k = 12 - i ∧ v2 = nI i ∧ v1 = x ∧ N = x_row M 192 (q_an (M 192) x i)) ?_ ?_
  · unfold vc_X5_addTurn
    refine ⟨12, 0, by omega, by omega, rfl, rfl, ?_⟩
    funext a
    by_cases ha : a = 192
    · subst ha
      funext k
      simp [x_row, q_an]
    · rw [x_row_other ha]
  · rintro k x v2 N ⟨i, hi, rfl, rfl, rfl, rfl⟩
    unfold vc_X5_addTurn_1
    rw [show (12 : Int32) = nI 12 from rfl, x_le (by omega) (by omega), nI_1]
    refine ⟨fun q => ?_, fun q => ?_⟩
    · have : i = 12 := by omega
      subst this
      rfl
    · refine mo_X9_isIn (ok_X9_isIn _ i (by omega) _) ?_
      rintro r N ⟨rfl, rfl⟩
      have v : vp_in (nI i) 12 := x_vi (by omega) (by omega)
      rw [x_cl (by omega)]
      refine ⟨fun z => ⟨12 - (i + 1), by omega, i + 1, by omega, rfl, rfl, rfl, ?_⟩, fun z => ⟨v, v, 12 - (i + 1), by omega, i + 1, by omega, rfl, rfl, rfl, ?_⟩⟩
      · have z := x_b_eq.mp z
        funext a
        by_cases ha : a = 192
        · subst ha
          rw [x_row_same, x_row_same]
          funext k
          simp only [q_an]
          grind
        · rw [x_row_other ha, x_row_other ha]
      · have z := x_b_ne.mp z
        funext a
        by_cases ha : a = 192
        · subst ha
          rw [x_up_same, x_row_same, x_row_same]
          funext k
          simp only [upd, q_an]
          grind
        · rw [x_up_other ha, x_row_other ha, x_row_other ha]
def q_no (W : Int32) (i : Nat) : Int32 := W &&& (((1 : Int32) <<< (nI i &&& 31)) ^^^ -1)
theorem q_no_bt {W : Int32} {i j : Nat} (hi : i < 32) (hj : j < 32) : bt (q_no W i) j = (bt W j && decide (j ≠ i)) := by
  unfold q_no
  rw [b_and, b_not hj, b_one hi hj]
  by_cases q : j = i <;> simp [q]
def q_la (E : xM) (wish : Nat) : Nat → Int32 → Int32 → (Nat → Int32) → Int32 → Nat → Nat × Int32
  | 0, _, _, _, mn, c => (c, mn)
  | f + 1, W, y, t, mn, c => match q_nx (q_tf E t) (bt W) (q_fr E y) (q_w E) with
    | none => (c, mn)
    | some i => if i = wish then (c, mn) else q_la E wish f (q_no W i) (q_ss E i) (q_at t (q_ss E i)) (mn + E 9 (E 14 i).toNatClampNeg) (c + 1)
theorem q_tf_cong {E : xM} {t t' : Nat → Int32} {w : Nat} (h : q_ok E w) (ht : ∀ k, k < 12 → t k = t' k) : q_tf E t w = q_tf E t' w := by
  obtain ⟨⟨f, hf, ef⟩, ho, -⟩ := h
  unfold q_tf
  rw [ef, x_cl (by omega), ht f hf]
  rcases ho with ho | ⟨o, h1, h2⟩
  · rw [if_pos ho, if_pos ho]
  · rw [h2, x_cl (by omega), ht o h1]
theorem q_la_cong {E : xM} {wish : Nat} (hok : ∀ w, w < q_w E → q_ok E w) : ∀ (f : Nat) (W y : Int32) (t t' : Nat → Int32) (mn : Int32) (c : Nat), (∀ k, k < 12 → t k = t' k) → q_la E wish f W y t mn c = q_la E wish f W y t' mn c
  | 0, _, _, _, _, _, _, _ => rfl
  | f + 1, W, y, t, t', mn, c, ht => by
    unfold q_la
    rw [q_nx_cong (c := q_tf E t) (c' := q_tf E t') (fun i hi => q_tf_cong (hok i hi) ht) (fun _ _ => rfl) (fun _ _ => rfl)]
    cases q_nx (q_tf E t') (bt W) (q_fr E y) (q_w E) with
    | none => rfl
    | some i =>
      simp only
      split
      · rfl
      · exact q_la_cong hok f _ _ _ _ _ _ (fun k hk => by simp only [q_at, q_an, ht k hk])
theorem q_tf_row {E E' : xM} (h12 : E' 12 = E 12) (h13 : E' 13 = E 13) (t : Nat → Int32) : q_tf E' t = q_tf E t := by
  funext w
  unfold q_tf
  rw [h12, h13]
theorem q_fr_row {E E' : xM} (h12 : E' 12 = E 12) (h13 : E' 13 = E 13) (y : Int32) : q_fr E' y = q_fr E y := by
  funext w
  unfold q_fr
  rw [q_ss_cong (by rw [h12]) (by rw [h13])]
def q_wait (E : xM) (miss : Option Nat) : Int32 := match miss with
  | none => q_om E (E 1 1 ^^^ -1) (q_w E)
  | some i => q_no (q_om E (E 1 1 ^^^ -1) (q_w E)) i
theorem ok_X5_lookAhead {g : xG} (wish : Nat) (miss : Option Nat) (hm : ∀ i, miss = some i → i < 20) (M : xM) (K : Nat) (h : WF K M) (hw : wish < q_w M) : mi_X5_lookAhead g (nI wish) (q_on miss) M (fun N => (∃ r : Nat × Int32, r = q_la M wish 20 (q_wait M miss) (M 1 2) (M 4) (M 0 4) 0 ∧ N 191 1 = nI r.1 ∧ N 191 2 = r.2) ∧ ∀ a, a ≠ 191 → a ≠ 192 → N a = M a) := by
  have hok : ∀ w, w < q_w M → q_ok M w := fun w hw => q_ok_of h hw
  obtain ⟨-, -, ⟨hw1, hw2⟩, -⟩ := h
  generalize hR : q_la M wish 20 (q_wait M miss) (M 1 2) (M 4) (M 0 4) 0 = R
  refine wk_X5_lookAhead _ _ M _ (fun k v2 v5 v6 N => ∃ c, c ≤ 20 ∧ k = 20 - c ∧ v2 = nI wish ∧ N 191 1 = nI c ∧ (∀ a, a ≠ 191 → a ≠ 192 → N a = M a) ∧ q_la M wish (20 - c) v5 v6 (N 192) (N 191 2) c = R) ?_ ?_
  · unfold vc_X5_lookAhead
    refine mo_X9_copyRow (ok_X9_copyRow 4 192 xa_4 xa_192 (by omega) M) ?_
    rintro N ⟨hc, ho⟩
    have e1 : N 1 = M 1 := ho 1 (by decide)
    have e0 : N 0 = M 0 := ho 0 (by decide)
    have e11 : N 11 = M 11 := ho 11 (by decide)
    have e12 : N 12 = M 12 := ho 12 (by decide)
    have e13 : N 13 = M 13 := ho 13 (by decide)
    refine mo_X8_readyOnes (ok_X8_readyOnes _ N (q_w M) hw2 (by rw [e11]; exact hw1)) ?_
    rintro r N ⟨rfl, rfl⟩
    have eom : q_om N (N 1 1 ^^^ -1) (q_w M) = q_om M (M 1 1 ^^^ -1) (q_w M) := by
      rw [e1]
      exact q_om_cong fun i _ => q_ss_cong (by rw [e12]) (by rw [e13])
    rw [eom]
    have fin : ∀ W, (q_wait M miss) = W → ∃ k, ∃ c, c ≤ 20 ∧ k = 20 - c ∧ nI wish = nI wish ∧ (x_up (x_up N 191 2 (N 0 4)) 191 1 0) 191 1 = nI c ∧ (∀ a, a ≠ 191 → a ≠ 192 → (x_up (x_up N 191 2 (N 0 4)) 191 1 0) a = M a) ∧ q_la M wish (20 - c) W (N 1 2) ((x_up (x_up N 191 2 (N 0 4)) 191 1 0) 192) ((x_up (x_up N 191 2 (N 0 4)) 191 1 0) 191 2) c = R := by
      intro W hW
      refine ⟨20, 0, by omega, by omega, rfl, by simp [x_up, nI_0], fun a h1 h2 => by rw [x_up_other h1, x_up_other h1, ho a h2], ?_⟩
      rw [← hR, hW, x_up_other (by decide), x_up_other (by decide), e1, e0]
      have e2 : (x_up (x_up N 191 2 (M 0 4)) 191 1 0) 191 2 = M 0 4 := by simp [x_up]
      rw [e2]
      exact q_la_cong hok 20 _ _ _ _ _ _ hc
    have lt5 : ∀ i, miss = some i → i < 5000 := fun i hi => by have := hm i hi; omega
    refine ⟨fun q => ?_, fun q => ?_⟩
    · rw [q_on_none lt5] at q
      exact fin _ (by rw [q]; rfl)
    · rw [q_on_none lt5] at q
      cases miss with
      | none => exact absurd rfl q
      | some i => exact fin _ rfl
  · rintro k v2 W y N ⟨c, hc, rfl, rfl, hcnt, ho, hla⟩
    unfold vc_X5_lookAhead_1
    rw [hcnt, show (20 : Int32) = nI 20 from rfl, x_le (by omega) (by omega)]
    refine ⟨fun q => ?_, fun q => ?_⟩
    · have : c = 20 := by omega
      subst this
      exact ⟨⟨R, rfl, by rw [hcnt, ← hla]; rfl, by rw [← hla]; rfl⟩, ho⟩
    · have e9 : N 9 = M 9 := ho 9 (by decide) (by decide)
      have e11 : N 11 = M 11 := ho 11 (by decide) (by decide)
      have e12 : N 12 = M 12 := ho 12 (by decide) (by decide)
      have e13 : N 13 = M 13 := ho 13 (by decide) (by decide)
      have e14 : N 14 = M 14 := ho 14 (by decide) (by decide)
      have okN : ∀ w, w < q_w M → q_ok N w := fun w hw => by
        have := hok w hw
        unfold q_ok at this ⊢
        rw [e12, e13, e14]
        exact this
      obtain ⟨f, hf⟩ : ∃ f, 20 - c = f + 1 := ⟨20 - c - 1, by omega⟩
      rw [hf] at hla
      unfold q_la at hla
      refine mo_X8_nextAmong (ok_X8_nextAmong W y 192 xa_192 N (q_w M) hw2 (by rw [e11]; exact hw1) okN) ?_
      rintro r N ⟨rfl, rfl⟩
      rw [q_tf_row e12 e13, q_fr_row e12 e13]
      cases hq : q_nx (q_tf M (N 192)) (bt W) (q_fr M y) (q_w M) with
      | none =>
        rw [hq] at hla
        have done : (∃ r : Nat × Int32, r = R ∧ N 191 1 = nI r.1 ∧ N 191 2 = r.2) ∧ ∀ a, a ≠ 191 → a ≠ 192 → N a = M a := ⟨⟨R, rfl, by rw [hcnt, ← hla], by rw [← hla]⟩, ho⟩
        exact ⟨fun z => done, fun _ => ⟨fun z => absurd rfl z, fun _ => done⟩⟩
      | some i =>
        have hi := (q_nx_lt hq).1
        rw [hq] at hla
        simp only at hla
        refine ⟨fun z => ?_, fun z => ⟨fun _ => ?_, fun z2 => absurd z2 (x_nm6 (by omega))⟩⟩
        · have z : nI i = nI wish := z
          rw [x_eq (by omega) (by omega)] at z
          rw [if_pos z] at hla
          exact ⟨⟨R, rfl, by rw [hcnt, ← hla], by rw [← hla]⟩, ho⟩
        · have z : ¬ nI i = nI wish := z
          rw [x_eq (by omega) (by omega)] at z
          rw [if_neg z] at hla
          refine mo_X0_lengthOfWish (ok_X0_lengthOfWish i (by omega) N (okN i hi)) ?_
          rintro r N ⟨rfl, rfl⟩
          refine mo_X8_singersOf (ok_X8_singersOf i (by omega) _) ?_
          rintro r N2 ⟨rfl, rfl⟩
          refine mo_X5_addTurn (ok_X5_addTurn _ _) ?_
          rintro N2 rfl
          have es : q_ss (x_up N 191 2 (N 191 2 + N 9 (N 14 i).toNatClampNeg)) i = q_ss M i := q_ss_cong (by rw [x_up_other (by decide), e12]) (by rw [x_up_other (by decide), e13])
          rw [es]
          refine ⟨20 - (c + 1), by omega, c + 1, by omega, rfl, rfl, ?_, fun a h1 h2 => ?_, ?_⟩
          · simp [x_up, x_row, hcnt, nI_1]
          · rw [x_up_other h1, x_row_other h2, x_up_other h1, ho a h1 h2]
          · rw [← hla]
            have ef : 20 - (c + 1) = f := by omega
            rw [ef]
            simp [x_up, x_row, q_no, e9, e14]
            congr 1
