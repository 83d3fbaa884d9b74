/-! the reference: keys, the next wish -/
theorem WF_w {K : Nat} {E : xM} (h : WF K E) : q_w E ≤ 20 ∧ E 11 0 = nI (q_w E) := ⟨h.2.2.1.2, h.2.2.1.1⟩
theorem WF_s {K : Nat} {E : xM} (h : WF K E) : q_s E ≤ 12 ∧ E 1 0 = nI (q_s E) := ⟨h.1.2, h.1.1⟩
theorem WF_g {K : Nat} {E : xM} (h : WF K E) : q_g E ≤ 16 ∧ E 6 0 = nI (q_g E) := ⟨h.2.1.2, h.2.1.1⟩
theorem WF_p {K : Nat} {E : xM} (h : WF K E) : q_p E ≤ 12 ∧ E 15 0 = nI (q_p E) := ⟨h.2.2.2.1.2, h.2.2.2.1.1⟩
theorem RE_0 {K : Nat} {E : xM} {s : Nat → Int32} (hE : WF K E) (h : RE E s) : s 0 = nI (q_s E) := by rw [h.1.1, (WF_s hE).2]
theorem RE_1 {K : Nat} {E : xM} {s : Nat → Int32} (hE : WF K E) (h : RE E s) : s 1 = nI (q_g E) := by rw [h.1.2.1, (WF_g hE).2]
theorem RE_2 {K : Nat} {E : xM} {s : Nat → Int32} (hE : WF K E) (h : RE E s) : s 2 = nI (q_w E) := by rw [h.1.2.2.1, (WF_w hE).2]
theorem ok_X10_isReady {g : xG} (E M : xM) (K w : Nat) (hE : WF K E) (hw : w < q_w E) (h : RE E (M 194)) : mi_X10_isReady g (nI w) M (fun r N => r = x_b (q_rd E w = true) ∧ N = M) := by
  have := WF_w hE
  refine wk_X10_isReady _ M _ ?_
  unfold vc_X10_isReady
  refine mo_X10_singersOf (ok_X10_singersOf E M w (by omega) hw h) ?_
  rintro r N ⟨rfl, rfl⟩
  refine mo_X10_there (ok_X10_there E N K hE h) ?_
  rintro r N ⟨rfl, rfl⟩
  refine ⟨fun q => ⟨(x_b0 ?_).symm, rfl⟩, fun q => ⟨(x_b1 ?_).symm, rfl⟩⟩
  · rw [q_rd, decide_eq_true_eq]
    exact q
  · rw [q_rd, decide_eq_true_eq]
    exact q
theorem ok_X10_isFresh {g : xG} (E M : xM) (K w : Nat) (hE : WF K E) (hw : w < q_w E) (h : RE E (M 194)) : mi_X10_isFresh g (nI w) M (fun r N => r = x_b (q_fr E (E 1 2) w = true) ∧ N = M) := by
  have := WF_w hE
  refine wk_X10_isFresh _ M _ ?_
  unfold vc_X10_isFresh
  refine mo_X10_singersOf (ok_X10_singersOf E M w (by omega) hw h) ?_
  rintro r N ⟨rfl, rfl⟩
  rw [c_3, h.1.2.2.2.1]
  refine ⟨v_k (n := 3) 239 (by omega) (by omega) rfl, fun q => ⟨(x_b0 ?_).symm, rfl⟩, fun q => ⟨(x_b1 ?_).symm, rfl⟩⟩
  · rw [q_fr, decide_eq_true_eq]
    exact q
  · rw [q_fr, decide_eq_true_eq]
    exact q
theorem ok_X10_turnsFor {g : xG} (E M : xM) (K w : Nat) (hE : WF K E) (hw : w < q_w E) (h : RE E (M 194)) : mi_X10_turnsFor g (nI w) M (fun r N => r = q_tf E (E 4) w ∧ N = M) := by
  have hw2 := WF_w hE
  obtain ⟨e0, e1, -⟩ := RE_w h hw
  obtain ⟨⟨f, hf, ef⟩, ho, -⟩ := q_ok_of hE hw
  have tf := hE.2.2.2.2.2.1 f hf
  refine wk_X10_turnsFor _ M _ ?_
  unfold vc_X10_turnsFor
  refine mo_X10_wishPart (ok_X10_wishPart w 0 (by omega) (by omega) _) ?_
  rintro r N ⟨rfl, rfl⟩
  rw [e0, ef]
  refine mo_X10_singerPart (ok_X10_singerPart f 3 hf (by omega) _) ?_
  rintro r N ⟨rfl, rfl⟩
  refine mo_X10_wishPart (ok_X10_wishPart w 1 (by omega) (by omega) _) ?_
  rintro r N ⟨rfl, rfl⟩
  rw [e1, (RE_s h hf).2.2.2.1]
  refine ⟨fun q => ?_, fun q => ?_⟩
  · refine mo_X10_wishPart (ok_X10_wishPart w 1 (by omega) (by omega) _) ?_
    rintro r N ⟨rfl, rfl⟩
    rcases ho with ho | ⟨o, h1, h2⟩
    · exact absurd ho q
    · rw [e1, h2]
      refine mo_X10_singerPart (ok_X10_singerPart o 3 h1 (by omega) _) ?_
      rintro r N ⟨rfl, rfl⟩
      rw [(RE_s h h1).2.2.2.1, q_tf, if_neg q, ef, h2, x_cl (by omega), x_cl (by omega)]
      refine ⟨fun z => ⟨?_, rfl⟩, fun z => ⟨?_, rfl⟩⟩
      · by_cases z2 : E 4 f < E 4 o
        · rw [if_pos z2]
        · rw [if_neg z2]
          have : (E 4 f).toInt = (E 4 o).toInt := by
            rw [Int32.le_iff_toInt_le] at z
            rw [Int32.lt_iff_toInt_lt] at z2
            omega
          exact (Int32.toInt_inj.mp this).symm
      · rw [if_neg]
        intro z2
        rw [Int32.le_iff_toInt_le] at z
        rw [Int32.lt_iff_toInt_lt] at z2
        omega
  · rw [q_tf, if_pos q, ef, x_cl (by omega)]
    refine ⟨fun z => ⟨?_, rfl⟩, fun z => ⟨rfl, rfl⟩⟩
    have : (E 4 f).toInt = (0 : Int32).toInt := by
      rw [Int32.le_iff_toInt_le] at z
      have h0 : (0 : Int32).toInt = 0 := rfl
      omega
    exact (Int32.toInt_inj.mp this).symm
theorem ok_X10_nextOf {g : xG} (E M : xM) (K : Nat) (f : Bool) (v : Int32) (hv : v = if f = true then 1 else 0) (hE : WF K E) (h : RE E (M 194)) : mi_X10_nextOf g v M (fun r N => r = q_on (q_fm (q_tf E (E 4)) (fun i => q_rd E i && (!f || q_fr E (E 1 2) i)) (q_w E)) ∧ N = M) := by
  obtain ⟨hn, h11⟩ := WF_w hE
  have hv0 : v = 0 ↔ f = false := by
    rw [hv]
    cases f <;> simp <;> decide
  refine wk_X10_nextOf _ M _ (fun k v1 v2 v3 N => ∃ i, i ≤ q_w E ∧ k = q_w E - i ∧ v1 = v ∧ v2 = q_on (q_fm (q_tf E (E 4)) (fun i => q_rd E i && (!f || q_fr E (E 1 2) i)) i) ∧ v3 = nI i ∧ N = M) ?_ ?_
  · unfold vc_X10_nextOf
    exact ⟨q_w E, 0, by omega, by omega, rfl, rfl, rfl, rfl⟩
  · rintro k v v2 v3 N ⟨i, hi, rfl, rfl, rfl, rfl, rfl⟩
    unfold vc_X10_nextOf_1
    rw [c_2, RE_2 hE h, x_le (by omega) (by omega)]
    refine ⟨v_k (n := 2) 239 (by omega) (by omega) rfl, fun q => ?_, fun q => ?_⟩
    · have : i = q_w E := by omega
      subst this
      exact ⟨rfl, rfl⟩
    · generalize hp : (fun i => q_rd E i && (!f || q_fr E (E 1 2) i)) = p at *
      have hpi : p i = (q_rd E i && (!f || q_fr E (E 1 2) i)) := by rw [← hp]
      have stp : ∀ u, q_on (q_fm (q_tf E (E 4)) p (i + 1)) = u → ∃ k, k < q_w E - i ∧ ∃ i', i' ≤ q_w E ∧ k = q_w E - i' ∧ v = v ∧ u = q_on (q_fm (q_tf E (E 4)) p i') ∧ nI i + 1 = nI i' ∧ N = N := fun u hu => ⟨q_w E - (i + 1), by omega, i + 1, by omega, rfl, rfl, hu.symm, nI_1 i, rfl⟩
      have no : p i = false → q_on (q_fm (q_tf E (E 4)) p (i + 1)) = q_on (q_fm (q_tf E (E 4)) p i) := by
        intro z
        rw [q_fm]
        cases q_fm (q_tf E (E 4)) p i with
        | none => simp [z]
        | some j => simp [z]
      -- what comes once the wish counts
      have yes : p i = true → ((q_on (q_fm (q_tf E (E 4)) p i) = (-6 : Int32) → q_on (q_fm (q_tf E (E 4)) p (i + 1)) = nI i) ∧ (¬ q_on (q_fm (q_tf E (E 4)) p i) = (-6 : Int32) → ∃ j, j < i ∧ q_on (q_fm (q_tf E (E 4)) p i) = nI j ∧ (q_tf E (E 4) j ≤ q_tf E (E 4) i → q_on (q_fm (q_tf E (E 4)) p (i + 1)) = q_on (q_fm (q_tf E (E 4)) p i)) ∧ (¬ q_tf E (E 4) j ≤ q_tf E (E 4) i → q_on (q_fm (q_tf E (E 4)) p (i + 1)) = nI i))) := by
        intro z
        cases hq : q_fm (q_tf E (E 4)) p i with
        | none =>
          refine ⟨fun _ => ?_, fun w => absurd rfl w⟩
          rw [q_fm, hq]
          simp [z, q_on]
        | some j =>
          have hj := q_fm_lt hq
          refine ⟨fun w => absurd w (x_nm6 (by omega)), fun _ => ⟨j, hj.1, rfl, fun w => ?_, fun w => ?_⟩⟩
          · rw [q_fm, hq]
            simp only [z, Bool.true_and]
            rw [if_neg (by rw [decide_eq_true_eq]; exact Int32.not_lt.mpr w)]
          · rw [q_fm, hq]
            simp only [z, Bool.true_and]
            rw [if_pos (by rw [decide_eq_true_eq]; exact Int32.not_le.mp w)]
            rfl
      refine mo_X10_isReady (ok_X10_isReady E N K i hE (by omega) h) ?_
      rintro r N ⟨rfl, rfl⟩
      refine ⟨fun z => ?_, fun z => ?_⟩
      · have z := x_b_eq.mp z
        exact stp _ (no (by rw [hpi]; simp [z]))
      · have z := x_b_ne.mp z
        rw [hv0]
        refine ⟨fun z2 => ?_, fun z2 => ?_⟩
        · have hy := yes (by rw [hpi]; simp [z, z2])
          refine ⟨fun w => stp _ (hy.1 w), fun w => ?_⟩
          obtain ⟨j, hj, ej, y1, y2⟩ := hy.2 w
          refine mo_X10_turnsFor (ok_X10_turnsFor E N K i hE (by omega) h) ?_
          rintro r N ⟨rfl, rfl⟩
          rw [ej]
          refine mo_X10_turnsFor (ok_X10_turnsFor E N K j hE (by omega) h) ?_
          rintro r N ⟨rfl, rfl⟩
          rw [← ej]
          exact ⟨fun w2 => stp _ (y1 w2), fun w2 => stp _ (y2 w2)⟩
        · refine mo_X10_isFresh (ok_X10_isFresh E N K i hE (by omega) h) ?_
          rintro r N ⟨rfl, rfl⟩
          refine ⟨fun z3 => ?_, fun z3 => ?_⟩
          · have z3 := x_b_eq.mp z3
            exact stp _ (no (by rw [hpi]; simp [z2, z3]))
          · have z3 := x_b_ne.mp z3
            have hy := yes (by rw [hpi]; simp [z, z3])
            refine ⟨fun w => stp _ (hy.1 w), fun w => ?_⟩
            obtain ⟨j, hj, ej, y1, y2⟩ := hy.2 w
            refine mo_X10_turnsFor (ok_X10_turnsFor E N K i hE (by omega) h) ?_
            rintro r N ⟨rfl, rfl⟩
            rw [ej]
            refine mo_X10_turnsFor (ok_X10_turnsFor E N K j hE (by omega) h) ?_
            rintro r N ⟨rfl, rfl⟩
            rw [← ej]
            exact ⟨fun w2 => stp _ (y1 w2), fun w2 => stp _ (y2 w2)⟩
theorem ok_X10_nextWish {g : xG} (E M : xM) (K : Nat) (hE : WF K E) (h : RE E (M 194)) : mi_X10_nextWish g M (fun r N => r = q_on (q_next E) ∧ N = M) := by
  obtain ⟨hn, -⟩ := WF_w hE
  refine wk_X10_nextWish M _ ?_
  unfold vc_X10_nextWish
  refine mo_X10_nextOf (ok_X10_nextOf E M K true 1 rfl hE h) ?_
  rintro r N ⟨rfl, rfl⟩
  have e1 : q_fm (q_tf E (E 4)) (fun i => q_rd E i && (!true || q_fr E (E 1 2) i)) (q_w E) = q_fm (q_tf E (E 4)) (fun i => q_rd E i && q_fr E (E 1 2) i) (q_w E) := q_fm_cong (fun _ _ => rfl) (fun i _ => by simp)
  rw [e1]
  have lt : ∀ i, q_fm (q_tf E (E 4)) (fun i => q_rd E i && q_fr E (E 1 2) i) (q_w E) = some i → i < 5000 := fun i hi => by have := q_fm_lt hi; omega
  rw [q_on_none lt]
  unfold q_next q_nx
  refine ⟨fun z => ⟨?_, rfl⟩, fun z => ?_⟩
  · cases hq : q_fm (q_tf E (E 4)) (fun i => q_rd E i && q_fr E (E 1 2) i) (q_w E) with
    | none => exact absurd hq z
    | some i => rfl
  · refine mo_X10_nextOf (ok_X10_nextOf E N K false 0 rfl hE h) ?_
    rintro r N ⟨rfl, rfl⟩
    refine ⟨?_, rfl⟩
    rw [z]
    simp only
    congr 1
    exact q_fm_cong (fun _ _ => rfl) (fun i _ => by simp)
theorem ok_X10_wishesOf {g : xG} (E M : xM) (K s : Nat) (hs : s < 32) (hE : WF K E) (h : RE E (M 194)) : mi_X10_wishesOf g (nI s) M (fun r N => r = q_nw E s (q_w E) ∧ N = M) := by
  obtain ⟨hn, -⟩ := WF_w hE
  refine wk_X10_wishesOf _ M _ (fun k v1 v2 v3 N => ∃ i, i ≤ q_w E ∧ k = q_w E - i ∧ v1 = nI s ∧ v2 = q_nw E s i ∧ v3 = nI i ∧ N = M) ?_ ?_
  · unfold vc_X10_wishesOf
    exact ⟨q_w E, 0, by omega, by omega, rfl, rfl, rfl, rfl⟩
  · rintro k v1 v2 v3 N ⟨i, hi, rfl, rfl, rfl, rfl, rfl⟩
    unfold vc_X10_wishesOf_1
    rw [c_2, RE_2 hE h, x_le (by omega) (by omega)]
    refine ⟨v_k (n := 2) 239 (by omega) (by omega) rfl, fun q => ?_, fun q => ?_⟩
    · have : i = q_w E := by omega
      subst this
      exact ⟨rfl, rfl⟩
    · refine mo_X10_singersOf (ok_X10_singersOf E N i (by omega) (by omega) h) ?_
      rintro r N ⟨rfl, rfl⟩
      refine ⟨q_w E - (i + 1), by omega, i + 1, by omega, rfl, rfl, ?_, nI_1 i, rfl⟩
      rw [x_bit01 hs, q_nw]
      split
      · rfl
      · exact Int32.add_zero _
theorem ok_X10_readyMany {g : xG} (E M : xM) (K : Nat) (hE : WF K E) (h : RE E (M 194)) : mi_X10_readyMany g M (fun r N => r = nI (q_cn (q_rd E) (q_w E)) ∧ N = M) := by
  obtain ⟨hn, -⟩ := WF_w hE
  refine wk_X10_readyMany M _ (fun k v1 v2 N => ∃ i, i ≤ q_w E ∧ k = q_w E - i ∧ v1 = nI (q_cn (q_rd E) i) ∧ v2 = nI i ∧ N = M) ?_ ?_
  · unfold vc_X10_readyMany
    exact ⟨q_w E, 0, by omega, by omega, rfl, rfl, rfl⟩
  · rintro k v1 v2 N ⟨i, hi, rfl, rfl, rfl, rfl⟩
    unfold vc_X10_readyMany_1
    rw [c_2, RE_2 hE h, x_le (by omega) (by omega)]
    refine ⟨v_k (n := 2) 239 (by omega) (by omega) rfl, fun q => ?_, fun q => ?_⟩
    · have : i = q_w E := by omega
      subst this
      exact ⟨rfl, rfl⟩
    · refine mo_X10_isReady (ok_X10_isReady E N K i hE (by omega) h) ?_
      rintro r N ⟨rfl, rfl⟩
      refine ⟨fun z => ⟨q_w E - (i + 1), by omega, i + 1, by omega, rfl, ?_, nI_1 i, rfl⟩, fun z => ⟨q_w E - (i + 1), by omega, i + 1, by omega, rfl, ?_, nI_1 i, rfl⟩⟩
      · rw [q_cn, if_neg (x_b_eq.mp z), Int32.add_zero]
        rfl
      · rw [q_cn, if_pos (x_b_ne.mp z)]
        exact nI_1 _
