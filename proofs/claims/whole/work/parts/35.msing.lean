/-! the reference: a wish is sung -/
theorem q_sg_eq (E : xM) (w u : Nat) (hu : (E 14 w).toNatClampNeg = u) : q_sg E w = (
  let F1 := q_st (q_re E (E 12 w) (E 13 w) (E 14 w) (E 0 4)) (q_ss E w) (E 9 u) (q_s E)
  let F2 := x_up F1 10 u (F1 10 u + 1)
  let F3 := x_up F2 1 2 (q_ss E w)
  let F4 := x_up F3 0 4 (F3 0 4 + E 9 u)
  q_rm (x_up F4 0 5 (F4 0 5 + 1)) w) := by
  unfold q_sg
  simp only [hu]
  congr 1
  funext a k
  simp only [x_up]
  grind
theorem ok_X10_singWish {g : xG} (E M : xM) (K w : Nat) (hE : WF K E) (hw : w < q_w E) (h : RE E (M 194)) : mi_X10_singWish g (nI w) M (fun N => RE (q_sg E w) (N 194) ∧ ∀ a, a ≠ 194 → N a = M a) := by
  obtain ⟨hn, h11⟩ := WF_w hE
  obtain ⟨hs, h10⟩ := WF_s hE
  obtain ⟨-, -, u, hu, eu⟩ := q_ok_of hE hw
  obtain ⟨w0, w1, w2⟩ := RE_w h hw
  generalize hF : (fun i => q_st (q_re E (E 12 w) (E 13 w) (E 14 w) (E 0 4)) (q_ss E w) (E 9 u) i) = F
  have hFi : ∀ i, F i = q_st (q_re E (E 12 w) (E 13 w) (E 14 w) (E 0 4)) (q_ss E w) (E 9 u) i := fun i => by rw [← hF]
  refine wk_X10_singWish _ M _ (fun k v1 v2 v3 v4 v5 N => ∃ i, i ≤ q_s E ∧ k = q_s E - i ∧ v1 = nI w ∧ v2 = q_ss E w ∧ v3 = nI u ∧ v4 = E 9 u ∧ v5 = nI i ∧ RE (F i) (N 194) ∧ ∀ a, a ≠ 194 → N a = M a) ?_ ?_
  · unfold vc_X10_singWish
    refine mo_X10_singersOf (ok_X10_singersOf E M w (by omega) hw h) ?_
    rintro r M ⟨rfl, rfl⟩
    refine mo_X10_wishPart (ok_X10_wishPart w 2 (by omega) (by omega) _) ?_
    rintro r M ⟨rfl, rfl⟩
    rw [w2, eu]
    refine mo_X10_songPart (ok_X10_songPart u 2 hu (by omega) _) ?_
    rintro r M ⟨rfl, rfl⟩
    rw [(RE_g h hu).2.2.1]
    refine mo_X10_remember (ok_X10_remember E M K w hE hw h) ?_
    rintro N ⟨hr, ho⟩
    exact ⟨q_s E, 0, by omega, by omega, rfl, rfl, rfl, rfl, rfl, by rw [hFi, q_st_0]; exact hr, ho⟩
  · rintro k v1 v2 v3 v4 v5 N ⟨i, hi, rfl, rfl, rfl, rfl, rfl, rfl, hr, ho⟩
    unfold vc_X10_singWish_1
    have f10 : F i 1 0 = nI (q_s E) := by rw [hFi]; simpa [q_st, q_re] using h10
    have n0 : N 194 0 = nI (q_s E) := by rw [hr.1.1, f10]
    rw [c_0, n0, x_le (by omega) (by omega), ix_g' u, x_cl (by omega), c_3, c_4, c_5]
    refine ⟨v_k (n := 0) 239 (by omega) (by omega) rfl, fun q => ?_, fun q => ?_⟩
    · have : i = q_s E := by omega
      subst this
      have vi : vp_in (nI (70 + 4 * u)) 239 := x_vi (by omega) (by omega)
      have v3 : vp_in (3 : Int32) 239 := v_k (n := 3) 239 (by omega) (by omega) rfl
      have v4 : vp_in (4 : Int32) 239 := v_k (n := 4) 239 (by omega) (by omega) rfl
      have v5 : vp_in (5 : Int32) 239 := v_k (n := 5) 239 (by omega) (by omega) rfl
      refine ⟨vi, vi, ?_⟩
      intro N8 h8
      refine ⟨v3, v4, v4, ?_⟩
      intro N9 h9
      refine ⟨v5, v5, ?_⟩
      have e70 : N 194 (70 + 4 * u) = F (q_s E) 10 u := (hr.2.2.1 u hu).2.2.2
      have r8 := RE_up_su hr u hu (F (q_s E) 10 u + 1)
      generalize hF2 : x_up (F (q_s E)) 10 u (F (q_s E) 10 u + 1) = F2 at r8
      have r9 := RE_up_t r8 (q_ss E w)
      generalize hF3 : x_up F2 1 2 (q_ss E w) = F3 at r9
      have r9b := RE_up_m r9 (F3 0 4 + E 9 u)
      generalize hF4 : x_up F3 0 4 (F3 0 4 + E 9 u) = F4 at r9b
      have r9c := RE_up_n r9b (F4 0 5 + 1)
      generalize hF5 : x_up F4 0 5 (F4 0 5 + 1) = F5 at r9c
      have s8 : N8 194 = upd (N 194) (70 + 4 * u) (F (q_s E) 10 u + 1) := by rw [h8, e70, x_up_same]
      have s9 : N9 194 = upd (upd (N8 194) 3 (q_ss E w)) 4 (F3 0 4 + E 9 u) := by
        rw [h9, x_up_same, x_up_same]
        congr 2
        rw [pk_un (show (4 : Nat) ≠ 3 by decide), s8, ← r9.1.2.2.2.2.1]
        exact (pk_un (show (4 : Nat) ≠ 3 by decide)).symm
      have s10 : x_up N9 194 5 (N9 194 5 + 1) 194 = upd (upd (upd (upd (N 194) (70 + 4 * u) (F (q_s E) 10 u + 1)) 3 (q_ss E w)) 4 (F3 0 4 + E 9 u)) 5 (F4 0 5 + 1) := by
        rw [x_up_same, s9, s8]
        congr 2
        exact r9b.1.2.2.2.2.2.1
      have w5 : q_w F5 = q_w E := by
        rw [← hF5, ← hF4, ← hF3, ← hF2, hFi]
        simp [q_w, x_up, q_st, q_re]
      have f11 : F5 11 0 = nI (q_w E) := by
        rw [← hF5, ← hF4, ← hF3, ← hF2, hFi]
        simpa [x_up, q_st, q_re] using h11
      rw [← s10] at r9c
      refine mo_X10_remove (ok_X10_remove F5 _ w (by omega) (by rw [w5]; exact f11) (by omega) r9c) ?_
      rintro N10 ⟨hr10, ho10⟩
      refine ⟨?_, fun a ha => by rw [ho10 a ha, x_up_other ha, h9, x_up_other ha, x_up_other ha, h8, x_up_other ha, ho a ha]⟩
      have := q_sg_eq E w u (by rw [eu, x_cl (by omega)])
      rw [this, ← hFi]
      simp only [hF2, hF3, hF4, hF5]
      exact hr10
    · have stp : ∀ N : xM, RE (F (i + 1)) (N 194) → (∀ a, a ≠ 194 → N a = M a) → ∃ k, k < q_s E - i ∧ ∃ i', i' ≤ q_s E ∧ k = q_s E - i' ∧ nI w = nI w ∧ q_ss E w = q_ss E w ∧ nI u = nI u ∧ E 9 u = E 9 u ∧ nI i + 1 = nI i' ∧ RE (F i') (N 194) ∧ ∀ a, a ≠ 194 → N a = M a := fun N h1 h2 => ⟨q_s E - (i + 1), by omega, i + 1, by omega, rfl, rfl, rfl, rfl, rfl, nI_1 i, h1, h2⟩
      rw [x_bit (by omega)]
      refine ⟨fun z => stp N ?_ ho, fun z => ?_⟩
      · rw [hFi, ← q_st_n _ _ _ i z, ← hFi]
        exact hr
      · refine mo_X10_singerPart (ok_X10_singerPart i 3 (by omega) (by omega) _) ?_
        rintro r N ⟨rfl, rfl⟩
        refine mo_X10_setSinger (ok_X10_setSinger i 3 (by omega) (by omega) _ _) ?_
        rintro N2 rfl
        have i3 : 7 + 5 * i + 3 = 10 + 5 * i := by omega
        have i4 : 7 + 5 * i + 4 = 11 + 5 * i := by omega
        have e3 : N 194 (10 + 5 * i) = F i 4 i := (hr.2.1 i (by omega)).2.2.2.1
        have r1 := RE_up_tu hr i (by omega) (F i 4 i + 1)
        have r2 := RE_up_mi r1 i (by omega) (x_up (F i) 4 i (F i 4 i + 1) 5 i + E 9 u)
        refine mo_X10_singerPart (ok_X10_singerPart i 4 (by omega) (by omega) _) ?_
        rintro r N2 ⟨rfl, rfl⟩
        refine mo_X10_setSinger (ok_X10_setSinger i 4 (by omega) (by omega) _ _) ?_
        rintro N2 rfl
        rw [i3, i4, e3]
        refine stp _ ?_ (fun a ha => by rw [x_up_other ha, x_up_other ha, ho a ha])
        have e4 : x_up N 194 (10 + 5 * i) (F i 4 i + 1) 194 (11 + 5 * i) = x_up (F i) 4 i (F i 4 i + 1) 5 i := by
          rw [x_up_same]
          exact (r1.2.1 i (by omega)).2.2.2.2
        rw [e4, x_up_same, x_up_same, hFi (i + 1), ← q_st_y _ _ _ i z, ← hFi]
        exact r2
