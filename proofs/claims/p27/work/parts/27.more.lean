theorem x_up_up {M : xM} {a k : Nat} {u v : Int32} : x_up (x_up M a k u) a k v = x_up M a k v := by
  funext b j
  simp only [x_up]
  grind
theorem x_up_id {M : xM} {a k : Nat} {v : Int32} (h : M a k = v) : x_up M a k v = M := by
  funext b j
  simp only [x_up]
  grind
theorem wb_of32 (x : Int32) : ∃ n, n < 2 ^ 32 ∧ x = nI n := ⟨x.toBitVec.toNat, x.toBitVec.isLt, Int32.toBitVec_inj.mp (by show _ = BitVec.ofNat 32 _; simp)⟩
def q_cn (p : Nat → Bool) : Nat → Nat
  | 0 => 0
  | n + 1 => q_cn p n + if p n = true then 1 else 0
theorem q_cn_cong {p p' : Nat → Bool} : ∀ {n : Nat}, (∀ i, i < n → p i = p' i) → q_cn p n = q_cn p' n
  | 0, _ => rfl
  | n + 1, h => by rw [q_cn, q_cn, q_cn_cong (fun i hi => h i (by omega)), h n (by omega)]
theorem q_cn_le {p : Nat → Bool} : ∀ {n : Nat}, q_cn p n ≤ n
  | 0 => Nat.le_refl _
  | n + 1 => by
    have := q_cn_le (p := p) (n := n)
    rw [q_cn]
    split <;> omega
theorem WF_w {K : Nat} {E : xM} (h : WF K E) : q_w E ≤ 20 ∧ E 11 0 = nI (q_w E) := ⟨h.2.2.1.2, h.2.2.1.1⟩
theorem WF_s {K : Nat} {E : xM} (h : WF K E) : q_s E ≤ 12 ∧ E 1 0 = nI (q_s E) := ⟨h.1.2, h.1.1⟩
theorem WF_g {K : Nat} {E : xM} (h : WF K E) : q_g E ≤ 16 ∧ E 6 0 = nI (q_g E) := ⟨h.2.1.2, h.2.1.1⟩
theorem WF_p {K : Nat} {E : xM} (h : WF K E) : q_p E ≤ 12 ∧ E 15 0 = nI (q_p E) := ⟨h.2.2.2.1.2, h.2.2.2.1.1⟩
theorem q_rm_w {E : xM} {w : Nat} (hw : w < q_w E) (h20 : q_w E ≤ 20) (h : E 11 0 = nI (q_w E)) : q_w (q_rm E w) = q_w E - 1 := by
  unfold q_w
  rw [show q_rm E w 11 0 = E 11 0 - 1 from rfl, h, x_pred (by omega), x_cl (by omega), x_cl (by omega)]
theorem q_sg_eq (E : xM) (w u : Nat) (hu : (E 14 w).toNatClampNeg = u) : q_sg E w = (
  let F1 := q_st (q_re E (E 12 w) (E 13 w) (E 14 w) (E 0 4)) (q_ss E w) (E 9 u) (q_s E)
  let F2 := x_up F1 10 u (F1 10 u + 1)
  let F3 := x_up F2 1 2 (q_ss E w)
  let F4 := x_up F3 0 4 (F3 0 4 + E 9 u)
  q_rm (x_up F4 0 5 (F4 0 5 + 1)) w) := by
  unfold q_sg
  simp only [hu]
  congr 1
  funext a k
  simp only [x_up]
  grind
theorem WF_mono {K K' : Nat} {E : xM} (h : WF K E) (hk : K ≤ K') : WF K' E := by
  obtain ⟨h1, h2, h3, h4, h5, h6, h7⟩ := h
  exact ⟨h1, h2, h3, h4, h5, fun i hi => ⟨(h6 i hi).1, by have := (h6 i hi).2; omega⟩, h7⟩
theorem x_inc {x : Int32} {K : Nat} (h0 : 0 ≤ x.toInt) (h1 : x.toInt ≤ K) (hK : K < 2000000000) : (x + 1).toInt = x.toInt + 1 := by
  obtain ⟨j, hj, rfl⟩ := nI_of (x := x) (by rw [Int32.lt_iff_toInt_lt]; have : (0 : Int32).toInt = 0 := rfl; omega)
  rw [nI_toInt (by omega)] at h1 ⊢
  rw [nI_1, nI_toInt (by omega)]
  omega
theorem WF_of {K : Nat} {E : xM} (ns ng nw np : Nat) (hs : E 1 0 = nI ns) (hs2 : ns ≤ 12) (hg : E 6 0 = nI ng) (hg2 : ng ≤ 16) (hw : E 11 0 = nI nw) (hw2 : nw ≤ 20) (hp : E 15 0 = nI np) (hp2 : np ≤ 12) (hb : ∀ i, bt (E 1 1) i = true → i < ns) (ht : ∀ i, i < 12 → 0 ≤ (E 4 i).toInt ∧ (E 4 i).toInt ≤ K) (hv : ∀ w, w < nw → (∃ f, f < ns ∧ E 12 w = nI f) ∧ (E 13 w = -6 ∨ ∃ o, o < ns ∧ E 13 w = nI o) ∧ ∃ s, s < ng ∧ E 14 w = nI s) : WF K E := by
  have e1 : q_s E = ns := by unfold q_s; rw [hs, x_cl (by omega)]
  have e2 : q_g E = ng := by unfold q_g; rw [hg, x_cl (by omega)]
  have e3 : q_w E = nw := by unfold q_w; rw [hw, x_cl (by omega)]
  have e4 : q_p E = np := by unfold q_p; rw [hp, x_cl (by omega)]
  unfold WF
  rw [e1, e2, e3, e4]
  exact ⟨⟨hs, hs2⟩, ⟨hg, hg2⟩, ⟨hw, hw2⟩, ⟨hp, hp2⟩, hb, ht, hv⟩
theorem q_rm_row {E : xM} {w a i : Nat} (ha : a = 12 ∨ a = 13 ∨ a = 14) : q_rm E w a i = if w ≤ i ∧ i + 1 < q_w E then E a (i + 1) else E a i := by
  unfold q_rm
  rw [if_neg (by omega)]
  by_cases q : w ≤ i ∧ i + 1 < q_w E
  · rw [if_pos ⟨ha, q⟩, if_pos q]
  · rw [if_neg (fun z => q z.2), if_neg q]
theorem WF_rm {K : Nat} {E : xM} (h : WF K E) (w : Nat) (hw : w < q_w E) : WF K (q_rm E w) := by
  obtain ⟨⟨s1, s2⟩, ⟨g1, g2⟩, ⟨w1, w2⟩, ⟨p1, p2⟩, h5, h6, h7⟩ := h
  refine WF_of (q_s E) (q_g E) (q_w E - 1) (q_p E) s1 s2 g1 g2 (by rw [show q_rm E w 11 0 = E 11 0 - 1 from rfl, w1, x_pred (by omega)]) (by omega) p1 p2 h5 h6 ?_
  intro i hi
  rw [q_rm_row (by omega), q_rm_row (by omega), q_rm_row (by omega)]
  by_cases q : w ≤ i ∧ i + 1 < q_w E
  · rw [if_pos q, if_pos q, if_pos q]
    exact h7 (i + 1) (by omega)
  · rw [if_neg q, if_neg q, if_neg q]
    exact h7 i (by omega)
theorem WF_sg {K : Nat} {E : xM} (h : WF K E) (w : Nat) (hw : w < q_w E) (hK : K < 1000000) : WF (K + 1) (q_sg E w) := by
  obtain ⟨⟨s1, s2⟩, ⟨g1, g2⟩, ⟨w1, w2⟩, ⟨p1, p2⟩, h5, h6, h7⟩ := h
  rw [q_sg_eq E w _ rfl]
  simp only
  generalize hF1 : q_st (q_re E (E 12 w) (E 13 w) (E 14 w) (E 0 4)) (q_ss E w) (E 9 (E 14 w).toNatClampNeg) (q_s E) = F1
  generalize hF2 : x_up F1 10 (E 14 w).toNatClampNeg (F1 10 (E 14 w).toNatClampNeg + 1) = F2
  generalize hF3 : x_up F2 1 2 (q_ss E w) = F3
  generalize hF4 : x_up F3 0 4 (F3 0 4 + E 9 (E 14 w).toNatClampNeg) = F4
  have row : ∀ a k, a ≠ 0 → a ≠ 10 → (a = 1 → k ≠ 2) → x_up F4 0 5 (F4 0 5 + 1) a k = F1 a k := by
    intro a k h1 h2 h3
    rw [x_up_other h1, ← hF4, x_up_other h1, ← hF3]
    have e2 : F2 a = F1 a := by rw [← hF2, x_up_other h2]
    simp only [x_up]
    rw [if_neg (fun z => h3 z.1 z.2), e2]
  have r1 : ∀ a k, a < 15 → a ≠ 4 → a ≠ 5 → F1 a k = E a k := by
    intro a k h1 h2 h3
    rw [← hF1]
    unfold q_st q_re
    rw [if_neg (by omega), if_neg (by omega), if_neg (by omega), if_neg (by omega)]
  refine WF_rm (WF_of (q_s E) (q_g E) (q_w E) (if q_p E < 12 then q_p E + 1 else 12) ?_ s2 ?_ g2 ?_ w2 ?_ ?_ ?_ ?_ ?_) w ?_
  · rw [row _ _ (by decide) (by decide) (by omega), r1 _ _ (by decide) (by decide) (by decide)]
    exact s1
  · rw [row _ _ (by decide) (by decide) (by omega), r1 _ _ (by decide) (by decide) (by decide)]
    exact g1
  · rw [row _ _ (by decide) (by decide) (by omega), r1 _ _ (by decide) (by decide) (by decide)]
    exact w1
  · rw [row _ _ (by decide) (by decide) (by omega), ← hF1]
    simp [q_st, q_re]
  · split <;> omega
  · intro i hi
    rw [row _ _ (by decide) (by decide) (by omega), r1 _ _ (by decide) (by decide) (by decide)] at hi
    exact h5 i hi
  · intro i hi
    rw [row _ _ (by decide) (by decide) (by omega), ← hF1]
    obtain ⟨t1, t2⟩ := h6 i hi
    have e4 : q_re E (E 12 w) (E 13 w) (E 14 w) (E 0 4) 4 i = E 4 i := by simp [q_re]
    unfold q_st
    rw [e4]
    split
    · have := x_inc t1 t2 (by omega)
      omega
    · rw [if_neg (by omega)]
      omega
  · intro i hi
    rw [row _ _ (by decide) (by decide) (by omega), row _ _ (by decide) (by decide) (by omega), row _ _ (by decide) (by decide) (by omega), r1 _ _ (by decide) (by decide) (by decide), r1 _ _ (by decide) (by decide) (by decide), r1 _ _ (by decide) (by decide) (by decide)]
    exact h7 i hi
  · unfold q_w
    rw [row _ _ (by decide) (by decide) (by omega), r1 _ _ (by decide) (by decide) (by decide)]
    exact hw
theorem WF_as {K : Nat} {E : xM} (h : WF K E) (lo hi : Int32) (hn : q_s E < 12) : WF K (q_as E (q_s E) lo hi) := by
  obtain ⟨⟨s1, s2⟩, ⟨g1, g2⟩, ⟨w1, w2⟩, ⟨p1, p2⟩, h5, h6, h7⟩ := h
  refine WF_of (q_s E + 1) (q_g E) (q_w E) (q_p E) (by simp [q_as, x_up]) (by omega) (by simpa [q_as, x_up] using g1) g2 (by simpa [q_as, x_up] using w1) w2 (by simpa [q_as, x_up] using p1) p2 ?_ ?_ ?_
  · intro i hb
    have e : q_as E (q_s E) lo hi 1 1 = E 1 1 ||| ((1 : Int32) <<< (nI (q_s E) &&& 31)) := by simp [q_as, x_up]
    rw [e, b_or] at hb
    by_cases q : i < 32
    · rw [b_one (by omega) q] at hb
      simp only [Bool.or_eq_true, decide_eq_true_eq] at hb
      rcases hb with hb | hb
      · have := h5 i hb
        omega
      · omega
    · rw [b_big (by omega), b_big (by omega)] at hb
      cases hb
  · intro i hi2
    have e : q_as E (q_s E) lo hi 4 i = E 4 i := by simp [q_as, x_up]
    rw [e]
    exact h6 i hi2
  · intro w hw
    obtain ⟨⟨f, f1, f2⟩, ho, u, u1, u2⟩ := h7 w hw
    have e12 : q_as E (q_s E) lo hi 12 w = E 12 w := by simp [q_as, x_up]
    have e13 : q_as E (q_s E) lo hi 13 w = E 13 w := by simp [q_as, x_up]
    have e14 : q_as E (q_s E) lo hi 14 w = E 14 w := by simp [q_as, x_up]
    rw [e12, e13, e14]
    refine ⟨⟨f, by omega, f2⟩, ?_, u, u1, u2⟩
    rcases ho with ho | ⟨o, o1, o2⟩
    · exact Or.inl ho
    · exact Or.inr ⟨o, by omega, o2⟩
theorem WF_ag {K : Nat} {E : xM} (h : WF K E) (lo hi len : Int32) (hn : q_g E < 16) : WF K (q_ag E (q_g E) lo hi len) := by
  obtain ⟨⟨s1, s2⟩, ⟨g1, g2⟩, ⟨w1, w2⟩, ⟨p1, p2⟩, h5, h6, h7⟩ := h
  refine WF_of (q_s E) (q_g E + 1) (q_w E) (q_p E) (by simpa [q_ag, x_up] using s1) s2 (by simp [q_ag, x_up]) (by omega) (by simpa [q_ag, x_up] using w1) w2 (by simpa [q_ag, x_up] using p1) p2 ?_ ?_ ?_
  · intro i hi2
    have e : q_ag E (q_g E) lo hi len 1 1 = E 1 1 := by simp [q_ag, x_up]
    rw [e] at hi2
    exact h5 i hi2
  · intro i hi2
    have e : q_ag E (q_g E) lo hi len 4 i = E 4 i := by simp [q_ag, x_up]
    rw [e]
    exact h6 i hi2
  · intro w hw
    obtain ⟨hf, ho, u, u1, u2⟩ := h7 w hw
    have e12 : q_ag E (q_g E) lo hi len 12 w = E 12 w := by simp [q_ag, x_up]
    have e13 : q_ag E (q_g E) lo hi len 13 w = E 13 w := by simp [q_ag, x_up]
    have e14 : q_ag E (q_g E) lo hi len 14 w = E 14 w := by simp [q_ag, x_up]
    rw [e12, e13, e14]
    exact ⟨hf, ho, u, by omega, u2⟩
theorem WF_aw {K : Nat} {E : xM} (h : WF K E) (v1 v2 v3 : Int32) (hn : q_w E < 20) (e1 : vp_in v1 (q_s E)) (e2 : v2 = -6 ∨ vp_in v2 (q_s E)) (e3 : vp_in v3 (q_g E)) : WF K (q_aw E (q_w E) v1 v2 v3) := by
  obtain ⟨⟨s1, s2⟩, ⟨g1, g2⟩, ⟨w1, w2⟩, ⟨p1, p2⟩, h5, h6, h7⟩ := h
  refine WF_of (q_s E) (q_g E) (q_w E + 1) (q_p E) (by simpa [q_aw, x_up] using s1) s2 (by simpa [q_aw, x_up] using g1) g2 (by simp [q_aw, x_up]) (by omega) (by simpa [q_aw, x_up] using p1) p2 ?_ ?_ ?_
  · intro i hi
    have e : q_aw E (q_w E) v1 v2 v3 1 1 = E 1 1 := by simp [q_aw, x_up]
    rw [e] at hi
    exact h5 i hi
  · intro i hi
    have e : q_aw E (q_w E) v1 v2 v3 4 i = E 4 i := by simp [q_aw, x_up]
    rw [e]
    exact h6 i hi
  · intro w hw
    by_cases q : w = q_w E
    · subst q
      have a12 : q_aw E (q_w E) v1 v2 v3 12 (q_w E) = v1 := by simp [q_aw, x_up]
      have a13 : q_aw E (q_w E) v1 v2 v3 13 (q_w E) = v2 := by simp [q_aw, x_up]
      have a14 : q_aw E (q_w E) v1 v2 v3 14 (q_w E) = v3 := by simp [q_aw, x_up]
      rw [a12, a13, a14]
      exact ⟨x_of (by omega) e1, e2.imp id (fun z => x_of (by omega) z), x_of (by omega) e3⟩
    · have a12 : q_aw E (q_w E) v1 v2 v3 12 w = E 12 w := by simp [q_aw, x_up, q]
      have a13 : q_aw E (q_w E) v1 v2 v3 13 w = E 13 w := by simp [q_aw, x_up, q]
      have a14 : q_aw E (q_w E) v1 v2 v3 14 w = E 14 w := by simp [q_aw, x_up, q]
      rw [a12, a13, a14]
      exact h7 w (by omega)
theorem WF_th {K : Nat} {E : xM} (h : WF K E) (t : Int32) (ht : ∀ i, bt t i = true → i < q_s E) : WF K (x_up E 1 1 t) := by
  obtain ⟨⟨s1, s2⟩, ⟨g1, g2⟩, ⟨w1, w2⟩, ⟨p1, p2⟩, h5, h6, h7⟩ := h
  refine WF_of (q_s E) (q_g E) (q_w E) (q_p E) (by simpa [x_up] using s1) s2 (by simpa [x_up] using g1) g2 (by simpa [x_up] using w1) w2 (by simpa [x_up] using p1) p2 ?_ ?_ ?_
  · intro i hi
    have e : x_up E 1 1 t 1 1 = t := by simp [x_up]
    rw [e] at hi
    exact ht i hi
  · intro i hi
    rw [x_up_other (by decide)]
    exact h6 i hi
  · intro w hw
    rw [x_up_other (by decide), x_up_other (by decide), x_up_other (by decide)]
    exact h7 w hw
