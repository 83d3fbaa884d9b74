/-! the row under what changes -/
theorem RE_up_t {E : xM} {s : Nat → Int32} (h : RE E s) (v : Int32) : RE (x_up E 1 2 v) (upd s 3 v) := by
  obtain ⟨⟨a0, a1, a2, a3, a4, a5, a6⟩, hs, hg, hw, hp⟩ := h
  refine ⟨⟨?_, ?_, ?_, ?_, ?_, ?_, ?_⟩, fun i hi => ?_, fun i hi => ?_, fun i hi => ?_, fun i hi => ?_⟩
  all_goals simp only [x_up, upd, q_w, q_p] at *
  all_goals grind
theorem RE_up_m {E : xM} {s : Nat → Int32} (h : RE E s) (v : Int32) : RE (x_up E 0 4 v) (upd s 4 v) := by
  obtain ⟨⟨a0, a1, a2, a3, a4, a5, a6⟩, hs, hg, hw, hp⟩ := h
  refine ⟨⟨?_, ?_, ?_, ?_, ?_, ?_, ?_⟩, fun i hi => ?_, fun i hi => ?_, fun i hi => ?_, fun i hi => ?_⟩
  all_goals simp only [x_up, upd, q_w, q_p] at *
  all_goals grind
theorem RE_up_n {E : xM} {s : Nat → Int32} (h : RE E s) (v : Int32) : RE (x_up E 0 5 v) (upd s 5 v) := by
  obtain ⟨⟨a0, a1, a2, a3, a4, a5, a6⟩, hs, hg, hw, hp⟩ := h
  refine ⟨⟨?_, ?_, ?_, ?_, ?_, ?_, ?_⟩, fun i hi => ?_, fun i hi => ?_, fun i hi => ?_, fun i hi => ?_⟩
  all_goals simp only [x_up, upd, q_w, q_p] at *
  all_goals grind
theorem RE_up_su {E : xM} {s : Nat → Int32} (h : RE E s) (j : Nat) (hj : j < 16) (v : Int32) : RE (x_up E 10 j v) (upd s (70 + 4 * j) v) := by
  obtain ⟨⟨a0, a1, a2, a3, a4, a5, a6⟩, hs, hg, hw, hp⟩ := h
  refine ⟨⟨?_, ?_, ?_, ?_, ?_, ?_, ?_⟩, fun i hi => ?_, fun i hi => ?_, fun i hi => ?_, fun i hi => ?_⟩
  all_goals simp only [x_up, upd, q_w, q_p] at *
  all_goals grind
theorem RE_up_tu {E : xM} {s : Nat → Int32} (h : RE E s) (j : Nat) (hj : j < 12) (v : Int32) : RE (x_up E 4 j v) (upd s (10 + 5 * j) v) := by
  obtain ⟨⟨a0, a1, a2, a3, a4, a5, a6⟩, hs, hg, hw, hp⟩ := h
  refine ⟨⟨?_, ?_, ?_, ?_, ?_, ?_, ?_⟩, fun i hi => ?_, fun i hi => ?_, fun i hi => ?_, fun i hi => ?_⟩
  all_goals simp only [x_up, upd, q_w, q_p] at *
  all_goals grind
theorem RE_up_mi {E : xM} {s : Nat → Int32} (h : RE E s) (j : Nat) (hj : j < 12) (v : Int32) : RE (x_up E 5 j v) (upd s (11 + 5 * j) v) := by
  obtain ⟨⟨a0, a1, a2, a3, a4, a5, a6⟩, hs, hg, hw, hp⟩ := h
  refine ⟨⟨?_, ?_, ?_, ?_, ?_, ?_, ?_⟩, fun i hi => ?_, fun i hi => ?_, fun i hi => ?_, fun i hi => ?_⟩
  all_goals simp only [x_up, upd, q_w, q_p] at *
  all_goals grind
/-- a singer comes or goes -/
theorem RE_up_th {E : xM} {s : Nat → Int32} (h : RE E s) (j : Nat) (hj : j < 12) (t v : Int32) (ht : ∀ i, i < 12 → i ≠ j → bt t i = bt (E 1 1) i) (hv : v = if bt t j = true then 1 else 0) : RE (x_up E 1 1 t) (upd s (9 + 5 * j) v) := by
  obtain ⟨⟨a0, a1, a2, a3, a4, a5, a6⟩, hs, hg, hw, hp⟩ := h
  refine ⟨⟨?_, ?_, ?_, ?_, ?_, ?_, ?_⟩, fun i hi => ?_, fun i hi => ?_, fun i hi => ?_, fun i hi => ?_⟩
  all_goals simp only [x_up, upd, q_w, q_p] at *
  all_goals grind
def q_mr (s : Nat → Int32) (w n : Nat) : Nat → Int32 := fun k => if k = 2 then nI (n - 1) else if 131 + 3 * w ≤ k ∧ k < 131 + 3 * (n - 1) then s (k + 3) else s k
theorem q_rm_w {E : xM} {w : Nat} (hw : w < q_w E) (h20 : q_w E ≤ 20) (h : E 11 0 = nI (q_w E)) : q_w (q_rm E w) = q_w E - 1 := by
  unfold q_w
  rw [show q_rm E w 11 0 = E 11 0 - 1 from rfl, h, x_pred (by omega), x_cl (by omega), x_cl (by omega)]
theorem q_mr_lo {s : Nat → Int32} {w n k : Nat} (h : k < 131) (h2 : k ≠ 2) : q_mr s w n k = s k := by
  unfold q_mr
  rw [if_neg h2, if_neg (by omega)]
theorem q_mr_hi {s : Nat → Int32} {w n k : Nat} (h : 191 ≤ k) (h2 : n ≤ 20) : q_mr s w n k = s k := by
  unfold q_mr
  rw [if_neg (by omega), if_neg (by omega)]
theorem q_mr_in {s : Nat → Int32} {w n k : Nat} (h : 131 + 3 * w ≤ k) (h2 : k < 131 + 3 * (n - 1)) : q_mr s w n k = s (k + 3) := by
  unfold q_mr
  rw [if_neg (by omega), if_pos ⟨h, h2⟩]
theorem q_mr_out {s : Nat → Int32} {w n k : Nat} (h : k < 131 + 3 * w) (h2 : 2 < k) : q_mr s w n k = s k := by
  unfold q_mr
  rw [if_neg (by omega), if_neg (by omega)]
theorem RE_rm {E : xM} {s : Nat → Int32} (h : RE E s) (w : Nat) (hw : w < q_w E) (h20 : q_w E ≤ 20) (h11 : E 11 0 = nI (q_w E)) : RE (q_rm E w) (q_mr s w (q_w E)) := by
  have ew := q_rm_w hw h20 h11
  have ep : q_p (q_rm E w) = q_p E := rfl
  have e11 : q_rm E w 11 0 = nI (q_w E - 1) := by rw [show q_rm E w 11 0 = E 11 0 - 1 from rfl, h11, x_pred (by omega)]
  have lo : ∀ (a : Nat) (k : Nat), a ≠ 11 → a ≠ 12 → a ≠ 13 → a ≠ 14 → q_rm E w a k = E a k := by
    intro a k h1 h2 h3 h4
    unfold q_rm
    rw [if_neg (by omega), if_neg (by omega)]
  have wq : ∀ (a i : Nat), (a = 12 ∨ a = 13 ∨ a = 14) → q_rm E w a i = if w ≤ i ∧ i + 1 < q_w E then E a (i + 1) else E a i := by
    intro a i ha
    unfold q_rm
    rw [if_neg (by omega)]
    by_cases q : w ≤ i ∧ i + 1 < q_w E
    · rw [if_pos ⟨ha, q⟩, if_pos q]
    · rw [if_neg (fun z => q z.2), if_neg q]
  obtain ⟨⟨a0, a1, a2, a3, a4, a5, a6⟩, hs, hg, hv, hp⟩ := h
  refine ⟨⟨?_, ?_, ?_, ?_, ?_, ?_, ?_⟩, fun i hi => ?_, fun i hi => ?_, fun i hi => ?_, fun i hi => ?_⟩
  · rw [q_mr_lo (by omega) (by omega)]
    exact a0
  · rw [q_mr_lo (by omega) (by omega)]
    exact a1
  · rw [e11]
    rfl
  · rw [q_mr_lo (by omega) (by omega)]
    exact a3
  · rw [q_mr_lo (by omega) (by omega)]
    exact a4
  · rw [q_mr_lo (by omega) (by omega)]
    exact a5
  · rw [q_mr_lo (by omega) (by omega)]
    exact a6
  · obtain ⟨h1, h2, h3, h4, h5⟩ := hs i hi
    rw [q_mr_lo (by omega) (by omega), q_mr_lo (by omega) (by omega), q_mr_lo (by omega) (by omega), q_mr_lo (by omega) (by omega), q_mr_lo (by omega) (by omega)]
    exact ⟨h1, h2, h3, h4, h5⟩
  · obtain ⟨h1, h2, h3, h4⟩ := hg i hi
    rw [q_mr_lo (by omega) (by omega), q_mr_lo (by omega) (by omega), q_mr_lo (by omega) (by omega), q_mr_lo (by omega) (by omega)]
    exact ⟨h1, h2, h3, h4⟩
  · rw [ew] at hi
    by_cases q : w ≤ i
    · obtain ⟨h1, h2, h3⟩ := hv (i + 1) (by omega)
      rw [wq 12 i (by omega), wq 13 i (by omega), wq 14 i (by omega), if_pos ⟨q, by omega⟩, if_pos ⟨q, by omega⟩, if_pos ⟨q, by omega⟩, ← h1, ← h2, ← h3, q_mr_in (by omega) (by omega), q_mr_in (by omega) (by omega), q_mr_in (by omega) (by omega)]
      refine ⟨by congr 1, by congr 1, by congr 1⟩
    · obtain ⟨h1, h2, h3⟩ := hv i (by omega)
      rw [wq 12 i (by omega), wq 13 i (by omega), wq 14 i (by omega), if_neg (fun z => q z.1), if_neg (fun z => q z.1), if_neg (fun z => q z.1), q_mr_out (by omega) (by omega), q_mr_out (by omega) (by omega), q_mr_out (by omega) (by omega)]
      exact ⟨h1, h2, h3⟩
  · rw [ep] at hi
    obtain ⟨h1, h2, h3, h4⟩ := hp i hi
    rw [q_mr_hi (by omega) h20, q_mr_hi (by omega) h20, q_mr_hi (by omega) h20, q_mr_hi (by omega) h20]
    exact ⟨h1, h2, h3, h4⟩
/-- the row when a turn is remembered -/
def q_mp (s : Nat → Int32) (f o u b : Int32) (p : Nat) : Nat → Int32 := fun k => if k = 6 then nI (if p < 12 then p + 1 else 12) else if k = 191 then f else if k = 192 then o else if k = 193 then u else if k = 194 then b else if 195 ≤ k ∧ k < 239 then s (k - 4) else s k
theorem q_re_w {E : xM} {f o u b : Int32} : q_w (q_re E f o u b) = q_w E := by simp [q_w, q_re]
theorem q_re_p {E : xM} {f o u b : Int32} (h : q_p E ≤ 12) : q_p (q_re E f o u b) = if q_p E < 12 then q_p E + 1 else 12 := by
  unfold q_p
  rw [show q_re E f o u b 15 0 = nI (if q_p E < 12 then q_p E + 1 else 12) from rfl, x_cl (by split <;> omega)]
  rfl
theorem RE_re {E : xM} {s : Nat → Int32} (h : RE E s) (f o u b : Int32) (h12 : q_p E ≤ 12) (h20 : q_w E ≤ 20) : RE (q_re E f o u b) (q_mp s f o u b (q_p E)) := by
  have ew := q_re_w (E := E) (f := f) (o := o) (u := u) (b := b)
  have ep := q_re_p (f := f) (o := o) (u := u) (b := b) h12
  have lo : ∀ k, k < 191 → k ≠ 6 → q_mp s f o u b (q_p E) k = s k := by
    intro k h1 h2
    unfold q_mp
    rw [if_neg h2, if_neg (by omega), if_neg (by omega), if_neg (by omega), if_neg (by omega), if_neg (by omega)]
  have el : ∀ (a k : Nat), a < 15 → q_re E f o u b a k = E a k := by
    intro a k h1
    unfold q_re
    rw [if_neg (by omega), if_neg (by omega)]
  obtain ⟨⟨a0, a1, a2, a3, a4, a5, a6⟩, hs, hg, hv, hp⟩ := h
  refine ⟨⟨?_, ?_, ?_, ?_, ?_, ?_, ?_⟩, fun i hi => ?_, fun i hi => ?_, fun i hi => ?_, fun i hi => ?_⟩
  · rw [lo _ (by omega) (by omega), el _ _ (by omega)]
    exact a0
  · rw [lo _ (by omega) (by omega), el _ _ (by omega)]
    exact a1
  · rw [lo _ (by omega) (by omega), el _ _ (by omega)]
    exact a2
  · rw [lo _ (by omega) (by omega), el _ _ (by omega)]
    exact a3
  · rw [lo _ (by omega) (by omega), el _ _ (by omega)]
    exact a4
  · rw [lo _ (by omega) (by omega), el _ _ (by omega)]
    exact a5
  · rfl
  · obtain ⟨h1, h2, h3, h4, h5⟩ := hs i hi
    rw [lo _ (by omega) (by omega), lo _ (by omega) (by omega), lo _ (by omega) (by omega), lo _ (by omega) (by omega), lo _ (by omega) (by omega), el _ _ (by omega), el _ _ (by omega), el _ _ (by omega), el _ _ (by omega), el _ _ (by omega)]
    exact ⟨h1, h2, h3, h4, h5⟩
  · obtain ⟨h1, h2, h3, h4⟩ := hg i hi
    rw [lo _ (by omega) (by omega), lo _ (by omega) (by omega), lo _ (by omega) (by omega), lo _ (by omega) (by omega), el _ _ (by omega), el _ _ (by omega), el _ _ (by omega), el _ _ (by omega)]
    exact ⟨h1, h2, h3, h4⟩
  · rw [ew] at hi
    obtain ⟨h1, h2, h3⟩ := hv i hi
    rw [lo _ (by omega) (by omega), lo _ (by omega) (by omega), lo _ (by omega) (by omega), el _ _ (by omega), el _ _ (by omega), el _ _ (by omega)]
    exact ⟨h1, h2, h3⟩
  · rw [ep] at hi
    have hi12 : i < 12 := by
      revert hi
      split <;> omega
    have er : ∀ a, 16 ≤ a → a ≤ 19 → 0 < i → q_re E f o u b a i = E a (i - 1) := by
      intro a h1 h2 h3
      unfold q_re
      rw [if_neg (by omega), if_pos ⟨h1, h2⟩, if_neg (by omega), if_pos hi]
    by_cases q : i = 0
    · subst q
      exact ⟨rfl, rfl, rfl, rfl⟩
    · have hp1 : i - 1 < q_p E := by
        revert hi
        split <;> omega
      obtain ⟨h1, h2, h3, h4⟩ := hp (i - 1) hp1
      have hi' : ∀ k, 195 ≤ k → k < 239 → q_mp s f o u b (q_p E) k = s (k - 4) := by
        intro k l1 l2
        unfold q_mp
        rw [if_neg (by omega), if_neg (by omega), if_neg (by omega), if_neg (by omega), if_neg (by omega), if_pos ⟨l1, l2⟩]
      rw [er 16 (by omega) (by omega) (by omega), er 17 (by omega) (by omega) (by omega), er 18 (by omega) (by omega) (by omega), er 19 (by omega) (by omega) (by omega), ← h1, ← h2, ← h3, ← h4, hi' _ (by omega) (by omega), hi' _ (by omega) (by omega), hi' _ (by omega) (by omega), hi' _ (by omega) (by omega)]
      refine ⟨by congr 1; omega, by congr 1; omega, by congr 1; omega, by congr 1; omega⟩
