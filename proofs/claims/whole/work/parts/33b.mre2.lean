theorem RE_up_lo {E : xM} {s : Nat → Int32} (h : RE E s) (j : Nat) (hj : j < 12) (v : Int32) : RE (x_up E 2 j v) (upd s (7 + 5 * j) v) := by
  obtain ⟨⟨a0, a1, a2, a3, a4, a5, a6⟩, hs, hg, hw, hp⟩ := h
  refine ⟨⟨?_, ?_, ?_, ?_, ?_, ?_, ?_⟩, fun i hi => ?_, fun i hi => ?_, fun i hi => ?_, fun i hi => ?_⟩
  all_goals simp only [x_up, upd, q_w, q_p] at *
  all_goals grind
theorem RE_up_hi {E : xM} {s : Nat → Int32} (h : RE E s) (j : Nat) (hj : j < 12) (v : Int32) : RE (x_up E 3 j v) (upd s (8 + 5 * j) v) := by
  obtain ⟨⟨a0, a1, a2, a3, a4, a5, a6⟩, hs, hg, hw, hp⟩ := h
  refine ⟨⟨?_, ?_, ?_, ?_, ?_, ?_, ?_⟩, fun i hi => ?_, fun i hi => ?_, fun i hi => ?_, fun i hi => ?_⟩
  all_goals simp only [x_up, upd, q_w, q_p] at *
  all_goals grind
theorem RE_up_ns {E : xM} {s : Nat → Int32} (h : RE E s) (v : Int32) : RE (x_up E 1 0 v) (upd s (0) v) := by
  obtain ⟨⟨a0, a1, a2, a3, a4, a5, a6⟩, hs, hg, hw, hp⟩ := h
  refine ⟨⟨?_, ?_, ?_, ?_, ?_, ?_, ?_⟩, fun i hi => ?_, fun i hi => ?_, fun i hi => ?_, fun i hi => ?_⟩
  all_goals simp only [x_up, upd, q_w, q_p] at *
  all_goals grind
theorem RE_up_ng {E : xM} {s : Nat → Int32} (h : RE E s) (v : Int32) : RE (x_up E 6 0 v) (upd s (1) v) := by
  obtain ⟨⟨a0, a1, a2, a3, a4, a5, a6⟩, hs, hg, hw, hp⟩ := h
  refine ⟨⟨?_, ?_, ?_, ?_, ?_, ?_, ?_⟩, fun i hi => ?_, fun i hi => ?_, fun i hi => ?_, fun i hi => ?_⟩
  all_goals simp only [x_up, upd, q_w, q_p] at *
  all_goals grind
theorem RE_up_gl {E : xM} {s : Nat → Int32} (h : RE E s) (j : Nat) (hj : j < 16) (v : Int32) : RE (x_up E 7 j v) (upd s (67 + 4 * j) v) := by
  obtain ⟨⟨a0, a1, a2, a3, a4, a5, a6⟩, hs, hg, hw, hp⟩ := h
  refine ⟨⟨?_, ?_, ?_, ?_, ?_, ?_, ?_⟩, fun i hi => ?_, fun i hi => ?_, fun i hi => ?_, fun i hi => ?_⟩
  all_goals simp only [x_up, upd, q_w, q_p] at *
  all_goals grind
theorem RE_up_gh {E : xM} {s : Nat → Int32} (h : RE E s) (j : Nat) (hj : j < 16) (v : Int32) : RE (x_up E 8 j v) (upd s (68 + 4 * j) v) := by
  obtain ⟨⟨a0, a1, a2, a3, a4, a5, a6⟩, hs, hg, hw, hp⟩ := h
  refine ⟨⟨?_, ?_, ?_, ?_, ?_, ?_, ?_⟩, fun i hi => ?_, fun i hi => ?_, fun i hi => ?_, fun i hi => ?_⟩
  all_goals simp only [x_up, upd, q_w, q_p] at *
  all_goals grind
theorem RE_up_gn {E : xM} {s : Nat → Int32} (h : RE E s) (j : Nat) (hj : j < 16) (v : Int32) : RE (x_up E 9 j v) (upd s (69 + 4 * j) v) := by
  obtain ⟨⟨a0, a1, a2, a3, a4, a5, a6⟩, hs, hg, hw, hp⟩ := h
  refine ⟨⟨?_, ?_, ?_, ?_, ?_, ?_, ?_⟩, fun i hi => ?_, fun i hi => ?_, fun i hi => ?_, fun i hi => ?_⟩
  all_goals simp only [x_up, upd, q_w, q_p] at *
  all_goals grind
theorem RE_aw {E : xM} {s : Nat → Int32} (h : RE E s) (f u g : Int32) (h20 : q_w E < 20) : RE (q_aw E (q_w E) f u g) (upd (upd (upd (upd s (131 + 3 * q_w E) f) (132 + 3 * q_w E) u) (133 + 3 * q_w E) g) 2 (nI (q_w E + 1))) := by
  have ew : q_w (q_aw E (q_w E) f u g) = q_w E + 1 := by
    have : q_aw E (q_w E) f u g 11 0 = nI (q_w E + 1) := by simp [q_aw, x_up]
    rw [show q_w (q_aw E (q_w E) f u g) = (q_aw E (q_w E) f u g 11 0).toNatClampNeg from rfl, this, x_cl (by omega)]
  have ep : q_p (q_aw E (q_w E) f u g) = q_p E := by
    simp [q_p, q_aw, x_up]
  obtain ⟨⟨a0, a1, a2, a3, a4, a5, a6⟩, hs, hg, hw, hp⟩ := h
  generalize q_w E = n at *
  refine ⟨⟨?_, ?_, ?_, ?_, ?_, ?_, ?_⟩, fun i hi => ?_, fun i hi => ?_, fun i hi => ?_, fun i hi => ?_⟩
  · simp only [q_aw, x_up, upd]
    grind
  · simp only [q_aw, x_up, upd]
    grind
  · simp only [q_aw, x_up, upd]
    grind
  · simp only [q_aw, x_up, upd]
    grind
  · simp only [q_aw, x_up, upd]
    grind
  · simp only [q_aw, x_up, upd]
    grind
  · simp only [q_aw, x_up, upd]
    grind
  · have := hs i hi
    simp only [q_aw, x_up, upd]
    grind
  · have := hg i hi
    simp only [q_aw, x_up, upd]
    grind
  · rw [ew] at hi
    have := hw i
    simp only [q_aw, x_up, upd]
    grind
  · rw [ep] at hi
    have := hp i hi
    simp only [q_aw, x_up, upd]
    grind
