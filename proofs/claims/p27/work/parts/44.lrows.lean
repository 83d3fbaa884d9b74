/-! the law's rows after a turn, and without a wish -/
theorem q_sg_5 (E : xM) (w k : Nat) : q_sg E w 5 k = if k < q_s E ∧ bt (q_ss E w) k = true then E 5 k + E 9 (E 14 w).toNatClampNeg else E 5 k := by
  rw [q_sg_row E w 5 k (by decide) (by decide) (by omega) (by decide)]
  unfold q_sgF q_st
  by_cases q : k < q_s E ∧ bt (q_ss E w) k = true
  · rw [if_neg (by omega), if_pos ⟨rfl, q⟩, if_pos q]
    simp [q_re]
  · rw [if_neg (by omega), if_neg (fun z => q z.2), if_neg q]
    simp [q_re]
theorem q_sg_10 (E : xM) (w k : Nat) : q_sg E w 10 k = if k = (E 14 w).toNatClampNeg then E 10 k + 1 else E 10 k := by
  unfold q_sg q_rm
  rw [if_neg (by omega), if_neg (by omega)]
  by_cases h : k = (E 14 w).toNatClampNeg
  · subst h
    simp [x_up, q_st, q_re]
  · simp [x_up, q_st, q_re, h]
theorem q_sg_05 (E : xM) (w : Nat) : q_sg E w 0 5 = E 0 5 + 1 := by
  unfold q_sg q_rm
  rw [if_neg (by omega), if_neg (by omega)]
  simp [x_up, q_st, q_re]
theorem q_sg_11 (E : xM) (w : Nat) : q_sg E w 11 0 = E 11 0 - 1 := by
  unfold q_sg q_rm
  rw [if_pos ⟨rfl, rfl⟩]
  simp [x_up, q_st, q_re]
theorem q_sg_hi (E : xM) (w a k : Nat) (ha : 15 ≤ a) : q_sg E w a k = q_re E (E 12 w) (E 13 w) (E 14 w) (E 0 4) a k := by
  unfold q_sg q_rm
  rw [if_neg (by omega), if_neg (by omega), x_up_other (by omega), x_up_other (by omega), x_up_other (by omega), x_up_other (by omega)]
  unfold q_st
  rw [if_neg (by omega), if_neg (by omega)]
theorem q_sg_lo (E : xM) (w a k : Nat) (ha : a = 2 ∨ a = 3 ∨ a = 6 ∨ a = 7 ∨ a = 8 ∨ a = 9) : q_sg E w a k = E a k := by
  rw [q_sg_row E w a k (by omega) (by omega) (by omega) (by omega)]
  unfold q_sgF q_st q_re
  rw [if_neg (by omega), if_neg (by omega), if_neg (by omega), if_neg (by omega)]
theorem q_sg_10' (E : xM) (w : Nat) : q_sg E w 1 0 = E 1 0 := by
  rw [q_sg_row E w 1 0 (by decide) (by decide) (by omega) (by decide)]
  simp [q_sgF, q_st, q_re]
theorem WB_of {E E' : xM} (h : WB E) (e : ∀ a k, (a = 2 ∨ a = 3 ∨ a = 7 ∨ a = 8 ∨ a = 9) → E' a k = E a k) : WB E' := by
  refine ⟨fun i hi => ?_, fun u hu => ?_⟩
  · rw [e 2 i (by omega), e 3 i (by omega)]
    exact h.1 i hi
  · rw [e 7 u (by omega), e 8 u (by omega), e 9 u (by omega)]
    exact h.2 u hu
theorem WB_sg {E : xM} (h : WB E) (w : Nat) : WB (q_sg E w) := WB_of h fun a k ha => q_sg_lo E w a k (by omega)
theorem q_rm_o {E : xM} {w a k : Nat} (h : a < 11 ∨ 14 < a) : q_rm E w a k = E a k := by
  unfold q_rm
  rw [if_neg (by omega), if_neg (by omega)]
theorem WB_rm {E : xM} (h : WB E) (w : Nat) : WB (q_rm E w) := WB_of h fun a k ha => q_rm_o (by omega)
theorem l_bit_b {x : Int32} {i : Nat} (h : i < 32) : l_bit x i = if bt x i = true then 1 else 0 := x_bit01 h
theorem LR_cong {E : xM} {q si so wi q' si' so' wi' : Nat → Int32} (h : LR E q si so wi) (hw : q_w E ≤ 20) (e1 : ∀ k, k < 8 → q' k = q k) (e2 : ∀ k, k < 48 → si' k = si k) (e3 : ∀ k, k < 64 → so' k = so k) (e4 : ∀ k, k < 20 → wi' k = wi k) : LR E q' si' so' wi' := by
  obtain ⟨⟨a0, a1, a2, a3, a4, a5, a6⟩, hs, hg, hv⟩ := h
  refine ⟨⟨?_, ?_, ?_, ?_, ?_, ?_, ?_⟩, fun i hi => ?_, fun u hu => ?_, fun w hw2 => ?_⟩
  · rw [e1 _ (by omega)]; exact a0
  · rw [e1 _ (by omega)]; exact a1
  · rw [e1 _ (by omega)]; exact a2
  · rw [e1 _ (by omega)]; exact a3
  · rw [e1 _ (by omega)]; exact a4
  · rw [e1 _ (by omega)]; exact a5
  · rw [e1 _ (by omega)]; exact a6
  · rw [e2 _ (by omega), e2 _ (by omega), e2 _ (by omega), e2 _ (by omega)]; exact hs i hi
  · rw [e3 _ (by omega), e3 _ (by omega), e3 _ (by omega), e3 _ (by omega)]; exact hg u hu
  · rw [e4 _ (by omega)]; exact hv w hw2
theorem LR_rm {E : xM} {q si so wi q' wi' : Nat → Int32} (h : LR E q si so wi) (hw : q_w E ≤ 20) (h11 : E 11 0 = nI (q_w E)) (m : Nat) (hm : m < q_w E) (e2 : q' 2 = q 2 - 1) (e1 : ∀ k, k ≠ 2 → q' k = q k) (e4 : SGd wi wi' m (q_w E - 1)) : LR (q_rm E m) q' si so wi' := by
  obtain ⟨⟨a0, a1, a2, a3, a4, a5, a6⟩, hs, hg, hv⟩ := h
  have ew := q_rm_w hm hw h11
  refine ⟨⟨?_, ?_, ?_, ?_, ?_, ?_, ?_⟩, fun i hi => ?_, fun u hu => ?_, fun w hw2 => ?_⟩
  · rw [e1 _ (by decide), q_rm_o (by omega)]; exact a0
  · rw [e1 _ (by decide), q_rm_o (by omega)]; exact a1
  · rw [e2, a2]; rfl
  · rw [e1 _ (by decide), q_rm_o (by omega)]; exact a3
  · rw [e1 _ (by decide), q_rm_o (by omega)]; exact a4
  · rw [e1 _ (by decide), q_rm_o (by omega)]; exact a5
  · rw [e1 _ (by decide), q_rm_o (by omega)]; exact a6
  · rw [q_rm_o (by omega), q_rm_o (by omega), q_rm_o (by omega), q_rm_o (by omega)]; exact hs i hi
  · rw [q_rm_o (by omega), q_rm_o (by omega), q_rm_o (by omega), q_rm_o (by omega)]; exact hg u hu
  · rw [ew] at hw2
    rw [e4 w, q_rm_row (by omega), q_rm_row (by omega), q_rm_row (by omega)]
    by_cases c : m ≤ w ∧ w + 1 < q_w E
    · rw [if_pos (by omega), if_pos c, if_pos c, if_pos c]
      exact hv (w + 1) (by omega)
    · rw [if_neg (by omega), if_neg c, if_neg c, if_neg c]
      exact hv w (by omega)
theorem LR_sg {a : Nat} {E M N : xM} {k u : Nat} {v : Int32} (h : LR E (M a) (M (a + 1)) (M (a + 2)) (M (a + 3))) (h20 : q_w E ≤ 20) (h11 : E 11 0 = nI (q_w E)) (hk : k < q_w E) (hu : E 14 k = nI u) (hu2 : u < 16) (s : SG a M N k (q_w E) (q_s E) u (q_ss E k) (E 9 u) v) : LR (q_sg E k) (N a) (N (a + 1)) (N (a + 2)) (N (a + 3)) := by
  obtain ⟨⟨a0, a1, a2, a3, a4, a5, a6⟩, hs, hg, hv⟩ := h
  obtain ⟨sa, sb, sc, sd, -, -, -⟩ := s
  have cu : (E 14 k).toNatClampNeg = u := by rw [hu, x_cl (by omega)]
  have ew := q_sg_w hk h20 h11
  refine ⟨⟨?_, ?_, ?_, ?_, ?_, ?_, ?_⟩, fun i hi => ?_, fun c hc => ?_, fun w hw2 => ?_⟩
  · rw [sa 0 (by omega), q_sg_10', ← a0]; simp
  · rw [sa 1 (by omega), q_sg_lo E k 6 0 (by omega), ← a1]; simp
  · rw [sa 2 (by omega), q_sg_11, ← a2]; simp
  · rw [sa 3 (by omega), q_sg_1, ← a3]; simp
  · rw [sa 4 (by omega), q_sg_t]; simp
  · rw [sa 5 (by omega), q_sg_m, cu, ← a5]; simp
  · rw [sa 6 (by omega), q_sg_05, ← a6]; simp
  · obtain ⟨b1, b2, b3, b4⟩ := hs i hi
    obtain ⟨d1, d2, d3, d4⟩ := sb i hi
    rw [d1, d2, d3, d4, b1, b2, b3, b4, q_sg_lo E k 2 i (by omega), q_sg_lo E k 3 i (by omega), q_sg_4, q_sg_5, cu, l_bit_b (by omega)]
    refine ⟨rfl, rfl, ?_, ?_⟩
    · by_cases z : i < q_s E
      · by_cases z2 : bt (q_ss E k) i = true
        · rw [if_pos z, if_pos z2, if_pos ⟨z, z2⟩]
        · rw [if_pos z, if_neg z2, if_neg (fun w => z2 w.2), Int32.add_zero]
      · rw [if_neg z, if_neg (fun w => z w.1)]
    · by_cases z : i < q_s E
      · by_cases z2 : bt (q_ss E k) i = true
        · rw [if_pos z, if_pos z2, if_pos ⟨z, z2⟩, Int32.one_mul]
        · rw [if_pos z, if_neg z2, if_neg (fun w => z2 w.2), Int32.zero_mul, Int32.add_zero]
      · rw [if_neg z, if_neg (fun w => z w.1)]
  · obtain ⟨b1, b2, b3, b4⟩ := hg c hc
    rw [sc, sc, sc, sc, if_neg (by omega), if_neg (by omega), if_neg (by omega), b1, b2, b3, b4, q_sg_lo E k 7 c (by omega), q_sg_lo E k 8 c (by omega), q_sg_lo E k 9 c (by omega), q_sg_10, cu]
    refine ⟨rfl, rfl, rfl, ?_⟩
    by_cases z : c = u
    · rw [if_pos (by omega), if_pos z]
    · rw [if_neg (by omega), if_neg z]
  · rw [ew] at hw2
    rw [sd w, q_sg_v E k 12 w (by omega), q_sg_v E k 13 w (by omega), q_sg_v E k 14 w (by omega)]
    by_cases c : k ≤ w ∧ w + 1 < q_w E
    · rw [if_pos (by omega), if_pos c, if_pos c, if_pos c]
      exact hv (w + 1) (by omega)
    · rw [if_neg (by omega), if_neg c, if_neg c, if_neg c]
      exact hv w (by omega)
/-- the turns that are remembered -/
def LQ (E : xM) (q pa be : Nat → Int32) : Prop := q 7 = E 15 0 ∧ ∀ k, k < q_p E → l_w (pa k) (E 16 k) (E 17 k) (E 18 k) ∧ be k = E 19 k
theorem LQ_sg {a : Nat} {E M N : xM} {k u : Nat} (h : LR E (M a) (M (a + 1)) (M (a + 2)) (M (a + 3))) (hp : LQ E (M a) (M (a + 4)) (M (a + 5))) (h12 : q_p E ≤ 12) (h15 : E 15 0 = nI (q_p E)) (hk : k < q_w E) (s : SG a M N k (q_w E) (q_s E) u (q_ss E k) (E 9 u) (M (a + 3) k)) : LQ (q_sg E k) (N a) (N (a + 4)) (N (a + 5)) := by
  obtain ⟨⟨-, -, -, -, -, a5, -⟩, -, -, hv⟩ := h
  obtain ⟨sa, -, -, -, se, sf, -⟩ := s
  obtain ⟨p1, p2⟩ := hp
  have e15 : q_sg E k 15 0 = nI (if q_p E < 12 then q_p E + 1 else 12) := by
    rw [q_sg_hi E k 15 0 (by omega)]
    simp [q_re]
  have ep : q_p (q_sg E k) = if q_p E < 12 then q_p E + 1 else 12 := by
    unfold q_p at *
    rw [e15, x_cl (by split <;> omega)]
  refine ⟨?_, fun j hj => ?_⟩
  · have c7 : N a 7 = if (12 : Int32) ≤ M a 7 then 12 else M a 7 + 1 := sa 7 (by omega)
    rw [c7, e15, p1, h15]
    have le : ((12 : Int32) ≤ nI (q_p E)) ↔ 12 ≤ q_p E := x_le (a := 12) (by omega) (by omega)
    by_cases z : q_p E < 12
    · rw [if_neg (fun w => by rw [le] at w; omega), if_pos z, nI_1]
    · rw [if_pos (le.mpr (by omega)), if_neg z]
      rfl
  · rw [ep] at hj
    rw [q_sg_hi E k 16 j (by omega), q_sg_hi E k 17 j (by omega), q_sg_hi E k 18 j (by omega), q_sg_hi E k 19 j (by omega)]
    cases j with
    | zero =>
      have f : ∀ a, 16 ≤ a → a ≤ 19 → q_re E (E 12 k) (E 13 k) (E 14 k) (E 0 4) a 0 = (if a = 16 then E 12 k else if a = 17 then E 13 k else if a = 18 then E 14 k else E 0 4) := fun a h1 h2 => by
        unfold q_re
        rw [if_neg (by omega), if_pos ⟨h1, h2⟩, if_pos rfl]
      rw [f 16 (by omega) (by omega), f 17 (by omega) (by omega), f 18 (by omega) (by omega), f 19 (by omega) (by omega), se.1, sf.1, a5]
      exact ⟨hv k hk, rfl⟩
    | succ i =>
      have f : ∀ a, 16 ≤ a → a ≤ 19 → q_re E (E 12 k) (E 13 k) (E 14 k) (E 0 4) a (i + 1) = E a i := fun a h1 h2 => by
        unfold q_re
        rw [if_neg (by omega), if_pos ⟨h1, h2⟩, if_neg (by omega), if_pos hj]
        rfl
      have hi : i < q_p E := by split at hj <;> omega
      have hi11 : i < 11 := by split at hj <;> omega
      rw [f 16 (by omega) (by omega), f 17 (by omega) (by omega), f 18 (by omega) (by omega), f 19 (by omega) (by omega), se.2 i hi11, sf.2 i hi11]
      exact p2 i hi
