/-! the reference: its row of numbers, and what only looks -/
/-- the row holds the evening E -/
def RE (E : xM) (s : Nat → Int32) : Prop :=
  (s 0 = E 1 0 ∧ s 1 = E 6 0 ∧ s 2 = E 11 0 ∧ s 3 = E 1 2 ∧ s 4 = E 0 4 ∧ s 5 = E 0 5 ∧ s 6 = E 15 0) ∧
  (∀ i, i < 12 → s (7 + 5 * i) = E 2 i ∧ s (8 + 5 * i) = E 3 i ∧ s (9 + 5 * i) = (if bt (E 1 1) i = true then 1 else 0) ∧ s (10 + 5 * i) = E 4 i ∧ s (11 + 5 * i) = E 5 i) ∧
  (∀ i, i < 16 → s (67 + 4 * i) = E 7 i ∧ s (68 + 4 * i) = E 8 i ∧ s (69 + 4 * i) = E 9 i ∧ s (70 + 4 * i) = E 10 i) ∧
  (∀ i, i < q_w E → s (131 + 3 * i) = E 12 i ∧ s (132 + 3 * i) = E 13 i ∧ s (133 + 3 * i) = E 14 i) ∧
  ∀ i, i < q_p E → s (191 + 4 * i) = E 16 i ∧ s (192 + 4 * i) = E 17 i ∧ s (193 + 4 * i) = E 18 i ∧ s (194 + 4 * i) = E 19 i
theorem c_0 : (0 : Int32).toNatClampNeg = 0 := rfl
theorem c_1 : (1 : Int32).toNatClampNeg = 1 := rfl
theorem c_2 : (2 : Int32).toNatClampNeg = 2 := rfl
theorem c_3 : (3 : Int32).toNatClampNeg = 3 := rfl
theorem c_4 : (4 : Int32).toNatClampNeg = 4 := rfl
theorem c_5 : (5 : Int32).toNatClampNeg = 5 := rfl
theorem c_6 : (6 : Int32).toNatClampNeg = 6 := rfl
theorem v_k {n : Nat} (N : Nat) (h : n < N) (hN : N ≤ 5000) {x : Int32} (e : x = nI n) : vp_in x N := by rw [e]; exact x_vi h hN
theorem ok_X10_within {g : xG} (v0 v1 v2 : Int32) (M : xM) : mi_X10_within g v0 v1 v2 M (fun r N => r = x_b (v1 ≤ v0 ∧ v0 ≤ v2) ∧ N = M) := by
  refine wk_X10_within v0 v1 v2 M _ ?_
  unfold vc_X10_within
  refine ⟨fun h => ⟨?_, rfl⟩, fun h => ⟨fun h2 => ⟨?_, rfl⟩, fun h2 => ⟨?_, rfl⟩⟩⟩
  · exact (x_b0 fun q => Int32.not_lt.mpr q.1 h).symm
  · exact (x_b0 fun q => Int32.not_lt.mpr q.2 h2).symm
  · exact (x_b1 ⟨Int32.not_lt.mp h, Int32.not_lt.mp h2⟩).symm
theorem ok_X10_isSinger {g : xG} (v : Int32) (M : xM) (n : Nat) (hn : n < 5000) (h : M 194 0 = nI n) : mi_X10_isSinger g v M (fun r N => r = x_b (vp_in v n) ∧ N = M) := by
  refine wk_X10_isSinger v M _ ?_
  unfold vc_X10_isSinger
  rw [c_0]
  refine ⟨v_k (n := 0) 239 (by omega) (by omega) rfl, ?_⟩
  refine mo_X10_within (ok_X10_within _ _ _ _) ?_
  rintro _ _ ⟨rfl, rfl⟩
  exact ⟨x_b_nar, by rw [h, x_b_iff (x_hasI hn)], rfl⟩
theorem ok_X10_isSong {g : xG} (v : Int32) (M : xM) (n : Nat) (hn : n < 5000) (h : M 194 1 = nI n) : mi_X10_isSong g v M (fun r N => r = x_b (vp_in v n) ∧ N = M) := by
  refine wk_X10_isSong v M _ ?_
  unfold vc_X10_isSong
  rw [c_1]
  refine ⟨v_k (n := 1) 239 (by omega) (by omega) rfl, ?_⟩
  refine mo_X10_within (ok_X10_within _ _ _ _) ?_
  rintro _ _ ⟨rfl, rfl⟩
  exact ⟨x_b_nar, by rw [h, x_b_iff (x_hasI hn)], rfl⟩
theorem ok_X10_isWish {g : xG} (v : Int32) (M : xM) (n : Nat) (hn : n < 5000) (h : M 194 2 = nI n) : mi_X10_isWish g v M (fun r N => r = x_b (vp_in v n) ∧ N = M) := by
  refine wk_X10_isWish v M _ ?_
  unfold vc_X10_isWish
  rw [c_2]
  refine ⟨v_k (n := 2) 239 (by omega) (by omega) rfl, ?_⟩
  refine mo_X10_within (ok_X10_within _ _ _ _) ?_
  rintro _ _ ⟨rfl, rfl⟩
  exact ⟨x_b_nar, by rw [h, x_b_iff (x_hasI hn)], rfl⟩
theorem ix_s (s p : Nat) : ((7 : Int32) + (5 : Int32) * nI s) + nI p = nI (7 + 5 * s + p) := by
  show (nI 7 + nI 5 * nI s) + nI p = _
  rw [pk_mul, nI_add, nI_add]
theorem ix_g (s p : Nat) : ((67 : Int32) + (4 : Int32) * nI s) + nI p = nI (67 + 4 * s + p) := by
  show (nI 67 + nI 4 * nI s) + nI p = _
  rw [pk_mul, nI_add, nI_add]
theorem ix_g' (u : Nat) : ((67 : Int32) + (4 : Int32) * nI u) + (3 : Int32) = nI (70 + 4 * u) := by
  show (nI 67 + nI 4 * nI u) + nI 3 = _
  rw [pk_mul, nI_add, nI_add]
  congr 1
  omega
theorem ix_w (s p : Nat) : ((131 : Int32) + (3 : Int32) * nI s) + nI p = nI (131 + 3 * s + p) := by
  show (nI 131 + nI 3 * nI s) + nI p = _
  rw [pk_mul, nI_add, nI_add]
theorem ok_X10_singerPart {g : xG} (s p : Nat) (hs : s < 12) (hp : p < 5) (M : xM) : mi_X10_singerPart g (nI s) (nI p) M (fun r N => r = M 194 (7 + 5 * s + p) ∧ N = M) := by
  refine wk_X10_singerPart _ _ M _ ?_
  unfold vc_X10_singerPart
  rw [ix_s, x_cl (by omega)]
  exact ⟨x_vi (by omega) (by omega), rfl, rfl⟩
theorem ok_X10_setSinger {g : xG} (s p : Nat) (hs : s < 12) (hp : p < 5) (v : Int32) (M : xM) : mi_X10_setSinger g (nI s) (nI p) v M (fun N => N = x_up M 194 (7 + 5 * s + p) v) := by
  refine wk_X10_setSinger _ _ _ M _ ?_
  unfold vc_X10_setSinger
  rw [ix_s, x_cl (by omega)]
  exact ⟨x_vi (by omega) (by omega), rfl⟩
theorem ok_X10_songPart {g : xG} (s p : Nat) (hs : s < 16) (hp : p < 4) (M : xM) : mi_X10_songPart g (nI s) (nI p) M (fun r N => r = M 194 (67 + 4 * s + p) ∧ N = M) := by
  refine wk_X10_songPart _ _ M _ ?_
  unfold vc_X10_songPart
  rw [ix_g, x_cl (by omega)]
  exact ⟨x_vi (by omega) (by omega), rfl, rfl⟩
theorem ok_X10_wishPart {g : xG} (s p : Nat) (hs : s < 20) (hp : p < 3) (M : xM) : mi_X10_wishPart g (nI s) (nI p) M (fun r N => r = M 194 (131 + 3 * s + p) ∧ N = M) := by
  refine wk_X10_wishPart _ _ M _ ?_
  unfold vc_X10_wishPart
  rw [ix_w, x_cl (by omega)]
  exact ⟨x_vi (by omega) (by omega), rfl, rfl⟩
/-- how many below n -/
def q_cn (p : Nat → Bool) : Nat → Nat
  | 0 => 0
  | n + 1 => q_cn p n + if p n = true then 1 else 0
theorem q_cn_cong {p p' : Nat → Bool} : ∀ {n : Nat}, (∀ i, i < n → p i = p' i) → q_cn p n = q_cn p' n
  | 0, _ => rfl
  | n + 1, h => by rw [q_cn, q_cn, q_cn_cong (fun i hi => h i (by omega)), h n (by omega)]
theorem q_cn_le {p : Nat → Bool} : ∀ {n : Nat}, q_cn p n ≤ n
  | 0 => Nat.le_refl _
  | n + 1 => by
    have := q_cn_le (p := p) (n := n)
    rw [q_cn]
    split <;> omega
theorem ok_X10_bits {g : xG} (v : Int32) (M : xM) : mi_X10_bits g v M (fun r N => r = nI (q_cn (bt v) 12) ∧ N = M) := by
  refine wk_X10_bits _ M _ (fun k v0 v1 v2 N => ∃ i, i ≤ 12 ∧ k = 12 - i ∧ v0 = v ∧ v1 = nI (q_cn (bt v) i) ∧ v2 = nI i ∧ N = M) ?_ ?_
  · unfold vc_X10_bits
    exact ⟨12, 0, by omega, by omega, rfl, rfl, rfl, rfl⟩
  · rintro k v v1 v2 N ⟨i, hi, rfl, rfl, rfl, rfl, rfl⟩
    unfold vc_X10_bits_1
    rw [show (12 : Int32) = nI 12 from rfl, x_le (by omega) (by omega)]
    refine ⟨fun q => ?_, fun q => ⟨12 - (i + 1), by omega, i + 1, by omega, rfl, rfl, ?_, nI_1 i, rfl⟩⟩
    · have : i = 12 := by omega
      subst this
      exact ⟨rfl, rfl⟩
    · rw [x_bit01 (by omega), q_cn]
      split
      · exact nI_1 _
      · show nI _ + 0 = _
        rw [Int32.add_zero]
        rfl
/-- the singers who are there, of the row -/
theorem ok_X10_there {g : xG} (E M : xM) (K : Nat) (hE : WF K E) (h : RE E (M 194)) : mi_X10_there g M (fun r N => r = E 1 1 ∧ N = M) := by
  obtain ⟨⟨hs1, hs2⟩, -, -, -, hb, -⟩ := hE
  have h0 : M 194 0 = nI (q_s E) := by rw [h.1.1, hs1]
  refine wk_X10_there M _ (fun k v1 v2 N => ∃ i, i ≤ q_s E ∧ k = q_s E - i ∧ (∀ j, j < 32 → bt v1 j = (decide (j < i) && bt (E 1 1) j)) ∧ v2 = nI i ∧ N = M) ?_ ?_
  · unfold vc_X10_there
    exact ⟨q_s E, 0, by omega, by omega, fun j _ => by simp [b_0], rfl, rfl⟩
  · rintro k v1 v2 N ⟨i, hi, rfl, hv, rfl, rfl⟩
    unfold vc_X10_there_1
    rw [c_0, h0, x_le (by omega) (by omega), nI_1]
    refine ⟨v_k (n := 0) 239 (by omega) (by omega) rfl, fun q => ⟨?_, rfl⟩, fun q => ?_⟩
    · have : i = q_s E := by omega
      subst this
      apply b_ext
      intro j hj
      rw [hv j hj]
      cases hq : bt (E 1 1) j with
      | false => simp
      | true => simp [hb j hq]
    · refine mo_X10_singerPart (ok_X10_singerPart i 2 (by omega) (by omega) _) ?_
      rintro r N ⟨rfl, rfl⟩
      have e := (h.2.1 i (by omega)).2.2.1
      rw [show 9 + 5 * i = 7 + 5 * i + 2 by omega] at e
      rw [e]
      refine ⟨fun z => ⟨q_s E - (i + 1), by omega, i + 1, by omega, rfl, fun j hj => ?_, rfl, rfl⟩, fun z => ⟨q_s E - (i + 1), by omega, i + 1, by omega, rfl, fun j hj => ?_, rfl, rfl⟩⟩
      · have nb : bt (E 1 1) i = false := by
          cases hq : bt (E 1 1) i with
          | false => rfl
          | true => exact absurd (by rw [hq]; rfl) z
        rw [b_or, b_0, Bool.or_false, hv j hj]
        by_cases q2 : j = i
        · subst q2
          simp [nb]
        · have : (j < i + 1) ↔ j < i := by omega
          simp [this]
      · have yb : bt (E 1 1) i = true := by
          cases hq : bt (E 1 1) i with
          | true => rfl
          | false => rw [hq] at z; exact absurd z (by decide)
        rw [b_or, b_one (by omega) hj, hv j hj]
        by_cases q2 : j = i
        · subst q2
          simp [yb]
        · have : (j < i + 1) ↔ j < i := by omega
          simp [this, q2]
theorem RE_w {E : xM} {s : Nat → Int32} (h : RE E s) {w : Nat} (hw : w < q_w E) : s (131 + 3 * w + 0) = E 12 w ∧ s (131 + 3 * w + 1) = E 13 w ∧ s (131 + 3 * w + 2) = E 14 w := by
  obtain ⟨h1, h2, h3⟩ := h.2.2.2.1 w hw
  exact ⟨h1, by rw [← h2]; congr 1; omega, by rw [← h3]; congr 1; omega⟩
theorem RE_s {E : xM} {s : Nat → Int32} (h : RE E s) {i : Nat} (hi : i < 12) : s (7 + 5 * i + 0) = E 2 i ∧ s (7 + 5 * i + 1) = E 3 i ∧ s (7 + 5 * i + 2) = (if bt (E 1 1) i = true then 1 else 0) ∧ s (7 + 5 * i + 3) = E 4 i ∧ s (7 + 5 * i + 4) = E 5 i := by
  obtain ⟨h1, h2, h3, h4, h5⟩ := h.2.1 i hi
  exact ⟨h1, by rw [← h2]; congr 1; omega, by rw [← h3]; congr 1; omega, by rw [← h4]; congr 1; omega, by rw [← h5]; congr 1; omega⟩
theorem RE_g {E : xM} {s : Nat → Int32} (h : RE E s) {i : Nat} (hi : i < 16) : s (67 + 4 * i + 0) = E 7 i ∧ s (67 + 4 * i + 1) = E 8 i ∧ s (67 + 4 * i + 2) = E 9 i ∧ s (67 + 4 * i + 3) = E 10 i := by
  obtain ⟨h1, h2, h3, h4⟩ := h.2.2.1 i hi
  exact ⟨h1, by rw [← h2]; congr 1; omega, by rw [← h3]; congr 1; omega, by rw [← h4]; congr 1; omega⟩
theorem ok_X10_singersOf {g : xG} (E M : xM) (w : Nat) (hw20 : w < 20) (hw : w < q_w E) (h : RE E (M 194)) : mi_X10_singersOf g (nI w) M (fun r N => r = q_ss E w ∧ N = M) := by
  obtain ⟨e0, e1, -⟩ := RE_w h hw
  refine wk_X10_singersOf _ M _ ?_
  unfold vc_X10_singersOf
  refine mo_X10_wishPart (ok_X10_wishPart w 1 hw20 (by omega) _) ?_
  rintro r N ⟨rfl, rfl⟩
  refine mo_X10_wishPart (ok_X10_wishPart w 0 hw20 (by omega) _) ?_
  rintro r N ⟨rfl, rfl⟩
  rw [e0, e1]
  refine ⟨fun q => ⟨by rw [q_ss, if_neg q], rfl⟩, fun q => ⟨?_, rfl⟩⟩
  rw [q_ss, if_pos q]
  exact Int32.or_zero
theorem ok_X10_isKeyFor {g : xG} (E M : xM) (s u : Nat) (k : Int32) (hs : s < 12) (hu : u < 16) (h : RE E (M 194)) : mi_X10_isKeyFor g (nI s) (nI u) k M (fun r N => r = x_b (q_kp E (E 2 s) (E 3 s) u k = true) ∧ N = M) := by
  obtain ⟨s0, s1, -⟩ := RE_s h hs
  obtain ⟨g0, g1, -⟩ := RE_g h hu
  refine wk_X10_isKeyFor _ _ _ M _ ?_
  unfold vc_X10_isKeyFor
  refine mo_X10_songPart (ok_X10_songPart u 0 hu (by omega) _) ?_
  rintro r N ⟨rfl, rfl⟩
  refine mo_X10_singerPart (ok_X10_singerPart s 0 hs (by omega) _) ?_
  rintro r N ⟨rfl, rfl⟩
  rw [s0, g0]
  refine ⟨fun q => ⟨(x_b0 ?_).symm, rfl⟩, fun q => ?_⟩
  · simp only [q_kp, Bool.and_eq_true, decide_eq_true_eq]
    exact fun z => Int32.not_lt.mpr z.1 q
  · refine mo_X10_songPart (ok_X10_songPart u 1 hu (by omega) _) ?_
    rintro r N ⟨rfl, rfl⟩
    refine mo_X10_singerPart (ok_X10_singerPart s 1 hs (by omega) _) ?_
    rintro r N ⟨rfl, rfl⟩
    rw [s1, g1]
    refine ⟨fun q2 => ⟨(x_b0 ?_).symm, rfl⟩, fun q2 => ⟨(x_b1 ?_).symm, rfl⟩⟩
    · simp only [q_kp, Bool.and_eq_true, decide_eq_true_eq]
      exact fun z => Int32.not_lt.mpr z.2 q2
    · simp only [q_kp, Bool.and_eq_true, decide_eq_true_eq]
      exact ⟨Int32.not_lt.mp q, Int32.not_lt.mp q2⟩
