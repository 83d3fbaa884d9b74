/-! the law's small methods; a wish in one number -/
/-- v is the wish of the singer f, the other one o, the song s -/
def l_w (v f o s : Int32) : Prop := ∃ a p c, a < 12 ∧ p ≤ 12 ∧ c < 16 ∧ f = nI a ∧ o = (if p = 0 then -6 else nI (p - 1)) ∧ s = nI c ∧ v = nI (10000 * c + 100 * p + a)
theorem l_w_d {v : Int32} {a p c : Nat} (ha : a < 12) (hp : p ≤ 12) (hc : c < 16) (hv : v = nI (10000 * c + 100 * p + a)) : v - v / (100 : Int32) * (100 : Int32) = nI a ∧ (v / (100 : Int32)) - (v / (100 : Int32)) / (100 : Int32) * (100 : Int32) = nI p ∧ v / (10000 : Int32) = nI c := by
  subst hv
  have e100 : (100 : Int32) = nI 100 := rfl
  have e4 : (10000 : Int32) = nI 10000 := rfl
  refine ⟨?_, ?_, ?_⟩
  · rw [e100, pk_rem (by omega) (by decide) (by decide)]
    congr 1
    omega
  · rw [e100, pk_div (by omega) (by decide) (by decide), pk_rem (by omega) (by decide) (by decide)]
    congr 1
    omega
  · rw [e4, pk_div (by omega) (by decide) (by decide)]
    congr 1
    omega
theorem l_40 (a : Nat) : (4 : Int32) * nI a = nI (4 * a) := pk_mul 4 a
theorem l_41 (a : Nat) : ((4 : Int32) * nI a) + (1 : Int32) = nI (4 * a + 1) := by rw [l_40]; exact nI_add _ 1
theorem l_42 (a : Nat) : ((4 : Int32) * nI a) + (2 : Int32) = nI (4 * a + 2) := by rw [l_40]; exact nI_add _ 2
theorem l_43 (a : Nat) : ((4 : Int32) * nI a) + (3 : Int32) = nI (4 * a + 3) := by rw [l_40]; exact nI_add _ 3
theorem l_or0 (x : Int32) : x ||| 0 = x := b_ext fun i _ => by rw [b_or, b_0, Bool.or_false]
/-- the singers of a wish, by its two -/
def l_ss (f o : Int32) : Int32 := if o = -6 then (1 : Int32) <<< (f &&& 31) else ((1 : Int32) <<< (f &&& 31)) ||| ((1 : Int32) <<< (o &&& 31))
theorem l_ss_q (E : xM) (w : Nat) : q_ss E w = l_ss (E 12 w) (E 13 w) := rfl
theorem l_neg0 : (nI 0 - (1 : Int32)) < 0 := by decide +kernel
theorem ok_L_set {g : xG} {v f o s : Int32} (h : l_w v f o s) (M : xM) : mi_L_set g v M (fun r N => r = l_ss f o ∧ N = M) := by
  obtain ⟨a, p, c, ha, hp, hc, rfl, rfl, rfl, hv⟩ := h
  obtain ⟨d1, d2, -⟩ := l_w_d ha hp hc hv
  refine wk_L_set _ M _ ?_
  unfold vc_L_set
  rw [d1, d2]
  rintro y1 rfl
  by_cases h0 : p = 0
  · subst h0
    refine ⟨fun q => absurd l_neg0 (Int32.not_lt.mpr q), fun _ => ⟨?_, rfl⟩⟩
    rw [l_or0, l_ss, if_pos (if_pos rfl)]
  · rw [x_pred (by omega)]
    refine ⟨fun _ => ⟨?_, rfl⟩, fun q => absurd (nI_pos' (by omega)) q⟩
    rw [if_neg h0, l_ss, if_neg (x_nm6 (by omega))]
/-- the turns that count for a wish, by its two -/
def l_tf (T : Nat → Int32) (f o : Int32) : Int32 := if o = -6 then T f.toNatClampNeg else if T f.toNatClampNeg < T o.toNatClampNeg then T o.toNatClampNeg else T f.toNatClampNeg
theorem l_tf_q (E : xM) (T : Nat → Int32) (w : Nat) : q_tf E T w = l_tf T (E 12 w) (E 13 w) := rfl
theorem ok_L_turns {g : xG} {v f o s : Int32} (t : Nat) (ht : x_isA t 0 48) (T : Nat → Int32) (h : l_w v f o s) (M : xM) (hT : ∀ i, i < 12 → M t (4 * i + 2) = T i) : mi_L_turns g v t M (fun r N => r = l_tf T f o ∧ N = M) := by
  obtain ⟨a, p, c, ha, hp, hc, rfl, rfl, rfl, hv⟩ := h
  obtain ⟨d1, d2, -⟩ := l_w_d ha hp hc hv
  refine wk_L_turns _ t ht M _ ?_
  unfold vc_L_turns
  rw [d1, d2, l_42, x_cl (by omega), hT a ha]
  refine ⟨x_vi (by omega) (by omega), ?_⟩
  rintro y1 rfl
  rintro y2 rfl
  by_cases h0 : p = 0
  · subst h0
    refine ⟨fun _ => ⟨?_, rfl⟩, fun q => absurd l_neg0 q⟩
    rw [l_tf, if_pos (if_pos rfl), x_cl (by omega)]
  · rw [x_pred (by omega), l_42, x_cl (by omega), hT (p - 1) (by omega), if_neg h0]
    have v48 : vp_in (nI (4 * (p - 1) + 2)) 48 := x_vi (by omega) (by omega)
    refine ⟨fun q => absurd q (x_neg (by omega)), fun _ => ⟨v48, fun q => ⟨?_, rfl⟩, fun q => ⟨v48, ?_, rfl⟩⟩⟩
    · rw [l_tf, if_neg (x_nm6 (by omega)), x_cl (by omega), x_cl (by omega), if_neg (Int32.not_lt.mpr q)]
    · rw [l_tf, if_neg (x_nm6 (by omega)), x_cl (by omega), x_cl (by omega), if_pos (Int32.not_le.mp q)]
theorem ok_L_low {g : xG} (v : Int32) (n : Nat) (h0 : 0 < n) (hn : n < 5000) (M : xM) : mi_L_low g v (nI n) M (fun r N => (∃ k, k < n ∧ r = nI k) ∧ N = M) := by
  refine wk_L_low _ _ M _ ?_
  unfold vc_L_low
  rw [pk_and v 31 (by decide +kernel), pk_rem (Nat.mod_lt _ (by decide)) h0 (by omega)]
  exact ⟨nI_ne0 h0 (by omega), ⟨_, Nat.mod_lt _ h0, rfl⟩, rfl⟩
theorem ok_L_copy {g : xG} {n m : Nat} (a b : Nat) (ha : x_isA a 0 n) (hb : x_isA b 0 m) (hab : a ≠ b) (z : Nat) (h1 : z ≤ n) (h2 : z ≤ m) (h5 : m < 5000) (h6 : n < 5000) (M : xM) : mi_L_copy g a b (nI z) M (fun N => (∀ k, k < z → N b k = M a k) ∧ (∀ k, z ≤ k → N b k = M b k) ∧ ∀ c, c ≠ b → N c = M c) := by
  refine wk_L_copy a b (nI z) ha hb M _ (fun k v2 v3 N => ∃ i, i ≤ z ∧ k = z - i ∧ v2 = nI z ∧ v3 = nI i ∧ (∀ j, j < i → N b j = M a j) ∧ (∀ j, i ≤ j → N b j = M b j) ∧ ∀ c, c ≠ b → N c = M c) ?_ ?_
  · unfold vc_L_copy
    exact ⟨z, 0, by omega, by omega, rfl, rfl, fun j hj => absurd hj (by omega), fun _ _ => rfl, fun _ _ => rfl⟩
  · rintro k v2 v3 N ⟨i, hi, rfl, rfl, rfl, c1, c2, c3⟩
    unfold vc_L_copy_1
    rw [x_le (by omega) (by omega), x_cl (by omega)]
    refine ⟨fun q => ?_, fun q => ⟨x_vi (by omega) (by omega), x_vi (by omega) (by omega), z - (i + 1), by omega, i + 1, by omega, rfl, rfl, nI_1 i, fun j hj => ?_, fun j hj => ?_, fun c hc => ?_⟩⟩
    · have : i = z := by omega
      subst this
      exact ⟨c1, c2, c3⟩
    · by_cases e : j = i
      · subst e
        simp [x_up, c3 a hab]
      · simp only [x_up]
        rw [if_neg (by omega)]
        exact c1 j (by omega)
    · simp only [x_up]
      rw [if_neg (by omega)]
      exact c2 j (by omega)
    · rw [x_up_other hc]
      exact c3 c hc
/-! counting bits -/
theorem l_pop2 : ∀ h, h < 64 → ∀ l, l < 64 → 64 * h + l ≠ 0 → q_cn (fun i => (64 * h + l).testBit i) 12 = q_cn (fun i => ((64 * h + l) &&& (64 * h + l - 1)).testBit i) 12 + 1 := by decide +kernel
theorem l_pop (x : Nat) (hx : x < 4096) (h0 : x ≠ 0) : q_cn (fun i => x.testBit i) 12 = q_cn (fun i => (x &&& (x - 1)).testBit i) 12 + 1 := by
  have e : 64 * (x / 64) + x % 64 = x := by omega
  have := l_pop2 (x / 64) (by omega) (x % 64) (by omega) (by omega)
  rw [e] at this
  exact this
theorem l_andlt : ∀ x, x < 4096 → x ≠ 0 → x &&& (x - 1) < x := fun x _ h => Nat.lt_of_le_of_lt Nat.and_le_right (by omega)
theorem l_cn0 (n : Nat) : q_cn (fun i => (0 : Nat).testBit i) n = 0 := by
  induction n with
  | zero => rfl
  | succ n ih => rw [q_cn, ih, Nat.zero_testBit]; rfl
theorem ok_L_bits {g : xG} (x : Nat) (hx : x < 4096) (M : xM) : mi_L_bits g (nI x) M (fun r N => r = nI (q_cn (fun i => x.testBit i) 12) ∧ N = M) := by
  refine wk_L_bits _ M _ (fun k v1 v2 N => ∃ c y, y < 4096 ∧ k = y ∧ v2 = nI y ∧ v1 = nI c ∧ c + q_cn (fun i => y.testBit i) 12 = q_cn (fun i => x.testBit i) 12 ∧ N = M) ?_ ?_
  · unfold vc_L_bits
    exact ⟨x, 0, x, hx, rfl, rfl, rfl, by omega, rfl⟩
  · rintro k v1 v2 N ⟨c, y, hy, rfl, rfl, rfl, e, rfl⟩
    unfold vc_L_bits_1
    rw [← nI_0, x_eq (by omega) (by omega)]
    refine ⟨fun q => ?_, fun q => ?_⟩
    · subst q
      rw [l_cn0] at e
      exact ⟨by rw [← e]; rfl, rfl⟩
    · rw [x_pred (by omega), nx_and, nI_1]
      have := l_pop k hy q
      have l2 := l_andlt k hy q
      exact ⟨k &&& (k - 1), l2, c + 1, k &&& (k - 1), by omega, rfl, rfl, rfl, by omega, rfl⟩
theorem l_bits {v : Int32} (hv : ∀ i, 12 ≤ i → bt v i = false) : ∃ x, x < 4096 ∧ v = nI x ∧ q_cn (fun i => x.testBit i) 12 = q_cn (bt v) 12 := by
  obtain ⟨u, hu, rfl⟩ := wb_of32 v
  have hu12 : u < 2 ^ 12 := Nat.lt_pow_two_of_testBit u fun i hi => by rw [← nI_tb hu]; exact hv i hi
  exact ⟨u, hu12, rfl, q_cn_cong fun i _ => (nI_tb hu).symm⟩
