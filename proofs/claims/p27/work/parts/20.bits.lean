def bt (x : Int32) (i : Nat) : Bool := x.toBitVec.getLsbD i
theorem b_ext {x y : Int32} (h : ∀ i, i < 32 → bt x i = bt y i) : x = y := Int32.toBitVec_inj.mp (BitVec.eq_of_getLsbD_eq (fun i hi => h i hi))
theorem b_or (x y : Int32) (i : Nat) : bt (x ||| y) i = (bt x i || bt y i) := by unfold bt; rw [Int32.toBitVec_or, BitVec.getLsbD_or]
theorem b_and (x y : Int32) (i : Nat) : bt (x &&& y) i = (bt x i && bt y i) := by unfold bt; rw [Int32.toBitVec_and, BitVec.getLsbD_and]
theorem b_xor (x y : Int32) (i : Nat) : bt (x ^^^ y) i = (bt x i ^^ bt y i) := by unfold bt; rw [Int32.toBitVec_xor, BitVec.getLsbD_xor]
theorem b_big {x : Int32} {i : Nat} (h : 32 ≤ i) : bt x i = false := BitVec.getLsbD_of_ge _ _ h
theorem b_255 (i : Nat) : bt 255 i = decide (i < 8) := by
  rcases Nat.lt_or_ge i 32 with h | h
  · exact (by decide +kernel : ∀ i, i < 32 → bt 255 i = decide (i < 8)) i h
  · rw [b_big h, decide_eq_false (by omega)]
theorem b_65535 (i : Nat) : bt 65535 i = decide (i < 16) := by
  rcases Nat.lt_or_ge i 32 with h | h
  · exact (by decide +kernel : ∀ i, i < 32 → bt 65535 i = decide (i < 16)) i h
  · rw [b_big h, decide_eq_false (by omega)]
theorem b_m1 : ∀ i, i < 32 → bt (-1) i = true := by decide +kernel
theorem b_0 (i : Nat) : bt 0 i = false := BitVec.getLsbD_zero
theorem s_l : ∀ n, n < 32 → ((nI n &&& 31).toBitVec.smod 32).toNat = n := by decide +kernel
theorem s_u : ∀ n, n < 32 → (((nI n).toUInt32 &&& Int32.toUInt32 31).toBitVec % 32).toNat = n := by decide +kernel
theorem b_shl (n : Nat) (hn : n < 32) (x : Int32) {i : Nat} (hi : i < 32) : bt (x <<< (nI n &&& 31)) i = (decide (n ≤ i) && bt x (i - n)) := by
  unfold bt
  rw [Int32.toBitVec_shiftLeft]
  show (x.toBitVec <<< ((nI n &&& 31).toBitVec.smod 32).toNat).getLsbD i = _
  rw [s_l n hn, BitVec.getLsbD_shiftLeft]
  rcases Nat.lt_or_ge i n with h | h
  · simp [h, Nat.not_le.mpr h]
  · simp [hi, h, Nat.not_lt.mpr h]
theorem b_ushr (n : Nat) (hn : n < 32) (x : Int32) (i : Nat) : bt ((x.toUInt32 >>> ((nI n).toUInt32 &&& Int32.toUInt32 31)).toInt32) i = bt x (n + i) := by
  show (x.toUInt32 >>> ((nI n).toUInt32 &&& Int32.toUInt32 31)).toBitVec.getLsbD i = x.toUInt32.toBitVec.getLsbD (n + i)
  rw [UInt32.toBitVec_shiftRight]
  show (x.toUInt32.toBitVec >>> (((nI n).toUInt32 &&& Int32.toUInt32 31).toBitVec % 32).toNat).getLsbD i = _
  rw [s_u n hn, BitVec.getLsbD_ushiftRight]
theorem b_sshr (n : Nat) (hn : n < 32) (x : Int32) {i : Nat} (hi : i < 32) : bt (x >>> (nI n &&& 31)) i = if n + i < 32 then bt x (n + i) else bt x 31 := by
  unfold bt
  rw [Int32.toBitVec_shiftRight]
  show (x.toBitVec.sshiftRight ((nI n &&& 31).toBitVec.smod 32).toNat).getLsbD i = _
  rw [s_l n hn, BitVec.getLsbD_sshiftRight, BitVec.msb_eq_getLsbD_last]
  simp [hi]
theorem b_shl8 (x : Int32) {i : Nat} (hi : i < 32) : bt (x <<< ((8 : Int32) &&& 31)) i = (decide (8 ≤ i) && bt x (i - 8)) := b_shl 8 (by omega) x hi
theorem b_shl16 (x : Int32) {i : Nat} (hi : i < 32) : bt (x <<< ((16 : Int32) &&& 31)) i = (decide (16 ≤ i) && bt x (i - 16)) := b_shl 16 (by omega) x hi
theorem b_shl24 (x : Int32) {i : Nat} (hi : i < 32) : bt (x <<< ((24 : Int32) &&& 31)) i = (decide (24 ≤ i) && bt x (i - 24)) := b_shl 24 (by omega) x hi
theorem b_sshr8 (x : Int32) {i : Nat} (hi : i < 32) : bt (x >>> ((8 : Int32) &&& 31)) i = if 8 + i < 32 then bt x (8 + i) else bt x 31 := b_sshr 8 (by omega) x hi
noncomputable def x_b (p : Prop) : Int32 := @ite Int32 p (Classical.propDecidable p) 1 0
theorem x_b1 {p : Prop} (h : p) : x_b p = 1 := by unfold x_b; rw [if_pos h]
theorem x_b0 {p : Prop} (h : ¬ p) : x_b p = 0 := by unfold x_b; rw [if_neg h]
theorem x_b_eq {p : Prop} : x_b p = 0 ↔ ¬ p := by
  by_cases h : p
  · rw [x_b1 h]; exact ⟨fun q => absurd q (by decide), fun q => absurd h q⟩
  · rw [x_b0 h]; exact ⟨fun _ => h, fun _ => rfl⟩
theorem x_b_ne {p : Prop} : ¬ x_b p = 0 ↔ p := by rw [x_b_eq, Classical.not_not]
theorem x_b_nar {p : Prop} : narrow .boolean (.int (x_b p)) = .int (x_b p) := by
  by_cases h : p
  · rw [x_b1 h]; rfl
  · rw [x_b0 h]; rfl
theorem x_b_iff {p q : Prop} (h : p ↔ q) : x_b p = x_b q := by rw [propext h]
theorem x_cl {n : Nat} (h : n < 5000) : (nI n).toNatClampNeg = n := nI_clamp (by omega)
theorem x_vi {n N : Nat} (h : n < N) (hN : N ≤ 5000) : vp_in (nI n) N := vp_in_nI h (by omega)
theorem x_le {a b : Nat} (ha : a < 5000) (hb : b < 5000) : nI a ≤ nI b ↔ a ≤ b := nI_leI (by omega) (by omega)
theorem x_lt {a b : Nat} (ha : a < 5000) (hb : b < 5000) : nI a < nI b ↔ a < b := nI_ltI (by omega) (by omega)
theorem x_eq {a b : Nat} (ha : a < 5000) (hb : b < 5000) : nI a = nI b ↔ a = b := nI_eq (by omega) (by omega)
theorem x_pred {n : Nat} (h : 0 < n) : nI n - 1 = nI (n - 1) := by
  obtain ⟨m, rfl⟩ : ∃ m, n = m + 1 := ⟨n - 1, by omega⟩
  exact nI_pred m
theorem x_nm6 {n : Nat} (h : n < 5000) : ¬ nI n = (-6 : Int32) := by
  intro q
  have h1 := congrArg Int32.toInt q
  rw [nI_toInt (by omega)] at h1
  have h2 : ((-6 : Int32)).toInt = -6 := by decide
  omega
theorem x_neg {n : Nat} (h : n < 5000) : ¬ nI n < 0 := nI_pos (by omega)
theorem x_hasI {v : Int32} {n : Nat} (hn : n < 5000) : (0 ≤ v ∧ v ≤ nI n - 1) ↔ vp_in v n := by
  rw [vp_in_iff, Int32.le_iff_toInt_le, Int32.le_iff_toInt_le]
  have h1 : (nI n - 1).toInt = (n : Int) - 1 := pk_sub_toInt (a := n) (b := 1) (by omega) (by omega)
  rw [h1]
  have h2 : (0 : Int32).toInt = 0 := rfl
  omega
theorem x_of {v : Int32} {n : Nat} (hn : n < 5000) (h : vp_in v n) : ∃ k, k < n ∧ v = nI k := vp_in_of h (by omega)
theorem x_bit {x : Int32} {i : Nat} (h : i < 32) : (x >>> (nI i &&& 31)) &&& 1 = 1 ↔ bt x i = true := by
  have e : ∀ j, j < 32 → bt ((x >>> (nI i &&& 31)) &&& 1) j = (decide (j = 0) && bt x i) := by
    intro j hj
    rw [b_and, b_sshr i h x hj]
    have h1 : bt 1 j = decide (j = 0) := (by decide +kernel : ∀ j, j < 32 → bt 1 j = decide (j = 0)) j hj
    rw [h1]
    by_cases q : j = 0
    · subst q
      simp [h]
    · simp [q]
  constructor
  · intro q
    have := e 0 (by omega)
    rw [q] at this
    simpa [show bt 1 0 = true by decide +kernel] using this.symm
  · intro q
    apply b_ext
    intro j hj
    rw [e j hj, q, (by decide +kernel : ∀ j, j < 32 → bt 1 j = decide (j = 0)) j hj]
    simp
theorem x_bit01 {x : Int32} {i : Nat} (h : i < 32) : (x >>> (nI i &&& 31)) &&& 1 = if bt x i then 1 else 0 := by
  by_cases q : bt x i = true
  · rw [(x_bit h).mpr q, if_pos q]
  · rw [if_neg q]
    have e : ∀ j, j < 32 → bt ((x >>> (nI i &&& 31)) &&& 1) j = bt 0 j := by
      intro j hj
      rw [b_and, b_sshr i h x hj, b_0]
      have h1 : bt 1 j = decide (j = 0) := (by decide +kernel : ∀ j, j < 32 → bt 1 j = decide (j = 0)) j hj
      rw [h1]
      by_cases z : j = 0
      · subst z
        simp [h, q]
      · simp [z]
    exact b_ext e
theorem b_one {i j : Nat} (hi : i < 32) (hj : j < 32) : bt ((1 : Int32) <<< (nI i &&& 31)) j = decide (j = i) := by
  rw [b_shl i hi _ hj]
  have h1 : ∀ j, bt 1 j = decide (j = 0) := by
    intro j
    rcases Nat.lt_or_ge j 32 with q | q
    · exact (by decide +kernel : ∀ j, j < 32 → bt 1 j = decide (j = 0)) j q
    · rw [b_big q, decide_eq_false (by omega)]
  rw [h1]
  by_cases q : j = i
  · subst q
    simp
  · by_cases r : i ≤ j
    · have : ¬ j - i = 0 := by omega
      simp [q, this]
    · simp [q, r]
theorem b_not {x : Int32} {j : Nat} (hj : j < 32) : bt (x ^^^ (-1)) j = !bt x j := by
  rw [b_xor, b_m1 j hj]
  simp
theorem b_zero {x : Int32} : x = 0 ↔ ∀ i, i < 32 → bt x i = false := by
  constructor
  · intro h i _
    rw [h, b_0]
  · intro h
    exact b_ext fun i hi => by rw [h i hi, b_0]
