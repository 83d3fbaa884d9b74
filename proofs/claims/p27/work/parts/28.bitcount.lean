theorem nx_and (a b : Nat) : nI a &&& nI b = nI (a &&& b) := by
  apply Int32.toBitVec_inj.1
  show BitVec.ofNat 32 a &&& BitVec.ofNat 32 b = BitVec.ofNat 32 (a &&& b)
  apply BitVec.eq_of_getLsbD_eq
  intro i hi
  simp [hi]
theorem n_sp (x y : Nat) : x &&& y = 256 * ((x / 256) &&& (y / 256)) + ((x % 256) &&& (y % 256)) := by
  have h1 : (x &&& y) / 2 ^ 8 = x / 2 ^ 8 &&& y / 2 ^ 8 := Nat.and_div_two_pow
  have h2 : (x &&& y) % 2 ^ 8 = (x % 2 ^ 8) &&& (y % 2 ^ 8) := Nat.and_mod_two_pow
  have h3 := Nat.div_add_mod (x &&& y) (2 ^ 8)
  rw [h1, h2] at h3
  exact h3.symm
def n_1 (a : Nat) : Nat := a - (a / 2 &&& 85)
def n_2 (a : Nat) : Nat := (a &&& 51) + (a / 4 &&& 51)
theorem n_f1 : ∀ a, a < 256 → ∀ t, t < 2 → (a / 2 + 128 * t) &&& 85 = (a / 2 &&& 85) := by decide +kernel
theorem n_f1b : ∀ a, a < 256 → (a / 2 &&& 85) ≤ a := by decide +kernel
theorem n_f2 : ∀ a, a < 256 → ∀ t, t < 4 → (a / 4 + 64 * t) &&& 51 = (a / 4 &&& 51) := by decide +kernel
theorem n_f3 : ∀ a, a < 256 → n_2 (n_1 a) ≤ 68 ∧ n_2 (n_1 a) % 16 ≤ 4 ∧ (n_2 (n_1 a) + n_2 (n_1 a) / 16) % 16 = q_cn (fun i => a.testBit i) 8 := by decide +kernel
theorem n_f4 : ∀ c, c < 16 → (c / 2 &&& 21845) = (c / 2 &&& 85) ∧ (c &&& 13107) = (c &&& 51) ∧ (c / 4 &&& 13107) = (c / 4 &&& 51) ∧ n_1 c < 16 := by decide +kernel
theorem n_s1 (a b c : Nat) (ha : a < 256) (hb : b < 256) (hc : c < 16) : (a + 256 * b + 65536 * c) - ((a + 256 * b + 65536 * c) / 2 &&& 1431655765) = n_1 a + 256 * n_1 b + 65536 * n_1 c := by
  have e1 : ((a + 256 * b + 65536 * c) / 2) / 256 = (b + 256 * c) / 2 := by omega
  have e2 : ((a + 256 * b + 65536 * c) / 2) % 256 = a / 2 + 128 * (b % 2) := by omega
  have e3 : ((b + 256 * c) / 2) / 256 = c / 2 := by omega
  have e4 : ((b + 256 * c) / 2) % 256 = b / 2 + 128 * (c % 2) := by omega
  rw [n_sp _ 1431655765, e1, e2, show 1431655765 / 256 = 5592405 from rfl, show 1431655765 % 256 = 85 from rfl, n_f1 a ha _ (by omega), n_sp _ 5592405, e3, e4, show 5592405 / 256 = 21845 from rfl, show 5592405 % 256 = 85 from rfl, n_f1 b hb _ (by omega), (n_f4 c hc).1]
  have l1 := n_f1b a ha
  have l2 := n_f1b b hb
  have l3 := n_f1b c (by omega)
  unfold n_1
  omega
theorem n_s2 (a b c : Nat) (ha : a < 256) (hb : b < 256) (hc : c < 16) : ((a + 256 * b + 65536 * c) &&& 858993459) + ((a + 256 * b + 65536 * c) / 4 &&& 858993459) = n_2 a + 256 * n_2 b + 65536 * n_2 c := by
  have d1 : (a + 256 * b + 65536 * c) / 256 = b + 256 * c := by omega
  have d2 : (a + 256 * b + 65536 * c) % 256 = a := by omega
  have d3 : (b + 256 * c) / 256 = c := by omega
  have d4 : (b + 256 * c) % 256 = b := by omega
  have e1 : ((a + 256 * b + 65536 * c) / 4) / 256 = (b + 256 * c) / 4 := by omega
  have e2 : ((a + 256 * b + 65536 * c) / 4) % 256 = a / 4 + 64 * (b % 4) := by omega
  have e3 : ((b + 256 * c) / 4) / 256 = c / 4 := by omega
  have e4 : ((b + 256 * c) / 4) % 256 = b / 4 + 64 * (c % 4) := by omega
  rw [n_sp (a + 256 * b + 65536 * c) 858993459, n_sp ((a + 256 * b + 65536 * c) / 4) 858993459, d1, d2, e1, e2, show 858993459 / 256 = 3355443 from rfl, show 858993459 % 256 = 51 from rfl, n_f2 a ha _ (by omega), n_sp (b + 256 * c) 3355443, n_sp ((b + 256 * c) / 4) 3355443, d3, d4, e3, e4, show 3355443 / 256 = 13107 from rfl, show 3355443 % 256 = 51 from rfl, n_f2 b hb _ (by omega), (n_f4 c hc).2.1, (n_f4 c hc).2.2.1]
  unfold n_2
  omega
theorem n_m15 (x : Nat) (h : x < 256) : x &&& 15 = x % 16 := Nat.and_two_pow_sub_one_eq_mod x 4
theorem n_s3 (a b c : Nat) (ha : a ≤ 68) (ha2 : a % 16 ≤ 4) (hb : b ≤ 68) (hb2 : b % 16 ≤ 4) (hc : c ≤ 68) (hc2 : c % 16 ≤ 4) : ((a + 256 * b + 65536 * c) + (a + 256 * b + 65536 * c) / 16) &&& 252645135 = (a + a / 16) % 16 + 256 * ((b + b / 16) % 16) + 65536 * ((c + c / 16) % 16) := by
  generalize hz : (a + 256 * b + 65536 * c) + (a + 256 * b + 65536 * c) / 16 = z
  have d1 : z / 256 = (b + b / 16 + 16 * (c % 16)) + 256 * (c + c / 16) := by omega
  have d2 : z % 256 = a + a / 16 + 16 * (b % 16) := by omega
  have d3 : ((b + b / 16 + 16 * (c % 16)) + 256 * (c + c / 16)) / 256 = c + c / 16 := by omega
  have d4 : ((b + b / 16 + 16 * (c % 16)) + 256 * (c + c / 16)) % 256 = b + b / 16 + 16 * (c % 16) := by omega
  have d5 : (c + c / 16) / 256 = 0 := by omega
  have d6 : (c + c / 16) % 256 = c + c / 16 := by omega
  rw [n_sp z 252645135, d1, d2, show 252645135 / 256 = 986895 from rfl, show 252645135 % 256 = 15 from rfl, n_m15 _ (by omega), n_sp _ 986895, d3, d4, show 986895 / 256 = 3855 from rfl, show 986895 % 256 = 15 from rfl, n_m15 _ (by omega), n_sp _ 3855, d5, d6, show 3855 / 256 = 15 from rfl, show 3855 % 256 = 15 from rfl, Nat.zero_and, n_m15 (c + c / 16) (by omega)]
  omega
theorem q_cn_add (p : Nat → Bool) (m : Nat) : ∀ n, q_cn p (m + n) = q_cn p m + q_cn (fun i => p (m + i)) n
  | 0 => rfl
  | n + 1 => by
    have := q_cn_add p m n
    rw [show m + (n + 1) = (m + n) + 1 by omega, q_cn, this, q_cn]
    omega
theorem nI_tb {u i : Nat} (h : u < 2 ^ 32) : bt (nI u) i = u.testBit i := by
  show (BitVec.ofNat 32 u).getLsbD i = _
  rw [BitVec.getLsbD_ofNat]
  by_cases q : i < 32
  · simp [q]
  · simp [q]
    exact Nat.testBit_lt_two_pow (Nat.lt_of_lt_of_le h (Nat.pow_le_pow_right (show 0 < 2 by decide) (show 32 ≤ i by omega)))
theorem n_cnt (a b c : Nat) (ha : a < 256) (hb : b < 256) (hc : c < 16) : q_cn (fun i => (a + 256 * b + 65536 * c).testBit i) 20 = q_cn (fun i => a.testBit i) 8 + q_cn (fun i => b.testBit i) 8 + q_cn (fun i => c.testBit i) 8 := by
  have h3 : q_cn (fun i => c.testBit i) 8 = q_cn (fun i => c.testBit i) 4 := by
    have := q_cn_add (fun i => c.testBit i) 4 4
    rw [show (8 : Nat) = 4 + 4 from rfl, this]
    have z : q_cn (fun i => c.testBit (4 + i)) 4 = q_cn (fun _ => false) 4 := q_cn_cong fun i _ => Nat.testBit_lt_two_pow (Nat.lt_of_lt_of_le hc (Nat.pow_le_pow_right (n := 2) (i := 4) (by omega) (by omega)))
    rw [z]
    rfl
  have s1 := q_cn_add (fun i => (a + 256 * b + 65536 * c).testBit i) 8 12
  have s2 := q_cn_add (fun i => (a + 256 * b + 65536 * c).testBit (8 + i)) 8 4
  rw [show (20 : Nat) = 8 + 12 from rfl, s1, show (12 : Nat) = 8 + 4 from rfl, s2, h3]
  have t1 : q_cn (fun i => (a + 256 * b + 65536 * c).testBit i) 8 = q_cn (fun i => a.testBit i) 8 := q_cn_cong fun i hi => by
    have := Nat.testBit_mod_two_pow (a + 256 * b + 65536 * c) 8 i
    rw [show (a + 256 * b + 65536 * c) % 2 ^ 8 = a by omega] at this
    simpa [hi] using this.symm
  have t2 : q_cn (fun i => (a + 256 * b + 65536 * c).testBit (8 + i)) 8 = q_cn (fun i => b.testBit i) 8 := q_cn_cong fun i hi => by
    have h1 := Nat.testBit_div_two_pow (n := 8) (a + 256 * b + 65536 * c) i
    have h2 := Nat.testBit_mod_two_pow ((a + 256 * b + 65536 * c) / 2 ^ 8) 8 i
    rw [show (a + 256 * b + 65536 * c) / 2 ^ 8 % 2 ^ 8 = b by omega, h1] at h2
    rw [Nat.add_comm 8 i]
    simpa [hi] using h2.symm
  have t3 : q_cn (fun i => (a + 256 * b + 65536 * c).testBit (8 + (8 + i))) 4 = q_cn (fun i => c.testBit i) 4 := q_cn_cong fun i hi => by
    have h1 := Nat.testBit_div_two_pow (n := 16) (a + 256 * b + 65536 * c) i
    rw [show (a + 256 * b + 65536 * c) / 2 ^ 16 = c by omega] at h1
    rw [h1]
    congr 1
    omega
  rw [t1, t2, t3]
  omega
theorem n_fin (A B C : Nat) (pa : A ≤ 8) (pb : B ≤ 8) (pc : C ≤ 8) : (((A + 256 * B + 65536 * C) + (A + 256 * B + 65536 * C) / 256) + ((A + 256 * B + 65536 * C) + (A + 256 * B + 65536 * C) / 256) / 65536) % 2 ^ 6 = A + B + C := by
  have w1 : (A + 256 * B + 65536 * C) / 256 = B + 256 * C := by omega
  rw [w1]
  have w2 : (A + 256 * B + 65536 * C + (B + 256 * C)) / 65536 = C := by omega
  rw [w2]
  omega
theorem ok_bitCount {g : xG} (v : Int32) (hv : ∀ i, 20 ≤ i → bt v i = false) (M : xM) : mi_J6_bitCount_0f7a4 g v M (fun r N => r = nI (q_cn (bt v) 20) ∧ N = M) := by
  obtain ⟨u, hu, rfl⟩ := wb_of32 v
  have hu20 : u < 2 ^ 20 := Nat.lt_pow_two_of_testBit u fun i hi => by rw [← nI_tb hu]; exact hv i hi
  have eu : u = (u % 256) + 256 * (u / 256 % 256) + 65536 * (u / 65536) := by omega
  have ebt : q_cn (bt (nI u)) 20 = q_cn (fun i => u.testBit i) 20 := q_cn_cong fun i _ => nI_tb hu
  rw [ebt]
  obtain ⟨a, ha⟩ : ∃ a, u % 256 = a := ⟨_, rfl⟩
  obtain ⟨b, hb⟩ : ∃ b, u / 256 % 256 = b := ⟨_, rfl⟩
  obtain ⟨c, hc⟩ : ∃ c, u / 65536 = c := ⟨_, rfl⟩
  have la : a < 256 := by omega
  have lb : b < 256 := by omega
  have lc : c < 16 := by omega
  rw [ha, hb, hc] at eu
  rw [eu] at hu ⊢
  rw [n_cnt a b c la lb lc]
  obtain ⟨a1, a2, a3⟩ := n_f3 a la
  obtain ⟨b1, b2, b3⟩ := n_f3 b lb
  obtain ⟨c1, c2, c3⟩ := n_f3 c (by omega)
  have na : n_1 a ≤ a := Nat.sub_le _ _
  have nb : n_1 b ≤ b := Nat.sub_le _ _
  have nc : n_1 c < 16 := (n_f4 c lc).2.2.2
  refine wk_J6_bitCount_0f7a4 _ M _ ?_
  unfold vc_J6_bitCount_0f7a4
  intro y1 h1
  have hle : (a + 256 * b + 65536 * c) / 2 &&& 1431655765 ≤ a + 256 * b + 65536 * c := Nat.le_trans Nat.and_le_left (Nat.div_le_self _ _)
  have g1 : y1 = nI (n_1 a + 256 * n_1 b + 65536 * n_1 c) := by
    rw [h1, pk_ushrN hu 1 1 (by decide), show (1431655765 : Int32) = nI 1431655765 from rfl, nx_and, show (2 : Nat) ^ 1 = 2 from rfl, pk_sub hle, n_s1 a b c la lb lc]
  intro y2 h2
  have g2 : y2 = nI (n_2 (n_1 a) + 256 * n_2 (n_1 b) + 65536 * n_2 (n_1 c)) := by
    rw [h2, g1, pk_ushrN (by omega) 2 2 (by decide), show (858993459 : Int32) = nI 858993459 from rfl, nx_and, nx_and, nI_add, show (2 : Nat) ^ 2 = 4 from rfl, n_s2 _ _ _ (by omega) (by omega) nc]
  intro y3 h3
  have g3 : y3 = nI (q_cn (fun i => a.testBit i) 8 + 256 * q_cn (fun i => b.testBit i) 8 + 65536 * q_cn (fun i => c.testBit i) 8) := by
    rw [h3, g2, pk_ushrN (by omega) 4 4 (by decide), show (252645135 : Int32) = nI 252645135 from rfl, nI_add, nx_and, show (2 : Nat) ^ 4 = 16 from rfl, n_s3 _ _ _ a1 a2 b1 b2 c1 c2, a3, b3, c3]
  have pa := q_cn_le (p := fun i => a.testBit i) (n := 8)
  have pb := q_cn_le (p := fun i => b.testBit i) (n := 8)
  have pc := q_cn_le (p := fun i => c.testBit i) (n := 8)
  generalize q_cn (fun i => a.testBit i) 8 = A at *
  generalize q_cn (fun i => b.testBit i) 8 = B at *
  generalize q_cn (fun i => c.testBit i) 8 = C at *
  intro y4 h4
  have g4 : y4 = nI ((A + 256 * B + 65536 * C) + (A + 256 * B + 65536 * C) / 256) := by
    rw [h4, g3, pk_ushrN (by omega) 8 8 (by decide), nI_add]
  intro y5 h5
  have g5 : y5 = nI (((A + 256 * B + 65536 * C) + (A + 256 * B + 65536 * C) / 256) + ((A + 256 * B + 65536 * C) + (A + 256 * B + 65536 * C) / 256) / 65536) := by
    rw [h5, g4, pk_ushrN (by omega) 16 16 (by decide), nI_add]
  refine ⟨?_, rfl⟩
  rw [g5, show (63 : Int32) = nI 63 from rfl, nx_and]
  congr 1
  have m63 := Nat.and_two_pow_sub_one_eq_mod (((A + 256 * B + 65536 * C) + (A + 256 * B + 65536 * C) / 256) + ((A + 256 * B + 65536 * C) + (A + 256 * B + 65536 * C) / 256) / 65536) 6
  rw [show (2 : Nat) ^ 6 - 1 = 63 from rfl] at m63
  rw [m63]
  exact n_fin A B C pa pb pc
