/-! the class: the fault, characters put on the pad -/
/-- the rows hold the wishes -/
def q_ld (N : xM) (L : List q_Wi) : Prop := ∀ i w, L[i]? = some w → N 188 i = nI w.1 ∧ N 189 i = q_on w.2.1 ∧ N 190 i = nI w.2.2
theorem ok_X3_faultOn {g : xG} (M : xM) (tx : Nat → Nat) (n : Nat) (h : q_pd M tx n) : mi_X3_faultOn g M (fun r N => r = q_on (q_pa tx n 15 0).1 ∧ ((q_pa tx n 15 0).1 = none → N 187 3 = nI (q_pa tx n 15 0).2.length ∧ (q_pa tx n 15 0).2.length ≤ 15 ∧ q_ld N (q_pa tx n 15 0).2 ∧ ∀ w ∈ (q_pa tx n 15 0).2, q_wok w) ∧ (∀ p, (q_pa tx n 15 0).1 = some p → p ≤ 60) ∧ ∀ c, c ≠ 187 → c ≠ 188 → c ≠ 189 → c ≠ 190 → N c = M c) := by
  have hn60 := h.2.1
  refine wk_X3_faultOn M _ (fun k v N => ∃ z a pre, z ≤ 15 ∧ k = 15 - z ∧ v = nI z ∧ N 187 3 = nI z ∧ N 187 4 = nI a ∧ a ≤ n ∧ (∀ c, c ≠ 187 → c ≠ 188 → c ≠ 189 → c ≠ 190 → N c = M c) ∧ pre.length = z ∧ q_ld N pre ∧ (∀ w ∈ pre, q_wok w) ∧ q_pa tx n 15 0 = ((q_pa tx n (15 - z) a).1, pre ++ (q_pa tx n (15 - z) a).2)) ?_ ?_
  · unfold vc_X3_faultOn
    refine ⟨15, 0, 0, [], by omega, by omega, rfl, by simp [x_up, nI_0], by simp [x_up, nI_0], by omega, fun c h1 _ _ _ => by rw [x_up_other h1, x_up_other h1], rfl, fun i w hw => by simp at hw, fun w hw => by simp at hw, rfl⟩
  · rintro k v N ⟨z, a, pre, hz, rfl, rfl, h3, h4, ha, ho, hl, hld, hwk, e⟩
    unfold vc_X3_faultOn_1
    rw [show (15 : Int32) = nI 15 from rfl, x_le (by omega) (by omega)]
    refine ⟨fun q => ?_, fun q => ?_⟩
    · have : z = 15 := by omega
      subst this
      rw [e, h4]
      exact ⟨rfl, fun w => (by cases w), fun p hp => by cases hp; omega, ho⟩
    · obtain ⟨f, hf⟩ : ∃ f, 15 - z = f + 1 := ⟨15 - z - 1, by omega⟩
      rw [hf] at e
      have hpd : q_pd N tx n := q_pd_row h (ho _ (by decide) (by decide) (by decide) (by decide)) (ho _ (by decide) (by decide) (by decide) (by decide))
      refine mo_X3_readWish (ok_X3_readWish N tx n a z (by omega) h3 hpd h4 ha) ?_
      rintro r N2 (⟨p, hp, rfl, hpn, rfl⟩ | ⟨w, b, hw, hok, hab, hbn, rfl, hst⟩)
      · refine ⟨fun q => absurd rfl q, fun _ => ?_⟩
        have e2 : q_pa tx n (f + 1) a = (some p, []) := by rw [q_pa, hp]
        rw [e2] at e
        rw [e]
        refine ⟨by simp [x_up, q_on], fun w => (by cases w), fun p2 hp2 => by cases hp2; omega, fun c c1 c2 c3 c4 => by rw [x_up_other c1, ho c c1 c2 c3 c4]⟩
      · refine ⟨fun _ => ?_, fun q => absurd q (by decide)⟩
        obtain ⟨s1, s2, s3, s4, s5, s6, s7⟩ := hst
        have e5 : N2 185 = N 185 := s7 185 (by decide) (by decide) (by decide) (by decide)
        rw [s2, e5, hpd.1, x_eq (by omega) (by omega)]
        have ho2 : ∀ c, c ≠ 187 → c ≠ 188 → c ≠ 189 → c ≠ 190 → N2 c = M c := fun c c1 c2 c3 c4 => by rw [s7 c c1 c2 c3 c4, ho c c1 c2 c3 c4]
        have hld2 : q_ld N2 (pre ++ [w]) := by
          intro i w' hi
          by_cases q2 : i < pre.length
          · rw [List.getElem?_append_left q2] at hi
            obtain ⟨t1, t2, t3⟩ := s6 i (by omega)
            rw [t1, t2, t3]
            exact hld i w' hi
          · rw [List.getElem?_append_right (by omega)] at hi
            have hi0 : i = z := by
              have := (List.getElem?_eq_some_iff.mp hi).1
              simp at this
              omega
            subst hi0
            rw [hl] at hi
            simp at hi
            subst hi
            exact ⟨s3, s4, s5⟩
        have hwk2 : ∀ w' ∈ pre ++ [w], q_wok w' := by
          intro w' hw'
          rcases List.mem_append.mp hw' with q2 | q2
          · exact hwk w' q2
          · rw [List.mem_singleton.mp q2]
            exact hok
        refine ⟨fun q2 => ?_, fun q2 => ?_⟩
        · have hpd2 : q_pd N2 tx n := q_pd_row h (ho2 _ (by decide) (by decide) (by decide) (by decide)) (ho2 _ (by decide) (by decide) (by decide) (by decide))
          refine mo_X3_readSign (ok_X3_readSign N2 tx n b 59 (by omega) hpd2 s2 hbn) ?_
          rintro r N3 (⟨hc, rfl, rfl⟩ | ⟨hc, rfl, rfl⟩)
          · refine ⟨fun _ => ?_, fun q => absurd q (by decide)⟩
            have e2 : q_pa tx n (f + 1) a = ((q_pa tx n f (b + 1)).1, w :: (q_pa tx n f (b + 1)).2) := by
              rw [q_pa, hw]
              simp only
              rw [if_neg q2, if_pos hc]
            rw [e2] at e
            have ef : 15 - (z + 1) = f := by omega
            refine ⟨15 - (z + 1), by omega, z + 1, b + 1, pre ++ [w], by omega, rfl, nI_1 _, ?_, ?_, by omega, fun c c1 c2 c3 c4 => by rw [x_up_other c1, ho2 c c1 c2 c3 c4], by simp [hl], ?_, hwk2, ?_⟩
            · simp [x_up, s1]
            · simp [x_up]
            · intro i w' hi
              have := hld2 i w' hi
              rw [x_up_other (by decide), x_up_other (by decide), x_up_other (by decide)]
              exact this
            · rw [ef, e]
              simp
          · refine ⟨fun q => absurd rfl q, fun _ => ?_⟩
            have e2 : q_pa tx n (f + 1) a = (some b, [w]) := by
              rw [q_pa, hw]
              simp only
              rw [if_neg q2, if_neg hc]
            rw [e2] at e
            rw [e]
            exact ⟨s2, fun w => (by cases w), fun p hp => by cases hp; omega, ho2⟩
        · have e2 : q_pa tx n (f + 1) a = (none, [w]) := by
            rw [q_pa, hw]
            simp only
            rw [if_pos q2]
          rw [e2] at e
          rw [e]
          refine ⟨rfl, fun _ => ⟨?_, ?_, hld2, hwk2⟩, fun p hp => (by cases hp), ho2⟩
          · rw [s1]
            simp [hl]
          · simp [hl]
            omega
/-! long numbers, pasted (BITS) -/
theorem wb_tb (n : Nat) : (lN n).toBitVec = BitVec.ofNat 64 n := rfl
theorem wb_inj {a b : Int64} (h : a.toBitVec = b.toBitVec) : a = b := Int64.toBitVec_inj.mp h
theorem wb_tn {n : Nat} (h : n < 2 ^ 64) : (lN n).toBitVec.toNat = n := by rw [wb_tb, BitVec.toNat_ofNat, Nat.mod_eq_of_lt h]
theorem wb_of (x : Int64) : ∃ n, n < 2 ^ 64 ∧ x = lN n := ⟨x.toBitVec.toNat, x.toBitVec.isLt, wb_inj (by rw [wb_tb]; simp)⟩
theorem wb_of32 (x : Int32) : ∃ n, n < 2 ^ 32 ∧ x = nI n := ⟨x.toBitVec.toNat, x.toBitVec.isLt, Int32.toBitVec_inj.mp (by show _ = BitVec.ofNat 32 _; simp)⟩
theorem wb_c : ∀ k, k < 64 → ((nI k).toInt64 &&& 63) = lN k := by decide +kernel
theorem wb_cu : ∀ k, k < 64 → ((nI k).toInt64.toUInt64 &&& Int64.toUInt64 63) = UInt64.ofNat k := by decide +kernel
theorem wb_sm : ∀ k, k < 64 → (BitVec.ofNat 64 k).smod 64 = BitVec.ofNat 64 k := by decide +kernel
theorem wb_pw {a b : Nat} (h : a ≤ b) : 2 ^ b = 2 ^ a * 2 ^ (b - a) := by rw [← Nat.pow_add]; congr 1; omega
theorem wb_lt2 {a b : Nat} (h : a < b) : 2 ^ a < 2 ^ b := Nat.pow_lt_pow_right (by decide) h
theorem wb_mod (n : Nat) : lN n = lN (n % 2 ^ 64) := wb_inj (by rw [wb_tb, wb_tb]; apply BitVec.eq_of_toNat_eq; rw [BitVec.toNat_ofNat, BitVec.toNat_ofNat, Nat.mod_mod])
theorem wb_shr {n k : Nat} (hn : n < 2 ^ 64) (hk : k < 64) : ((lN n).toUInt64 >>> ((nI k).toInt64.toUInt64 &&& Int64.toUInt64 63)).toInt64 = lN (n / 2 ^ k) := by
  rw [wb_cu k hk]
  apply wb_inj
  apply BitVec.eq_of_toNat_eq
  show ((lN n).toUInt64 >>> UInt64.ofNat k).toNat = (BitVec.ofNat 64 _).toNat
  have h1 : (UInt64.ofNat k).toNat = k := by
    show (BitVec.ofNat 64 k).toNat = k
    rw [BitVec.toNat_ofNat, Nat.mod_eq_of_lt (by omega)]
  have h2 : (lN n).toUInt64.toNat = n := wb_tn hn
  rw [UInt64.toNat_shiftRight, h1, h2, Nat.mod_eq_of_lt hk, Nat.shiftRight_eq_div_pow, BitVec.toNat_ofNat, Nat.mod_eq_of_lt (Nat.lt_of_le_of_lt (Nat.div_le_self _ _) hn)]
theorem wb_shl (n : Nat) {k : Nat} (hk : k < 64) : lN n <<< ((nI k).toInt64 &&& 63) = lN (n * 2 ^ k) := by
  rw [wb_c k hk]
  apply wb_inj
  rw [Int64.toBitVec_shiftLeft, wb_tb, wb_tb, wb_tb, wb_sm k hk]
  apply BitVec.eq_of_toNat_eq
  rw [BitVec.shiftLeft_eq', BitVec.toNat_shiftLeft, BitVec.toNat_ofNat, BitVec.toNat_ofNat, BitVec.toNat_ofNat, Nat.mod_eq_of_lt (show k < 2 ^ 64 by omega), Nat.shiftLeft_eq, Nat.mul_mod, Nat.mod_mod, ← Nat.mul_mod]
theorem wb_and {a b : Nat} (ha : a < 2 ^ 64) (hb : b < 2 ^ 64) : lN a &&& lN b = lN (a &&& b) := by
  apply wb_inj
  rw [Int64.toBitVec_and, wb_tb, wb_tb, wb_tb]
  apply BitVec.eq_of_toNat_eq
  rw [BitVec.toNat_and, BitVec.toNat_ofNat, BitVec.toNat_ofNat, BitVec.toNat_ofNat, Nat.mod_eq_of_lt ha, Nat.mod_eq_of_lt hb, Nat.mod_eq_of_lt (Nat.and_lt_two_pow _ hb)]
theorem wb_or {a b : Nat} (ha : a < 2 ^ 64) (hb : b < 2 ^ 64) : lN a ||| lN b = lN (a ||| b) := by
  apply wb_inj
  rw [Int64.toBitVec_or, wb_tb, wb_tb, wb_tb]
  apply BitVec.eq_of_toNat_eq
  rw [BitVec.toNat_or, BitVec.toNat_ofNat, BitVec.toNat_ofNat, BitVec.toNat_ofNat, Nat.mod_eq_of_lt ha, Nat.mod_eq_of_lt hb, Nat.mod_eq_of_lt (Nat.or_lt_two_pow ha hb)]
theorem wb_mask {n k : Nat} (hn : n < 2 ^ 64) (hk : k < 64) : lN n &&& lN (2 ^ k - 1) = lN (n % 2 ^ k) := by
  rw [wb_and hn (by have := wb_lt2 hk; omega), Nat.and_two_pow_sub_one_eq_mod]
/-! characters as a number -/
theorem x_eq0 {n : Nat} (h : n < 5000) : nI n = 0 ↔ n = 0 := by rw [← nI_0, x_eq h (by omega)]
def q_ct : Nat → Nat → Nat → Option Nat
  | 0, _, m => some m
  | f + 1, u, m => if u = 0 then some m else if 33 ≤ u % 256 ∧ u % 256 ≤ 126 then q_ct f (u / 256) (m + 1) else none
def q_cr (o : Option Nat) : Int32 := match o with
  | none => -2
  | some m => if m = 0 then -2 else nI m
theorem x_lc {x : Int64} : lg_cmp x 0 = 0 ↔ x = 0 := by
  unfold lg_cmp
  by_cases h : x > 0
  · rw [if_pos h]
    exact ⟨fun q => absurd q (by decide), fun q => by subst q; exact absurd h (Int64.lt_irrefl)⟩
  · rw [if_neg h]
    by_cases h2 : x = 0
    · rw [if_pos h2]
      exact ⟨fun _ => h2, fun _ => rfl⟩
    · rw [if_neg h2]
      exact ⟨fun q => absurd q (by decide), fun q => absurd q h2⟩
theorem x_l0 {u : Nat} (h : u < 2 ^ 64) : lN u = 0 ↔ u = 0 := by
  constructor
  · intro q
    have h1 : (lN u).toBitVec.toNat = (0 : Int64).toBitVec.toNat := by rw [q]
    rw [wb_tn h] at h1
    simpa using h1
  · rintro rfl
    rfl
theorem x_byte {u : Nat} (h : u < 2 ^ 64) : (lN u &&& (255 : Int64)).toInt32 = nI (u % 256) := by
  rw [show (255 : Int64) = lN (2 ^ 8 - 1) from rfl, wb_mask h (by omega), lN_i]
theorem x_shr8 {u : Nat} (h : u < 2 ^ 64) : ((lN u).toUInt64 >>> (((8 : Int32)).toInt64.toUInt64 &&& Int64.toUInt64 63)).toInt64 = lN (u / 256) := by
  have := wb_shr (n := u) (k := 8) h (by omega)
  exact this
theorem ok_X2_numberOf {g : xG} (u : Nat) (hu : u < 2 ^ 64) (M : xM) : mi_X2_numberOf g (lN u) M (fun r N => r = q_cr (q_ct 8 u 0) ∧ N = M) := by
  refine wk_X2_numberOf _ M _ (fun k v2 v3 N => ∃ m w, m ≤ 8 ∧ w < 2 ^ 64 ∧ k = 8 - m ∧ v2 = nI m ∧ v3 = lN w ∧ N = M ∧ q_ct 8 u 0 = q_ct (8 - m) w m) ?_ ?_
  · unfold vc_X2_numberOf
    exact ⟨8, 0, u, by omega, hu, by omega, rfl, rfl, rfl, rfl⟩
  · rintro k v2 v3 N ⟨m, w, hm, hw, rfl, rfl, rfl, rfl, e⟩
    unfold vc_X2_numberOf_1
    rw [x_lc, x_l0 hw, e, x_eq0 (by omega)]
    have done : q_ct (8 - m) w m = some m → ((¬ m = 0 → nI m = q_cr (q_ct (8 - m) w m) ∧ N = N) ∧ (m = 0 → (-2 : Int32) = q_cr (q_ct (8 - m) w m) ∧ N = N)) := by
      intro q
      rw [q]
      refine ⟨fun z => ⟨?_, rfl⟩, fun z => ⟨?_, rfl⟩⟩
      · show nI m = if m = 0 then -2 else nI m
        rw [if_neg z]
      · show -2 = if m = 0 then -2 else nI m
        rw [if_pos z]
    refine ⟨fun q => ?_, fun q => ?_⟩
    · refine done ?_
      cases 8 - m with
      | zero => rfl
      | succ f => rw [q_ct, if_pos q]
    · rw [show (8 : Int32) = nI 8 from rfl, x_le (by omega) (by omega)]
      refine ⟨fun q2 => ?_, fun q2 => ?_⟩
      · refine done ?_
        have : 8 - m = 0 := by omega
        rw [this]
        rfl
      · obtain ⟨f, hf⟩ : ∃ f, 8 - m = f + 1 := ⟨8 - m - 1, by omega⟩
        rw [hf] at e ⊢
        rw [x_byte hw]
        refine mo_X9_isBetween (ok_X9_isBetween _ _ _ _) ?_
        rintro r N ⟨rfl, rfl⟩
        have eq : ((33 : Int32) ≤ nI (w % 256) ∧ nI (w % 256) ≤ (126 : Int32)) ↔ (33 ≤ w % 256 ∧ w % 256 ≤ 126) := by
          rw [show (33 : Int32) = nI 33 from rfl, show (126 : Int32) = nI 126 from rfl, x_le (by omega) (by omega), x_le (by omega) (by omega)]
        rw [x_b_iff eq]
        refine ⟨fun z => ?_, fun z => ⟨?_, rfl⟩⟩
        · have z := x_b_ne.mp z
          rintro y3 hy
          rw [show (nI 8 : Int32) = 8 from rfl, x_shr8 hw] at hy
          refine ⟨8 - (m + 1), by omega, m + 1, w / 256, by omega, Nat.lt_of_le_of_lt (Nat.div_le_self _ _) hw, rfl, nI_1 m, hy, rfl, ?_⟩
          have ef : 8 - (m + 1) = f := by omega
          rw [ef, q_ct, if_neg q, if_pos z]
        · have z := x_b_eq.mp z
          rw [q_ct, if_neg q, if_neg z]
          rfl
theorem x_chr {b : Nat} (h : b < 256) : vp_nar .char ((nI b).toUInt32 % 65536).toInt32 = nI b := by
  rw [pk_vc, pk_char, pk_tn (by omega), Nat.mod_eq_of_lt (by omega)]
/-- the i-th character from below -/
def q_by (u i : Nat) : Nat := u / 2 ^ (8 * i) % 256
theorem x_pred0 {r : Nat} (hr : r < 5000) : nI r - 1 < 0 ↔ r = 0 := by
  constructor
  · intro h
    by_cases q : r = 0
    · exact q
    · rw [x_pred (by omega)] at h
      exact absurd h (x_neg (by omega))
  · rintro rfl
    decide
theorem ok_X2_append {g : xG} (u m : Nat) (hu : u < 2 ^ 64) (hm : m ≤ 8) (n : Nat) (hn : n + m ≤ 60) (M : xM) (h : M 185 1 = nI n) : mi_X2_append g (lN u) (nI m) M (fun N => N 185 1 = nI (n + m) ∧ (∀ k, k < n → N 186 k = M 186 k) ∧ (∀ i, i < m → N 186 (n + i) = nI (q_by u (m - 1 - i))) ∧ ∀ c, c ≠ 185 → c ≠ 186 → N c = M c) := by
  refine wk_X2_append _ _ M _ (fun k v1 v4 N => ∃ r, r ≤ m ∧ k = r ∧ v1 = lN u ∧ v4 = nI r - 1 ∧ N 185 1 = nI (n + (m - r)) ∧ (∀ k, k < n → N 186 k = M 186 k) ∧ (∀ i, i < m - r → N 186 (n + i) = nI (q_by u (m - 1 - i))) ∧ ∀ c, c ≠ 185 → c ≠ 186 → N c = M c) ?_ ?_
  · unfold vc_X2_append
    exact ⟨m, m, by omega, rfl, rfl, rfl, by rw [h]; simp, fun _ _ => rfl, fun i hi => by omega, fun _ _ _ => rfl⟩
  · rintro k v1 v4 N ⟨r, hr, rfl, rfl, rfl, h1, h2, h3, h4⟩
    unfold vc_X2_append_1
    rw [x_pred0 (by omega)]
    refine ⟨fun q => ?_, fun q => ?_⟩
    · subst q
      exact ⟨h1, h2, h3, h4⟩
    · rw [h1, x_cl (by omega), x_pred (by omega)]
      refine ⟨x_vi (by omega) (by omega), ?_⟩
      intro N1 hN1
      have e8 : (8 : Int32) * nI (k - 1) = nI (8 * (k - 1)) := pk_mul 8 (k - 1)
      have hs : ∀ j, u / 2 ^ j < 2 ^ 64 := fun j => Nat.lt_of_le_of_lt (Nat.div_le_self _ _) hu
      rw [e8, wb_shr hu (by omega), x_byte (hs _), x_chr (by omega)] at hN1
      subst hN1
      refine ⟨k - 1, by omega, k - 1, by omega, rfl, rfl, ?_, ?_, ?_, ?_, ?_⟩
      · rw [Int32.sub_eq_add_neg]
      · simp only [x_up]
        simp [h1, nI_1]
        congr 1
        omega
      · intro j hj
        rw [x_up_other (by decide), x_up_same]
        unfold upd
        rw [if_neg (by omega)]
        exact h2 j hj
      · intro i hi
        rw [x_up_other (by decide), x_up_same]
        unfold upd
        by_cases q2 : i = m - k
        · rw [if_pos (by omega), q_by]
          have : m - 1 - i = k - 1 := by omega
          rw [this]
        · rw [if_neg (by omega)]
          exact h3 i (by omega)
      · intro c c1 c2
        rw [x_up_other c1, x_up_other c2, h4 c c1 c2]
