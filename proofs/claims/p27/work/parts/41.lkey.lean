/-! the law's key -/
/-- tones and lengths are small -/
def WB (E : xM) : Prop := (∀ i, i < 12 → ∃ x y, x ≤ 60 ∧ y ≤ 60 ∧ E 2 i = nI x ∧ E 3 i = nI y) ∧ ∀ u, u < 16 → ∃ x y l, x ≤ 60 ∧ y ≤ 60 ∧ l ≤ 9 ∧ E 7 u = nI x ∧ E 8 u = nI y ∧ E 9 u = nI l
theorem l_kf_p {p : Int32 → Bool} {d : Nat} (hd : d ≤ 6) (h1 : ∀ j, j < d → p (nI j) = false ∧ p (-(nI j)) = false) (h2 : p (nI d) = true) : ∀ n, n ≤ 7 → 7 - n ≤ d → q_kf p n = 10 + nI d
  | 0, _, h => absurd h (by omega)
  | n + 1, hn, h => by
    rw [q_kf]
    by_cases e : 6 - n = d
    · rw [e, if_pos h2]
    · have hj : 6 - n < d := by omega
      rw [if_neg (by rw [(h1 _ hj).1]; decide), if_neg (by rw [(h1 _ hj).2]; decide)]
      exact l_kf_p hd h1 h2 n (by omega) (by omega)
theorem l_kf_m {p : Int32 → Bool} {d : Nat} (hd : d ≤ 6) (h1 : ∀ j, j < d → p (nI j) = false ∧ p (-(nI j)) = false) (h2 : p (nI d) = false) (h3 : p (-(nI d)) = true) : ∀ n, n ≤ 7 → 7 - n ≤ d → q_kf p n = 10 - nI d
  | 0, _, h => absurd h (by omega)
  | n + 1, hn, h => by
    rw [q_kf]
    by_cases e : 6 - n = d
    · rw [e, if_neg (by rw [h2]; decide), if_pos h3]
    · have hj : 6 - n < d := by omega
      rw [if_neg (by rw [(h1 _ hj).1]; decide), if_neg (by rw [(h1 _ hj).2]; decide)]
      exact l_kf_m hd h1 h2 h3 n (by omega) (by omega)
theorem l_kf_0 {p : Int32 → Bool} (h1 : ∀ j, j ≤ 6 → p (nI j) = false ∧ p (-(nI j)) = false) : ∀ n, n ≤ 7 → q_kf p n = -6
  | 0, _ => rfl
  | n + 1, hn => by
    rw [q_kf, if_neg (by rw [(h1 _ (by omega)).1]; decide), if_neg (by rw [(h1 _ (by omega)).2]; decide)]
    exact l_kf_0 h1 n (by omega)
theorem l_sub_neg (x y : Int32) : x + -y = x - y := (Int32.sub_eq_add_neg x y).symm
theorem l_neg_sub {a b : Nat} (h : a ≤ b) : nI a - nI b = -(nI (b - a)) := by
  have e : nI b = nI a + nI (b - a) := by
    rw [nI_add]
    congr 1
    omega
  rw [e]
  apply Int32.toBitVec_inj.mp
  rw [Int32.toBitVec_sub, Int32.toBitVec_add, Int32.toBitVec_neg]
  generalize (nI a).toBitVec = u
  generalize (nI (b - a)).toBitVec = w
  apply BitVec.eq_of_toNat_eq
  simp only [BitVec.toNat_sub, BitVec.toNat_add, BitVec.toNat_neg]
  omega
/-- where the keys of two tones' bounds lie -/
theorem l_kp {E : xM} {u x y s t : Nat} (hx : x ≤ 60) (hy : y ≤ 60) (hs : s ≤ 60) (ht : t ≤ 60) (e7 : E 7 u = nI s) (e8 : E 8 u = nI t) {k : Nat} (hk : k ≤ 6) : (q_kp E (nI x) (nI y) u (nI k) = true ↔ x ≤ s + k ∧ t + k ≤ y) ∧ (q_kp E (nI x) (nI y) u (-(nI k)) = true ↔ x + k ≤ s ∧ t ≤ y + k) := by
  unfold q_kp
  rw [e7, e8, nI_add, nI_add, l_sub_neg, l_sub_neg, Bool.and_eq_true, Bool.and_eq_true, decide_eq_true_eq, decide_eq_true_eq, decide_eq_true_eq, decide_eq_true_eq, x_le (by omega) (by omega), x_le (by omega) (by omega), Int32.le_iff_toInt_le, Int32.le_iff_toInt_le, pk_sub_toInt (by omega) (by omega), pk_sub_toInt (by omega) (by omega), nI_toInt (by omega), nI_toInt (by omega)]
  omega
/-- the key, from where the keys lie: low X, high Y against the song's s, t -/
theorem l_kt {p : Int32 → Bool} {X Y s t : Nat} (hX : X ≤ 60) (hY : Y ≤ 60) (hs : s ≤ 60) (ht : t ≤ 60) (hp : ∀ k, k ≤ 6 → (p (nI k) = true ↔ X ≤ s + k ∧ t + k ≤ Y) ∧ (p (-(nI k)) = true ↔ X + k ≤ s ∧ t ≤ Y + k)) :
    (Y + s < X + t ∨ s + 6 < X ∨ Y + 6 < t → q_kf p 7 = -6) ∧ (¬ (Y + s < X + t ∨ s + 6 < X ∨ Y + 6 < t) → (X ≤ s → t ≤ Y → q_kf p 7 = 10) ∧ (s < X → q_kf p 7 = 10 + nI (X - s)) ∧ (Y < t → q_kf p 7 = 10 - nI (t - Y))) := by
  have f1 : ∀ k, k ≤ 6 → ¬ (X ≤ s + k ∧ t + k ≤ Y) → p (nI k) = false := fun k hk h => by
    cases e : p (nI k) with
    | false => rfl
    | true => exact absurd ((hp k hk).1.mp e) h
  have f2 : ∀ k, k ≤ 6 → ¬ (X + k ≤ s ∧ t ≤ Y + k) → p (-(nI k)) = false := fun k hk h => by
    cases e : p (-(nI k)) with
    | false => rfl
    | true => exact absurd ((hp k hk).2.mp e) h
  refine ⟨fun h => l_kf_0 (fun j hj => ⟨f1 j hj (by omega), f2 j hj (by omega)⟩) 7 (by omega), fun h => ⟨fun a b => ?_, fun a => ?_, fun a => ?_⟩⟩
  · exact l_kf_p (d := 0) (by omega) (fun j hj => absurd hj (by omega)) ((hp 0 (by omega)).1.mpr (by omega)) 7 (by omega) (by omega)
  · exact l_kf_p (d := X - s) (by omega) (fun j hj => ⟨f1 j (by omega) (by omega), f2 j (by omega) (by omega)⟩) ((hp (X - s) (by omega)).1.mpr (by omega)) 7 (by omega) (by omega)
  · exact l_kf_m (d := t - Y) (by omega) (fun j hj => ⟨f1 j (by omega) (by omega), f2 j (by omega) (by omega)⟩) (f1 (t - Y) (by omega) (by omega)) ((hp (t - Y) (by omega)).2.mpr (by omega)) 7 (by omega) (by omega)
/-- another singer, as the law says it: -1 is none -/
def l_on (o : Option Nat) : Int32 := match o with
  | none => -1
  | some i => nI i
/-- the rows of tones -/
def LT (E : xM) (si so : Nat → Int32) : Prop := (∀ i, i < 12 → si (4 * i) = E 2 i ∧ si (4 * i + 1) = E 3 i) ∧ ∀ u, u < 16 → so (4 * u) = E 7 u ∧ so (4 * u + 1) = E 8 u
theorem ok_L_key {g : xG} (a : Nat) (o : Option Nat) (u : Nat) (ha : a < 12) (ho : ∀ i, o = some i → i < 12) (hu : u < 16) (E M : xM) (hT : LT E (M 194) (M 195)) (hB : WB E) : mi_L_key g (nI a) (l_on o) (nI u) M (fun r N => r = q_kt E a o u ∧ N = M) := by
  obtain ⟨t1, t2⟩ := hT
  obtain ⟨b1, b2⟩ := hB
  obtain ⟨x1, y1, hx1, hy1, e2a, e3a⟩ := b1 a ha
  obtain ⟨s, t, l, hs, ht, -, e7, e8, -⟩ := b2 u hu
  refine wk_L_key _ _ _ M _ ?_
  unfold vc_L_key
  rw [l_41, l_41, l_40, l_40, x_cl (show 4 * a + 1 < 5000 by omega), x_cl (show 4 * u + 1 < 5000 by omega), x_cl (show 4 * a < 5000 by omega), x_cl (show 4 * u < 5000 by omega), (t1 a ha).1, (t1 a ha).2, (t2 u hu).1, (t2 u hu).2, e2a, e3a, e7, e8]
  have va1 : vp_in (nI (4 * a + 1)) 48 := x_vi (by omega) (by omega)
  have va0 : vp_in (nI (4 * a)) 48 := x_vi (by omega) (by omega)
  have vu1 : vp_in (nI (4 * u + 1)) 64 := x_vi (by omega) (by omega)
  have vu0 : vp_in (nI (4 * u)) 64 := x_vi (by omega) (by omega)
  refine ⟨va1, vu1, ?_⟩
  rintro z1 rfl
  refine ⟨va0, vu0, ?_⟩
  rintro z2 rfl
  -- the two bounds
  have fin : ∀ X Y, X ≤ 60 → Y ≤ 60 → (∀ k, k ≤ 6 → (q_kk E a o u (nI k) = true ↔ X ≤ s + k ∧ t + k ≤ Y) ∧ (q_kk E a o u (-(nI k)) = true ↔ X + k ≤ s ∧ t ≤ Y + k)) → ∀ (j4 j5 : Int32), (j4 = nI Y - nI t ∧ j5 = nI X - nI s) → (j4 < j5 → (-6 : Int32) = q_kt E a o u ∧ M = M) ∧ (¬ (j4 < j5) → (((6 : Int32) < j5 → (-6 : Int32) = q_kt E a o u ∧ M = M) ∧ (¬ ((6 : Int32) < j5) → (((-6 : Int32) ≤ j4 → ((0 < j5 → ((j5 ≤ 0 → ((10 : Int32) + j4) = q_kt E a o u ∧ M = M) ∧ (¬ (j5 ≤ 0) → ((10 : Int32) + j5) = q_kt E a o u ∧ M = M))) ∧ (¬ (0 < j5) → ((j4 < 0 → ((j5 ≤ 0 → ((10 : Int32) + j4) = q_kt E a o u ∧ M = M) ∧ (¬ (j5 ≤ 0) → ((10 : Int32) + j5) = q_kt E a o u ∧ M = M))) ∧ (¬ (j4 < 0) → ((10 : Int32) + (0 : Int32)) = q_kt E a o u ∧ M = M))))) ∧ (¬ ((-6 : Int32) ≤ j4) → (-6 : Int32) = q_kt E a o u ∧ M = M))))) := by
    rintro X Y hX hY hp j4 j5 ⟨rfl, rfl⟩
    have k := l_kt hX hY hs ht hp
    have u4 : (nI Y - nI t).toInt = (Y : Int) - t := pk_sub_toInt (by omega) (by omega)
    have u5 : (nI X - nI s).toInt = (X : Int) - s := pk_sub_toInt (by omega) (by omega)
    have z0 : (0 : Int32).toInt = 0 := rfl
    have z6 : (6 : Int32).toInt = 6 := rfl
    have m6 : ((-6 : Int32)).toInt = -6 := by decide
    unfold q_kt
    rw [Int32.lt_iff_toInt_lt, Int32.lt_iff_toInt_lt, Int32.lt_iff_toInt_lt, Int32.lt_iff_toInt_lt, Int32.le_iff_toInt_le, Int32.le_iff_toInt_le, u4, u5, z0, z6, m6]
    refine ⟨fun q => ⟨(k.1 (by omega)).symm, rfl⟩, fun q => ⟨fun q2 => ⟨(k.1 (by omega)).symm, rfl⟩, fun q2 => ⟨fun q3 => ?_, fun q3 => ⟨(k.1 (by omega)).symm, rfl⟩⟩⟩⟩
    obtain ⟨k1, k2, k3⟩ := k.2 (by omega)
    refine ⟨fun q4 => ⟨fun q5 => absurd q5 (by omega), fun _ => ⟨?_, rfl⟩⟩, fun q4 => ⟨fun q5 => ⟨fun _ => ⟨?_, rfl⟩, fun q6 => absurd (show (X : Int) - s ≤ 0 by omega) q6⟩, fun q5 => ⟨?_, rfl⟩⟩⟩
    · rw [k2 (by omega), pk_sub (by omega)]
    · rw [k3 (by omega), l_neg_sub (by omega), l_sub_neg]
    · rw [k1 (by omega) (by omega)]
      decide
  cases o with
  | none =>
    refine ⟨fun v4 v5 => v4 = nI y1 - nI t ∧ v5 = nI x1 - nI s, ⟨fun _ => ⟨rfl, rfl⟩, fun q => absurd (show l_on none < 0 by decide) q⟩, fin x1 y1 hx1 hy1 (fun k hk => ?_)⟩
    have := l_kp (E := E) (u := u) hx1 hy1 hs ht e7 e8 hk
    unfold q_kk
    rw [e2a, e3a]
    simpa using this
  | some b =>
    have hb := ho b rfl
    obtain ⟨x2, y2, hx2, hy2, e2b, e3b⟩ := b1 b hb
    have vb1 : vp_in (nI (4 * b + 1)) 48 := x_vi (by omega) (by omega)
    have vb0 : vp_in (nI (4 * b)) 48 := x_vi (by omega) (by omega)
    show ∃ J3 : Int32 → Int32 → Prop, ((nI b < 0 → _) ∧ (¬ (nI b < 0) → _)) ∧ _
    have eb : l_on (some b) = nI b := rfl
    rw [eb, l_41, l_40, x_cl (show 4 * b + 1 < 5000 by omega), x_cl (show 4 * b < 5000 by omega), (t1 b hb).1, (t1 b hb).2, e2b, e3b]
    refine ⟨fun v4 v5 => v4 = nI (min y1 y2) - nI t ∧ v5 = nI (max x1 x2) - nI s, ⟨fun q => absurd q (x_neg (by omega)), fun _ => ⟨vb1, vu1, fun v => v = nI (min y1 y2) - nI t, ⟨fun q => ?_, fun q => ⟨vb1, vu1, ?_⟩⟩, ?_⟩⟩, fin (max x1 x2) (min y1 y2) (by omega) (by omega) (fun k hk => ?_)⟩
    · rw [Int32.le_iff_toInt_le, pk_sub_toInt (by omega) (by omega), pk_sub_toInt (by omega) (by omega)] at q
      rw [Nat.min_eq_left (by omega)]
    · rw [Int32.le_iff_toInt_le, pk_sub_toInt (by omega) (by omega), pk_sub_toInt (by omega) (by omega)] at q
      rw [Nat.min_eq_right (by omega)]
    · rintro j7 rfl
      refine ⟨vb0, vu0, fun v => v = nI (max x1 x2) - nI s, ⟨fun q => ?_, fun q => ⟨vb0, vu0, ?_⟩⟩, ?_⟩
      · rw [Int32.le_iff_toInt_le, pk_sub_toInt (by omega) (by omega), pk_sub_toInt (by omega) (by omega)] at q
        rw [Nat.max_eq_left (by omega)]
      · rw [Int32.le_iff_toInt_le, pk_sub_toInt (by omega) (by omega), pk_sub_toInt (by omega) (by omega)] at q
        rw [Nat.max_eq_right (by omega)]
      · rintro j9 rfl
        exact ⟨rfl, rfl⟩
    · have h1 := l_kp (E := E) (u := u) hx1 hy1 hs ht e7 e8 hk
      have h2 := l_kp (E := E) (u := u) hx2 hy2 hs ht e7 e8 hk
      unfold q_kk
      rw [e2a, e3a]
      simp only [e2b, e3b, Bool.and_eq_true]
      rw [h1.1, h1.2, h2.1, h2.2]
      omega
