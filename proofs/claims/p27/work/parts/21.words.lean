def q_s (E : xM) : Nat := (E 1 0).toNatClampNeg
def q_g (E : xM) : Nat := (E 6 0).toNatClampNeg
def q_w (E : xM) : Nat := (E 11 0).toNatClampNeg
def q_p (E : xM) : Nat := (E 15 0).toNatClampNeg
def WF (K : Nat) (E : xM) : Prop :=
  (E 1 0 = nI (q_s E) ∧ q_s E ≤ 12) ∧ (E 6 0 = nI (q_g E) ∧ q_g E ≤ 16) ∧ (E 11 0 = nI (q_w E) ∧ q_w E ≤ 20) ∧ (E 15 0 = nI (q_p E) ∧ q_p E ≤ 12) ∧ (∀ i, bt (E 1 1) i = true → i < q_s E) ∧ (∀ i, i < 12 → 0 ≤ (E 4 i).toInt ∧ (E 4 i).toInt ≤ K) ∧
  ∀ w, w < q_w E → (∃ f, f < q_s E ∧ E 12 w = nI f) ∧ (E 13 w = -6 ∨ ∃ o, o < q_s E ∧ E 13 w = nI o) ∧ ∃ s, s < q_g E ∧ E 14 w = nI s
def q_ss (E : xM) (w : Nat) : Int32 := if E 13 w = -6 then (1 : Int32) <<< (E 12 w &&& 31) else ((1 : Int32) <<< (E 12 w &&& 31)) ||| ((1 : Int32) <<< (E 13 w &&& 31))
def q_om (E : xM) (x : Int32) : Nat → Int32
  | 0 => 0
  | n + 1 => if q_ss E n &&& x = 0 then q_om E x n ||| ((1 : Int32) <<< (nI n &&& 31)) else q_om E x n
def q_nw (E : xM) (s : Nat) : Nat → Int32
  | 0 => 0
  | n + 1 => if bt (q_ss E n) s = true then q_nw E s n + 1 else q_nw E s n
def q_tf (E : xM) (t : Nat → Int32) (w : Nat) : Int32 := if E 13 w = -6 then t (E 12 w).toNatClampNeg else if t (E 12 w).toNatClampNeg < t (E 13 w).toNatClampNeg then t (E 13 w).toNatClampNeg else t (E 12 w).toNatClampNeg
def q_fm (c : Nat → Int32) (p : Nat → Bool) : Nat → Option Nat
  | 0 => none
  | n + 1 => match q_fm c p n with
    | none => if p n then some n else none
    | some j => if p n && decide (c n < c j) then some n else some j
def q_on (o : Option Nat) : Int32 := match o with
  | none => -6
  | some i => nI i
def q_nx (c : Nat → Int32) (p f : Nat → Bool) (n : Nat) : Option Nat := match q_fm c (fun i => p i && f i) n with
  | none => q_fm c p n
  | some i => some i
def q_rd (E : xM) (w : Nat) : Bool := decide (q_ss E w &&& (E 1 1 ^^^ -1) = 0)
def q_fr (E : xM) (y : Int32) (w : Nat) : Bool := decide (q_ss E w &&& y = 0)
def q_next (E : xM) : Option Nat := q_nx (q_tf E (E 4)) (q_rd E) (q_fr E (E 1 2)) (q_w E)
theorem q_fm_lt {c : Nat → Int32} {p : Nat → Bool} : ∀ {n i : Nat}, q_fm c p n = some i → i < n ∧ p i = true
  | 0, i, h => by cases h
  | n + 1, i, h => by
    unfold q_fm at h
    cases hq : q_fm c p n with
    | none =>
      rw [hq] at h
      simp only at h
      by_cases hp : p n = true
      · rw [if_pos hp] at h
        cases h
        exact ⟨by omega, hp⟩
      · rw [if_neg hp] at h
        cases h
    | some j =>
      rw [hq] at h
      simp only at h
      have ih := q_fm_lt hq
      by_cases hp : (p n && decide (c n < c j)) = true
      · rw [if_pos hp] at h
        cases h
        exact ⟨by omega, by simp only [Bool.and_eq_true] at hp; exact hp.1⟩
      · rw [if_neg hp] at h
        cases h
        exact ⟨by omega, ih.2⟩
theorem q_fm_cong {c c' : Nat → Int32} {p p' : Nat → Bool} : ∀ {n : Nat}, (∀ i, i < n → c i = c' i) → (∀ i, i < n → p i = p' i) → q_fm c p n = q_fm c' p' n
  | 0, _, _ => rfl
  | n + 1, hc, hp => by
    have ih := q_fm_cong (n := n) (fun i hi => hc i (by omega)) (fun i hi => hp i (by omega))
    unfold q_fm
    rw [← ih, ← hp n (by omega), ← hc n (by omega)]
    cases hq : q_fm c p n with
    | none => rfl
    | some j => simp only [hc j (by have := q_fm_lt hq; omega)]
theorem q_nx_cong {c c' : Nat → Int32} {p p' f f' : Nat → Bool} {n : Nat} (hc : ∀ i, i < n → c i = c' i) (hp : ∀ i, i < n → p i = p' i) (hf : ∀ i, i < n → f i = f' i) : q_nx c p f n = q_nx c' p' f' n := by
  unfold q_nx
  rw [q_fm_cong hc (fun i hi => show (p i && f i) = (p' i && f' i) by rw [hp i hi, hf i hi]), q_fm_cong hc hp]
theorem q_nx_lt {c : Nat → Int32} {p f : Nat → Bool} {n i : Nat} (h : q_nx c p f n = some i) : i < n ∧ p i = true := by
  unfold q_nx at h
  cases hq : q_fm c (fun i => p i && f i) n with
  | none =>
    rw [hq] at h
    exact q_fm_lt h
  | some j =>
    rw [hq] at h
    simp only at h
    cases h
    have := q_fm_lt hq
    simp only [Bool.and_eq_true] at this
    exact ⟨this.1, this.2.1⟩
theorem q_on_none {o : Option Nat} (h : ∀ i, o = some i → i < 5000) : q_on o = -6 ↔ o = none := by
  cases o with
  | none => exact ⟨fun _ => rfl, fun _ => rfl⟩
  | some i => exact ⟨fun q => absurd q (x_nm6 (h i rfl)), fun q => by cases q⟩
theorem q_om_bt {E : xM} {x : Int32} : ∀ {n i : Nat}, n ≤ 32 → i < 32 → bt (q_om E x n) i = (decide (i < n) && decide (q_ss E i &&& x = 0))
  | 0, i, _, _ => by simp [q_om, b_0]
  | n + 1, i, hn, hi => by
    have ih := q_om_bt (E := E) (x := x) (n := n) (i := i) (by omega) hi
    unfold q_om
    by_cases h : q_ss E n &&& x = 0
    · rw [if_pos h, b_or, ih, b_one (by omega) hi]
      by_cases q : i = n
      · subst q
        simp [h]
      · have : (i < n + 1) ↔ i < n := by omega
        simp [q, this]
    · rw [if_neg h, ih]
      by_cases q : i = n
      · subst q
        simp [h]
      · have : (i < n + 1) ↔ i < n := by omega
        simp [this]
theorem q_ss_cong {E E' : xM} {w : Nat} (h1 : E' 12 w = E 12 w) (h2 : E' 13 w = E 13 w) : q_ss E' w = q_ss E w := by
  unfold q_ss
  rw [h1, h2]
theorem q_om_cong {E E' : xM} {x : Int32} : ∀ {n : Nat}, (∀ i, i < n → q_ss E' i = q_ss E i) → q_om E' x n = q_om E x n
  | 0, _ => rfl
  | n + 1, h => by
    unfold q_om
    rw [q_om_cong (fun i hi => h i (by omega)), h n (by omega)]
