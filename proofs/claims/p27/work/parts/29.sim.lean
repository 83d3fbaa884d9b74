theorem q_ew_0 {E : xM} {v1 v2 v3 : Int32} {a : Nat} (h : q_ew E v1 v2 v3 a = 0) : q_en E v1 v2 v3 = 0 ∧ a < 20 ∧ q_kt E v1.toNatClampNeg (q_ov v2) v3.toNatClampNeg ≠ -6 := by
  unfold q_ew at h
  by_cases q : q_en E v1 v2 v3 = 0
  · rw [q_if1 q] at h
    by_cases q2 : a < 20
    · rw [q_if1 q2] at h
      refine ⟨q, q2, fun z => ?_⟩
      rw [q_if1 z] at h
      exact absurd h (by decide)
    · rw [q_if0 q2] at h
      exact absurd h (by decide)
  · rw [q_if0 q] at h
    exact absurd h q
def q_sgF (E : xM) (w : Nat) : xM := q_st (q_re E (E 12 w) (E 13 w) (E 14 w) (E 0 4)) (q_ss E w) (E 9 (E 14 w).toNatClampNeg) (q_s E)
theorem q_sg_row (E : xM) (w a k : Nat) (h1 : a ≠ 0) (h2 : a ≠ 10) (h3 : a = 1 → k ≠ 2) (h4 : a < 11) : q_sg E w a k = q_sgF E w a k := by
  unfold q_sg q_rm
  rw [if_neg (by omega), if_neg (by omega)]
  simp only [x_up]
  rw [if_neg (by omega), if_neg (by omega), if_neg (by omega), if_neg (by omega)]
  rfl
theorem q_sg_w {E : xM} {w : Nat} (hw : w < q_w E) (h20 : q_w E ≤ 20) (h : E 11 0 = nI (q_w E)) : q_w (q_sg E w) = q_w E - 1 := by
  have e : q_sg E w 11 0 = E 11 0 - 1 := by
    unfold q_sg q_rm
    rw [if_pos ⟨rfl, rfl⟩]
    simp [x_up, q_st, q_re]
  show (q_sg E w 11 0).toNatClampNeg = _
  rw [e, h, x_pred (by omega), x_cl (by omega)]
theorem q_sg_X (E : xM) (w : Nat) : ∃ X : xM, q_sg E w = q_rm X w ∧ q_w X = q_w E ∧ ∀ a j, (a = 12 ∨ a = 13 ∨ a = 14) → X a j = E a j := by
  refine ⟨_, rfl, ?_, fun a j ha => ?_⟩
  · simp [q_w, x_up, q_st, q_re]
  · rw [x_up_other (by omega), x_up_other (by omega), x_up_other (by omega), x_up_other (by omega)]
    unfold q_st q_re
    rw [if_neg (by omega), if_neg (by omega), if_neg (by omega), if_neg (by omega)]
theorem q_sg_v (E : xM) (w a i : Nat) (ha : a = 12 ∨ a = 13 ∨ a = 14) : q_sg E w a i = if w ≤ i ∧ i + 1 < q_w E then E a (i + 1) else E a i := by
  obtain ⟨X, h1, h2, h3⟩ := q_sg_X E w
  rw [h1, q_rm_row ha, h2, h3 a _ ha, h3 a _ ha]
theorem q_sg_t (E : xM) (w : Nat) : q_sg E w 1 2 = q_ss E w := by
  unfold q_sg q_rm
  rw [if_neg (by omega), if_neg (by omega)]
  simp [x_up]
theorem q_sg_m (E : xM) (w : Nat) : q_sg E w 0 4 = E 0 4 + E 9 (E 14 w).toNatClampNeg := by
  unfold q_sg q_rm
  rw [if_neg (by omega), if_neg (by omega)]
  simp [x_up, q_st, q_re]
theorem q_sg_1 (E : xM) (w : Nat) : q_sg E w 1 1 = E 1 1 := by
  rw [q_sg_row E w 1 1 (by decide) (by decide) (by decide) (by decide)]
  simp [q_sgF, q_st, q_re]
theorem q_sg_9 (E : xM) (w k : Nat) : q_sg E w 9 k = E 9 k := by
  rw [q_sg_row E w 9 k (by decide) (by decide) (by omega) (by decide)]
  simp [q_sgF, q_st, q_re]
theorem q_sg_4 (E : xM) (w k : Nat) : q_sg E w 4 k = if k < q_s E ∧ bt (q_ss E w) k = true then E 4 k + 1 else E 4 k := by
  rw [q_sg_row E w 4 k (by decide) (by decide) (by omega) (by decide)]
  unfold q_sgF q_st
  by_cases q : k < q_s E ∧ bt (q_ss E w) k = true
  · rw [if_pos ⟨rfl, q⟩, if_pos q]
    simp [q_re]
  · rw [if_neg (fun z => q z.2), if_neg (by omega), if_neg q]
    simp [q_re]
theorem q_ss_in {K : Nat} {E : xM} (h : WF K E) {w : Nat} (hw : w < q_w E) {k : Nat} (hk : k < 32) (hb : bt (q_ss E w) k = true) : k < q_s E := by
  have hs := WF_s h
  obtain ⟨⟨f, f1, f2⟩, ho, -⟩ := h.2.2.2.2.2.2 w hw
  unfold q_ss at hb
  rw [f2] at hb
  rcases ho with ho | ⟨o, o1, o2⟩
  · rw [if_pos ho, b_one (by omega) hk, decide_eq_true_eq] at hb
    omega
  · rw [o2, if_neg (x_nm6 (by omega)), b_or, b_one (by omega) hk, b_one (by omega) hk, Bool.or_eq_true, decide_eq_true_eq, decide_eq_true_eq] at hb
    omega
theorem q_fm_none {c : Nat → Int32} {p : Nat → Bool} : ∀ {n : Nat}, q_fm c p n = none ↔ ∀ j, j < n → p j = false
  | 0 => ⟨fun _ j hj => absurd hj (Nat.not_lt_zero j), fun _ => rfl⟩
  | n + 1 => by
    have ih := q_fm_none (c := c) (p := p) (n := n)
    unfold q_fm
    cases hq : q_fm c p n with
    | none =>
      simp only
      have h0 := ih.mp hq
      by_cases z : p n = true
      · rw [if_pos z]
        exact ⟨fun q => (by cases q), fun q => (by have := q n (by omega); rw [z] at this; cases this)⟩
      · rw [if_neg z]
        refine ⟨fun _ j hj => ?_, fun _ => rfl⟩
        by_cases q : j = n
        · subst q
          simpa using z
        · exact h0 j (by omega)
    | some i =>
      have hi := q_fm_lt hq
      constructor
      · intro q
        simp only at q
        split at q <;> cases q
      · intro q
        have := q i (by omega)
        rw [hi.2] at this
        cases this
theorem q_fm_min {c : Nat → Int32} {p : Nat → Bool} : ∀ {n i : Nat}, q_fm c p n = some i → ∀ j, j < n → p j = true → c i ≤ c j ∧ (j < i → c i < c j)
  | 0, _, h, _, _, _ => by cases h
  | n + 1, i, h, j, hj, hp => by
    unfold q_fm at h
    cases hq : q_fm c p n with
    | none =>
      rw [hq] at h
      simp only at h
      have h0 := q_fm_none.mp hq
      by_cases z : p n = true
      · rw [if_pos z] at h
        cases h
        by_cases q : j < n
        · rw [h0 j q] at hp
          cases hp
        · have : j = n := by omega
          subst this
          exact ⟨Int32.le_refl _, fun q => absurd q (Nat.lt_irrefl _)⟩
      · rw [if_neg z] at h
        cases h
    | some m =>
      rw [hq] at h
      simp only at h
      have ih := q_fm_min hq
      have hm := q_fm_lt hq
      by_cases z : (p n && decide (c n < c m)) = true
      · rw [if_pos z] at h
        cases h
        rw [Bool.and_eq_true, decide_eq_true_eq] at z
        by_cases q : j < n
        · have := ih j q hp
          have t : c n < c j := by
            have a := z.2
            have b := this.1
            rw [Int32.lt_iff_toInt_lt] at a ⊢
            rw [Int32.le_iff_toInt_le] at b
            omega
          exact ⟨Int32.le_of_lt t, fun _ => t⟩
        · have : j = n := by omega
          subst this
          exact ⟨Int32.le_refl _, fun q => absurd q (Nat.lt_irrefl _)⟩
      · rw [if_neg z] at h
        cases h
        by_cases q : j < n
        · exact ih j q hp
        · have : j = n := by omega
          subst this
          rw [hp, Bool.true_and, decide_eq_true_eq, Int32.not_lt] at z
          exact ⟨z, fun q => by omega⟩
theorem q_fm_map {c c' : Nat → Int32} {p p' : Nat → Bool} {n n' : Nat} (L : Nat → Nat) (hL : ∀ i j, i < j → j < n → L i < L j) (hn : ∀ i, i < n → L i < n') (hc : ∀ i, i < n → c' (L i) = c i) (hp : ∀ i, i < n → p' (L i) = p i) (hon : ∀ w, w < n' → p' w = true → ∃ i, i < n ∧ L i = w) : q_fm c' p' n' = (q_fm c p n).map L := by
  cases hq : q_fm c p n with
  | none =>
    have h0 := q_fm_none.mp hq
    rw [Option.map_none, q_fm_none]
    intro w hw
    cases hz : p' w with
    | false => rfl
    | true =>
      obtain ⟨i, hi, rfl⟩ := hon w hw hz
      rw [hp i hi, h0 i hi] at hz
      cases hz
  | some i =>
    have hi := q_fm_lt hq
    have hm := q_fm_min hq
    rw [Option.map_some]
    cases hq' : q_fm c' p' n' with
    | none =>
      have := q_fm_none.mp hq' (L i) (hn i hi.1)
      rw [hp i hi.1, hi.2] at this
      cases this
    | some w =>
      have hw := q_fm_lt hq'
      have hm' := q_fm_min hq'
      obtain ⟨j, hj, rfl⟩ := hon w hw.1 hw.2
      have pj : p j = true := by rw [← hp j hj]; exact hw.2
      have a1 := hm j hj pj
      have a2 := hm' (L i) (hn i hi.1) (by rw [hp i hi.1]; exact hi.2)
      rw [hc i hi.1, hc j hj] at a2
      congr 1
      rcases Nat.lt_trichotomy i j with q | q | q
      · have := a2.2 (hL i j q hj)
        have b := a1.1
        rw [Int32.lt_iff_toInt_lt] at this
        rw [Int32.le_iff_toInt_le] at b
        omega
      · rw [q]
      · have := a1.2 q
        have b := a2.1
        rw [Int32.lt_iff_toInt_lt] at this
        rw [Int32.le_iff_toInt_le] at b
        omega
theorem q_nx_map {c c' : Nat → Int32} {p p' f f' : Nat → Bool} {n n' : Nat} (L : Nat → Nat) (hL : ∀ i j, i < j → j < n → L i < L j) (hn : ∀ i, i < n → L i < n') (hc : ∀ i, i < n → c' (L i) = c i) (hp : ∀ i, i < n → p' (L i) = p i) (hf : ∀ i, i < n → f' (L i) = f i) (hon : ∀ w, w < n' → p' w = true → ∃ i, i < n ∧ L i = w) : q_nx c' p' f' n' = (q_nx c p f n).map L := by
  unfold q_nx
  have e1 : q_fm c' (fun i => p' i && f' i) n' = (q_fm c (fun i => p i && f i) n).map L := q_fm_map L hL hn hc (fun i hi => by simp only [hp i hi, hf i hi]) (fun w hw hz => hon w hw (by rw [Bool.and_eq_true] at hz; exact hz.1))
  rw [e1, q_fm_map L hL hn hc hp hon]
  cases q_fm c (fun i => p i && f i) n <;> rfl
def q_sim (B E : xM) (L : Nat → Nat) (W y : Int32) (t : Nat → Int32) (mn : Int32) : Prop :=
  (∀ i j, i < j → j < q_w E → L i < L j) ∧ (∀ i, i < q_w E → L i < q_w B ∧ E 12 i = B 12 (L i) ∧ E 13 i = B 13 (L i) ∧ E 14 i = B 14 (L i)) ∧ E 1 1 = B 1 1 ∧ (∀ k, E 9 k = B 9 k) ∧ (∀ w, w < q_w B → (bt W w = true ↔ (q_rd B w = true ∧ ∃ i, i < q_w E ∧ L i = w))) ∧ y = E 1 2 ∧ (∀ k, k < 12 → t k = E 4 k) ∧ mn = E 0 4
theorem q_sim_ss {B E : xM} {L : Nat → Nat} {W y : Int32} {t : Nat → Int32} {mn : Int32} (h : q_sim B E L W y t mn) {i : Nat} (hi : i < q_w E) : q_ss E i = q_ss B (L i) := by
  obtain ⟨-, h2, -⟩ := h
  obtain ⟨-, e1, e2, -⟩ := h2 i hi
  unfold q_ss
  rw [e1, e2]
theorem q_sim_rd {B E : xM} {L : Nat → Nat} {W y : Int32} {t : Nat → Int32} {mn : Int32} (h : q_sim B E L W y t mn) {i : Nat} (hi : i < q_w E) : q_rd E i = q_rd B (L i) := by
  unfold q_rd
  rw [q_sim_ss h hi, h.2.2.1]
theorem q_sim_next {B E : xM} {L : Nat → Nat} {W y : Int32} {t : Nat → Int32} {mn : Int32} {K : Nat} (h : q_sim B E L W y t mn) (hE : WF K E) : q_nx (q_tf B t) (bt W) (q_fr B y) (q_w B) = (q_next E).map L := by
  have hs := @q_sim_ss B E L W y t mn h
  have hr := @q_sim_rd B E L W y t mn h
  obtain ⟨h1, h2, h3, h4, h5, h6, h7, h8⟩ := h
  unfold q_next
  refine q_nx_map L h1 (fun i hi => (h2 i hi).1) (fun i hi => ?_) (fun i hi => ?_) (fun i hi => ?_) (fun w hw hz => ((h5 w hw).mp hz).2)
  · rw [← q_tf_cong (t := t) (t' := E 4) (q_ok_of hE hi) h7]
    obtain ⟨-, e1, e2, -⟩ := h2 i hi
    unfold q_tf
    rw [e1, e2]
  · have := h5 (L i) (h2 i hi).1
    rw [Bool.eq_iff_iff, this, hr hi]
    exact ⟨fun z => z.1, fun z => ⟨z, i, hi, rfl⟩⟩
  · unfold q_fr
    rw [hs hi, h6]
def q_Ls (L : Nat → Nat) (i : Nat) : Nat → Nat := fun k => if k < i then L k else L (k + 1)
theorem q_Ls_lo {L : Nat → Nat} {i k : Nat} (h : k < i) : q_Ls L i k = L k := if_pos h
theorem q_Ls_hi {L : Nat → Nat} {i k : Nat} (h : i ≤ k) : q_Ls L i k = L (k + 1) := if_neg (by omega)
theorem q_sim_step {B E : xM} {L : Nat → Nat} {W y : Int32} {t : Nat → Int32} {mn : Int32} {K : Nat} (h : q_sim B E L W y t mn) (hE : WF K E) (hB : q_w B ≤ 20) {i : Nat} (hi : i < q_w E) : q_sim B (q_sg E i) (q_Ls L i) (q_no W (L i)) (q_ss B (L i)) (q_at t (q_ss B (L i))) (mn + B 9 (B 14 (L i)).toNatClampNeg) := by
  have hs := q_sim_ss h hi
  have hw := WF_w hE
  have h12 := (WF_s hE).1
  have ew := q_sg_w hi hw.1 hw.2
  obtain ⟨h1, h2, h3, h4, h5, h6, h7, h8⟩ := h
  have inj : ∀ a b, a < q_w E → b < q_w E → L a = L b → a = b := by
    intro a b ha hb hab
    rcases Nat.lt_trichotomy a b with q | q | q
    · have := h1 a b q hb
      omega
    · exact q
    · have := h1 b a q ha
      omega
  refine ⟨fun a b hab hb => ?_, fun a ha => ?_, ?_, fun k => ?_, fun w hw2 => ?_, ?_, fun k hk => ?_, ?_⟩
  · rw [ew] at hb
    by_cases q : b < i
    · rw [q_Ls_lo q, q_Ls_lo (show a < i by omega)]
      exact h1 a b hab (by omega)
    · by_cases q2 : a < i
      · rw [q_Ls_lo q2, q_Ls_hi (show i ≤ b by omega)]
        exact h1 a (b + 1) (by omega) (by omega)
      · rw [q_Ls_hi (show i ≤ a by omega), q_Ls_hi (show i ≤ b by omega)]
        exact h1 (a + 1) (b + 1) (by omega) (by omega)
  · rw [ew] at ha
    rw [q_sg_v E i 12 a (by omega), q_sg_v E i 13 a (by omega), q_sg_v E i 14 a (by omega)]
    by_cases q : a < i
    · rw [q_Ls_lo q, if_neg (by omega), if_neg (by omega), if_neg (by omega)]
      exact h2 a (by omega)
    · rw [q_Ls_hi (show i ≤ a by omega), if_pos (by omega), if_pos (by omega), if_pos (by omega)]
      exact h2 (a + 1) (by omega)
  · rw [q_sg_1, h3]
  · rw [q_sg_9, h4]
  · rw [q_no_bt (by have := (h2 i hi).1; omega) (by omega), Bool.and_eq_true, decide_eq_true_eq, h5 w hw2, ew]
    constructor
    · rintro ⟨⟨r, j, hj, rfl⟩, hne⟩
      refine ⟨r, ?_⟩
      by_cases q : j < i
      · exact ⟨j, by omega, by rw [q_Ls_lo q]⟩
      · have : j ≠ i := fun z => hne (by rw [z])
        refine ⟨j - 1, by omega, ?_⟩
        rw [q_Ls_hi (show i ≤ j - 1 by omega)]
        congr 1
        omega
    · rintro ⟨r, j, hj, hjw⟩
      by_cases q : j < i
      · rw [q_Ls_lo q] at hjw
        refine ⟨⟨r, j, by omega, hjw⟩, fun z => ?_⟩
        have := inj j i (by omega) hi (by omega)
        omega
      · rw [q_Ls_hi (show i ≤ j by omega)] at hjw
        refine ⟨⟨r, j + 1, by omega, hjw⟩, fun z => ?_⟩
        have := inj (j + 1) i (by omega) hi (by omega)
        omega
  · rw [q_sg_t, hs]
  · rw [q_sg_4, ← hs]
    unfold q_at q_an
    by_cases q : bt (q_ss E i) k = true
    · rw [if_pos ⟨hk, q⟩, if_pos ⟨q_ss_in hE hi (by omega) q, q⟩, h7 k hk]
    · rw [if_neg (fun z => q z.2), if_neg (fun z => q z.2), h7 k hk]
  · rw [q_sg_m, h8, h4, (h2 i hi).2.2.2]
theorem q_sim_0 (B : xM) (hB : q_w B ≤ 20) : q_sim B B (fun k => k) (q_wait B none) (B 1 2) (B 4) (B 0 4) := by
  refine ⟨fun i j h _ => h, fun i hi => ⟨hi, rfl, rfl, rfl⟩, rfl, fun _ => rfl, fun w hw => ?_, rfl, fun _ _ => rfl, rfl⟩
  show bt (q_om B (B 1 1 ^^^ -1) (q_w B)) w = true ↔ _
  rw [q_om_bt (by omega) (by omega), Bool.and_eq_true, decide_eq_true_eq]
  exact ⟨fun z => ⟨z.2, w, hw, rfl⟩, fun z => ⟨hw, z.1⟩⟩
theorem q_L1 (m k : Nat) : q_Ls (fun k => k) m k = if k < m then k else k + 1 := rfl
theorem q_sim_1 (B : xM) (hB : q_w B ≤ 20) (h11 : B 11 0 = nI (q_w B)) (m : Nat) (hm : m < q_w B) : q_sim B (q_rm B m) (q_Ls (fun k => k) m) (q_wait B (some m)) (B 1 2) (B 4) (B 0 4) := by
  have ew := q_rm_w hm hB h11
  have row : ∀ a k, a ≠ 11 → a ≠ 12 → a ≠ 13 → a ≠ 14 → q_rm B m a k = B a k := by
    intro a k h1 h2 h3 h4
    unfold q_rm
    rw [if_neg (by omega), if_neg (by omega)]
  refine ⟨fun i j h hj => ?_, fun i hi => ?_, row 1 1 (by decide) (by decide) (by decide) (by decide), fun k => row 9 k (by decide) (by decide) (by decide) (by decide), fun w hw => ?_, (row 1 2 (by decide) (by decide) (by decide) (by decide)).symm, fun k _ => (row 4 k (by decide) (by decide) (by decide) (by decide)).symm, (row 0 4 (by decide) (by decide) (by decide) (by decide)).symm⟩
  · rw [q_L1, q_L1]
    split <;> split <;> omega
  · rw [ew] at hi
    rw [q_rm_row (by omega), q_rm_row (by omega), q_rm_row (by omega)]
    by_cases q : i < m
    · rw [q_Ls_lo q, if_neg (by omega), if_neg (by omega), if_neg (by omega)]
      exact ⟨by omega, rfl, rfl, rfl⟩
    · rw [q_Ls_hi (show m ≤ i by omega), if_pos (by omega), if_pos (by omega), if_pos (by omega)]
      exact ⟨by omega, rfl, rfl, rfl⟩
  · show bt (q_no (q_om B (B 1 1 ^^^ -1) (q_w B)) m) w = true ↔ _
    have hrd : (q_ss B w &&& (B 1 1 ^^^ -1) = 0) ↔ q_rd B w = true := by
      unfold q_rd
      rw [decide_eq_true_eq]
    rw [q_no_bt (by omega) (by omega), q_om_bt (by omega) (by omega), ew]
    simp only [Bool.and_eq_true, decide_eq_true_eq]
    rw [hrd]
    constructor
    · rintro ⟨⟨-, z⟩, hne⟩
      refine ⟨z, ?_⟩
      by_cases q : w < m
      · exact ⟨w, by omega, by rw [q_L1, if_pos q]⟩
      · exact ⟨w - 1, by omega, by rw [q_L1, if_neg (by omega)]; omega⟩
    · rintro ⟨z, i, hi, hiw⟩
      refine ⟨⟨hw, z⟩, ?_⟩
      rw [q_L1] at hiw
      split at hiw <;> omega
def q_turn (B : xM) (wish : Nat) (miss : Option Nat) : Nat × Int32 := q_la B wish 20 (q_wait B miss) (B 1 2) (B 4) (B 0 4) 0
