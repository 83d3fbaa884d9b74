def q_kp (E : xM) (lo hi : Int32) (s : Nat) (k : Int32) : Bool := decide (lo ≤ E 7 s + k) && decide (E 8 s + k ≤ hi)
def q_kf (p : Int32 → Bool) : Nat → Int32
  | 0 => -6
  | n + 1 => if p (nI (6 - n)) = true then 10 + nI (6 - n) else if p (-(nI (6 - n))) = true then 10 - nI (6 - n) else q_kf p n
def q_kk (E : xM) (s : Nat) (o : Option Nat) (u : Nat) (k : Int32) : Bool := q_kp E (E 2 s) (E 3 s) u k && (match o with
  | none => true
  | some v => q_kp E (E 2 v) (E 3 v) u k)
def q_kt (E : xM) (s : Nat) (o : Option Nat) (u : Nat) : Int32 := q_kf (q_kk E s o u) 7
theorem q_kf_cong {p p' : Int32 → Bool} (h : ∀ k, p k = p' k) (n : Nat) : q_kf p n = q_kf p' n := by
  have : p = p' := funext h
  rw [this]
noncomputable def q_if (p : Prop) (a b : Int32) : Int32 := @ite Int32 p (Classical.propDecidable p) a b
theorem q_if1 {p : Prop} {a b : Int32} (h : p) : q_if p a b = a := by unfold q_if; rw [if_pos h]
theorem q_if0 {p : Prop} {a b : Int32} (h : ¬ p) : q_if p a b = b := by unfold q_if; rw [if_neg h]
theorem ok_X7_fits {g : xG} (lo hi k : Int32) (u : Nat) (hu : u < 16) (M : xM) : mi_X7_fits g lo hi (nI u) k M (fun r N => r = x_b (q_kp M lo hi u k = true) ∧ N = M) := by
  refine wk_X7_fits _ _ _ _ M _ ?_
  unfold vc_X7_fits
  have v : vp_in (nI u) 16 := x_vi hu (by omega)
  rw [x_cl (by omega)]
  refine ⟨v, fun h => ⟨(x_b0 ?_).symm, rfl⟩, fun h => ⟨v, fun h2 => ⟨(x_b0 ?_).symm, rfl⟩, fun h2 => ⟨(x_b1 ?_).symm, rfl⟩⟩⟩
  · simp only [q_kp, Bool.and_eq_true, decide_eq_true_eq]
    exact fun q => Int32.not_lt.mpr q.1 h
  · simp only [q_kp, Bool.and_eq_true, decide_eq_true_eq]
    exact fun q => Int32.not_lt.mpr q.2 h2
  · simp only [q_kp, Bool.and_eq_true, decide_eq_true_eq]
    exact ⟨Int32.not_lt.mp h, Int32.not_lt.mp h2⟩
theorem ok_X7_keyAndTenBetween {g : xG} (lo hi : Int32) (u : Nat) (hu : u < 16) (M : xM) : mi_X7_keyAndTenBetween g lo hi (nI u) M (fun r N => r = q_kf (q_kp M lo hi u) 7 ∧ N = M) := by
  refine wk_X7_keyAndTenBetween _ _ _ M _ (fun k v1 v2 v3 v4 N => ∃ i, i ≤ 7 ∧ k = 7 - i ∧ v4 = nI i ∧ v1 = lo ∧ v2 = hi ∧ v3 = nI u ∧ N = M ∧ q_kf (q_kp M lo hi u) 7 = q_kf (q_kp M lo hi u) (7 - i)) ?_ ?_
  · unfold vc_X7_keyAndTenBetween
    exact ⟨7, 0, by omega, by omega, rfl, rfl, rfl, rfl, rfl, rfl⟩
  · rintro k lo hi v3 v4 N ⟨i, h7, rfl, rfl, rfl, rfl, rfl, rfl, e⟩
    unfold vc_X7_keyAndTenBetween_1
    rw [e, show (6 : Int32) = nI 6 from rfl, x_lt (by omega) (by omega), nI_1]
    refine ⟨fun q => ?_, fun q => ?_⟩
    · have : i = 7 := by omega
      subst this
      exact ⟨rfl, rfl⟩
    · obtain ⟨m, hm⟩ : ∃ m, 7 - i = m + 1 := ⟨7 - i - 1, by omega⟩
      have em : 6 - m = i := by omega
      rw [hm] at e ⊢
      refine mo_X7_fits (ok_X7_fits _ _ _ u hu _) ?_
      rintro r N ⟨rfl, rfl⟩
      have ek : q_kf (q_kp N lo hi u) (m + 1) = if q_kp N lo hi u (nI i) = true then 10 + nI i else if q_kp N lo hi u (-(nI i)) = true then 10 - nI i else q_kf (q_kp N lo hi u) m := by
        rw [q_kf, em]
      rw [ek]
      refine ⟨fun z => ?_, fun z => ⟨by rw [if_pos (x_b_ne.mp z)], rfl⟩⟩
      refine mo_X7_fits (ok_X7_fits _ _ _ u hu _) ?_
      rintro r N ⟨rfl, rfl⟩
      refine ⟨fun z2 => ⟨7 - (i + 1), by omega, i + 1, by omega, rfl, rfl, rfl, rfl, rfl, rfl, ?_⟩, fun z2 => ⟨by rw [if_neg (x_b_eq.mp z), if_pos (x_b_ne.mp z2)], rfl⟩⟩
      rw [if_neg (x_b_eq.mp z), if_neg (x_b_eq.mp z2)]
      have : 7 - (i + 1) = m := by omega
      rw [this]
theorem ok_X0_keyAndTen {g : xG} (s : Nat) (o : Option Nat) (u : Nat) (hs : s < 12) (ho : ∀ i, o = some i → i < 12) (hu : u < 16) (M : xM) : mi_X0_keyAndTen g (nI s) (q_on o) (nI u) M (fun r N => r = q_kt M s o u ∧ N = M) := by
  refine wk_X0_keyAndTen _ _ _ M _ ?_
  unfold vc_X0_keyAndTen
  have v : vp_in (nI s) 12 := x_vi hs (by omega)
  rw [x_cl (by omega), q_on_none (fun i hi => by have := ho i hi; omega)]
  refine ⟨v, v, fun q => ?_, fun q => ?_⟩
  · subst q
    refine mo_X7_keyAndTenBetween (ok_X7_keyAndTenBetween _ _ u hu _) ?_
    rintro r N ⟨rfl, rfl⟩
    exact ⟨q_kf_cong (fun k => by simp [q_kk]) 7, rfl⟩
  · cases o with
    | none => exact absurd rfl q
    | some i =>
      have hi := ho i rfl
      have e : (q_on (some i)).toNatClampNeg = i := x_cl (by omega)
      have v2 : vp_in (q_on (some i)) 12 := x_vi hi (by omega)
      rw [e]
      refine ⟨v2, ?_⟩
      rintro y3 rfl
      refine ⟨v2, ?_⟩
      rintro y4 rfl
      refine mo_X7_keyAndTenBetween (ok_X7_keyAndTenBetween _ _ u hu _) ?_
      rintro r N ⟨rfl, rfl⟩
      refine ⟨q_kf_cong (fun k => ?_) 7, rfl⟩
      have key : ∀ a b c d x y : Int32, (decide ((if a < b then b else a) ≤ x) && decide (y ≤ (if d < c then d else c))) = ((decide (a ≤ x) && decide (y ≤ c)) && (decide (b ≤ x) && decide (y ≤ d))) := by
        intro a b c d x y
        rw [Bool.eq_iff_iff]
        simp only [Bool.and_eq_true, decide_eq_true_eq, Int32.le_iff_toInt_le, Int32.lt_iff_toInt_lt]
        split <;> split <;> omega
      simp only [q_kk, q_kp]
      exact key _ _ _ _ _ _
theorem ok_X0_singersWithKey {g : xG} (u : Nat) (hu : u < 16) (M : xM) (n : Nat) (hn : n ≤ 12) (h : M 1 0 = nI n) : mi_X0_singersWithKey g (nI u) M (fun r N => (∀ i, i < 32 → bt r i = (decide (i < n) && decide (q_kt M i none u ≠ -6))) ∧ N = M) := by
  refine wk_X0_singersWithKey _ M _ (fun k v1 v2 v3 N => ∃ i, i ≤ n ∧ k = n - i ∧ v3 = nI i ∧ v1 = nI u ∧ (∀ j, j < 32 → bt v2 j = (decide (j < i) && decide (q_kt M j none u ≠ -6))) ∧ N = M) ?_ ?_
  · unfold vc_X0_singersWithKey
    exact ⟨n, 0, by omega, by omega, rfl, rfl, fun j _ => by simp [b_0], rfl⟩
  · rintro k v1 v2 v3 N ⟨i, hi, rfl, rfl, rfl, hb, rfl⟩
    unfold vc_X0_singersWithKey_1
    rw [h, x_le (by omega) (by omega), nI_1]
    refine ⟨fun q => ?_, fun q => ?_⟩
    · have : i = n := by omega
      subst this
      exact ⟨hb, rfl⟩
    · refine mo_X0_keyAndTen (ok_X0_keyAndTen i none u (by omega) (fun _ z => by cases z) hu N) ?_
      rintro r N ⟨rfl, rfl⟩
      refine ⟨fun z => ⟨n - (i + 1), by omega, i + 1, by omega, rfl, rfl, rfl, fun j hj => ?_, rfl⟩, fun z => ⟨n - (i + 1), by omega, i + 1, by omega, rfl, rfl, rfl, fun j hj => ?_, rfl⟩⟩
      · rw [hb j hj]
        by_cases q2 : j = i
        · subst q2
          simp [z]
        · have : (j < i + 1) ↔ j < i := by omega
          simp [this]
      · rw [b_or, hb j hj, b_one (by omega) hj]
        by_cases q2 : j = i
        · subst q2
          simp [z]
        · have : (j < i + 1) ↔ j < i := by omega
          simp [this, q2]
noncomputable def q_en (E : xM) (v1 v2 v3 : Int32) : Int32 := q_if (vp_in v1 (q_s E) ∧ (v2 = -6 ∨ vp_in v2 (q_s E)) ∧ vp_in v3 (q_g E)) (if v1 = v2 then -2 else 0) (-1)
def q_ov (v : Int32) : Option Nat := if v = -6 then none else some v.toNatClampNeg
theorem q_ov_on {o : Option Nat} (h : ∀ i, o = some i → i < 5000) : q_ov (q_on o) = o := by
  unfold q_ov
  cases o with
  | none => rfl
  | some i =>
    show (if nI i = -6 then none else some (nI i).toNatClampNeg) = some i
    rw [if_neg (x_nm6 (h i rfl)), x_cl (h i rfl)]
noncomputable def q_ew (E : xM) (v1 v2 v3 : Int32) (a : Nat) : Int32 := q_if (q_en E v1 v2 v3 = 0) (q_if (a < 20) (q_if (q_kt E v1.toNatClampNeg (q_ov v2) v3.toNatClampNeg = -6) (-5) 0) (-4)) (q_en E v1 v2 v3)
theorem q_en_0 {E : xM} {v1 v2 v3 : Int32} (h : q_en E v1 v2 v3 = 0) : vp_in v1 (q_s E) ∧ (v2 = -6 ∨ vp_in v2 (q_s E)) ∧ vp_in v3 (q_g E) ∧ v1 ≠ v2 := by
  unfold q_en at h
  by_cases q : vp_in v1 (q_s E) ∧ (v2 = -6 ∨ vp_in v2 (q_s E)) ∧ vp_in v3 (q_g E)
  · rw [q_if1 q] at h
    refine ⟨q.1, q.2.1, q.2.2, fun z => ?_⟩
    rw [if_pos z] at h
    exact absurd h (by decide)
  · rw [q_if0 q] at h
    exact absurd h (by decide)
theorem ok_X0_errorOfNames {g : xG} (v1 v2 v3 : Int32) (M : xM) (K : Nat) (h : WF K M) : mi_X0_errorOfNames g v1 v2 v3 M (fun r N => r = q_en M v1 v2 v3 ∧ N = M) := by
  obtain ⟨⟨hs1, hs2⟩, ⟨hg1, hg2⟩, -⟩ := h
  refine wk_X0_errorOfNames _ _ _ M _ ?_
  unfold vc_X0_errorOfNames
  refine mo_X6_has (ok_X6_has _ _ (q_s M) (by omega) hs1) ?_
  rintro r M ⟨rfl, rfl⟩
  have no : ∀ P : Prop, ¬ P → (vp_in v1 (q_s M) ∧ (v2 = -6 ∨ vp_in v2 (q_s M)) ∧ vp_in v3 (q_g M) → P) → (-1 : Int32) = q_en M v1 v2 v3 := fun P hP hq => by
    unfold q_en
    rw [q_if0 (fun z => hP (hq z))]
  have yes : vp_in v1 (q_s M) → (v2 = -6 ∨ vp_in v2 (q_s M)) → vp_in v3 (q_g M) → (if v1 = v2 then (-2 : Int32) else 0) = q_en M v1 v2 v3 := fun a b c => by
    unfold q_en
    rw [q_if1 ⟨a, b, c⟩]
  refine ⟨fun z => ⟨no _ (x_b_eq.mp z) (fun q => q.1), rfl⟩, fun z => ⟨fun q => ?_, fun q => ?_⟩⟩
  · refine mo_X7_has (ok_X7_has _ _ (q_g M) (by omega) hg1) ?_
    rintro r M ⟨rfl, rfl⟩
    refine ⟨fun z2 => ?_, fun z2 => ⟨no _ (x_b_eq.mp z2) (fun q => q.2.2), rfl⟩⟩
    have := yes (x_b_ne.mp z) (Or.inl q) (x_b_ne.mp z2)
    exact ⟨fun d => ⟨by rw [← this, if_neg d], rfl⟩, fun d => ⟨by rw [← this, if_pos d], rfl⟩⟩
  · refine mo_X6_has (ok_X6_has _ _ (q_s M) (by omega) hs1) ?_
    rintro r M ⟨rfl, rfl⟩
    refine ⟨fun z3 => ⟨no _ (x_b_eq.mp z3) (fun w => w.2.1.resolve_left q), rfl⟩, fun z3 => ?_⟩
    refine mo_X7_has (ok_X7_has _ _ (q_g M) (by omega) hg1) ?_
    rintro r M ⟨rfl, rfl⟩
    refine ⟨fun z2 => ?_, fun z2 => ⟨no _ (x_b_eq.mp z2) (fun q => q.2.2), rfl⟩⟩
    have := yes (x_b_ne.mp z) (Or.inr (x_b_ne.mp z3)) (x_b_ne.mp z2)
    exact ⟨fun d => ⟨by rw [← this, if_neg d], rfl⟩, fun d => ⟨by rw [← this, if_pos d], rfl⟩⟩
theorem ok_X0_keyAndTen_v {g : xG} (v1 v2 v3 : Int32) (M : xM) (h1 : vp_in v1 12) (h2 : v2 = -6 ∨ vp_in v2 12) (h3 : vp_in v3 16) : mi_X0_keyAndTen g v1 v2 v3 M (fun r N => r = q_kt M v1.toNatClampNeg (q_ov v2) v3.toNatClampNeg ∧ N = M) := by
  obtain ⟨s, hs, rfl⟩ := x_of (by omega) h1
  obtain ⟨u, hu, rfl⟩ := x_of (by omega) h3
  rw [x_cl (by omega), x_cl (by omega)]
  rcases h2 with rfl | h2
  · exact ok_X0_keyAndTen s none u hs (fun _ z => by cases z) hu M
  · obtain ⟨o, ho, rfl⟩ := x_of (by omega) h2
    have := ok_X0_keyAndTen (g := g) s (some o) u hs (fun i z => by cases z; exact ho) hu M
    rw [show q_on (some o) = nI o from rfl] at this
    rw [show q_ov (nI o) = some o from q_ov_on (o := some o) (fun i z => by cases z; omega)]
    exact this
theorem vp_le {v : Int32} {n m : Nat} (h : vp_in v n) (hn : n ≤ m) : vp_in v m := by
  rw [vp_in_iff] at h ⊢
  omega
theorem ok_X0_errorOfWish {g : xG} (v1 v2 v3 : Int32) (a : Nat) (ha : a < 5000) (M : xM) (K : Nat) (h : WF K M) : mi_X0_errorOfWish g v1 v2 v3 (nI a) M (fun r N => r = q_ew M v1 v2 v3 a ∧ N = M) := by
  refine wk_X0_errorOfWish _ _ _ _ M _ ?_
  unfold vc_X0_errorOfWish
  refine mo_X0_errorOfNames (ok_X0_errorOfNames _ _ _ _ K h) ?_
  rintro r M ⟨rfl, rfl⟩
  refine ⟨fun z => ?_, fun z => ⟨by rw [q_ew, q_if0 z], rfl⟩⟩
  rw [q_ew, q_if1 z, show (20 : Int32) = nI 20 from rfl, x_lt ha (by omega)]
  refine ⟨fun q => ?_, fun q => ⟨by rw [q_if0 q], rfl⟩⟩
  rw [q_if1 q]
  obtain ⟨e1, e2, e3, -⟩ := q_en_0 z
  obtain ⟨⟨hs1, hs2⟩, ⟨hg1, hg2⟩, -⟩ := h
  refine mo_X0_keyAndTen (ok_X0_keyAndTen_v _ _ _ _ (vp_le e1 hs2) (e2.imp id (fun w => vp_le w hs2)) (vp_le e3 hg2)) ?_
  rintro r M ⟨rfl, rfl⟩
  exact ⟨fun w => ⟨by rw [q_if0 w], rfl⟩, fun w => ⟨by rw [q_if1 w], rfl⟩⟩
