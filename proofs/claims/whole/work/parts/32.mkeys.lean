/-! the reference: keys -/
theorem q_kk_f {E : xM} {s u : Nat} {o : Option Nat} {k : Int32} (h : q_kp E (E 2 s) (E 3 s) u k = false) : q_kk E s o u k = false := by
  cases o <;> simp [q_kk, h]
theorem ok_X10_keyFor {g : xG} (E M : xM) (s u : Nat) (o : Option Nat) (hs : s < 12) (ho : ∀ i, o = some i → i < 12) (hu : u < 16) (h : RE E (M 194)) : mi_X10_keyFor g (nI s) (q_on o) (nI u) M (fun r N => r = q_kt E s o u ∧ N = M) := by
  have lt5 : ∀ i, o = some i → i < 5000 := fun i hi => by have := ho i hi; omega
  generalize hp : q_kk E s o u = p
  refine wk_X10_keyFor _ _ _ M _ (fun k v1 v2 v3 v4 v5 N => ∃ n, n ≤ 7 ∧ k = 4 * (7 - n) ∧ v1 = nI s ∧ v2 = q_on o ∧ v3 = nI u ∧ v4 = q_kf p n ∧ v5 = nI (7 - n) - 1 ∧ N = M)
    (fun k v1 v2 v3 v4 v5 v6 N => ∃ n j, n ≤ 6 ∧ j ≤ 2 ∧ k = 4 * (7 - n) - 1 - j ∧ v1 = nI s ∧ v2 = q_on o ∧ v3 = nI u ∧ v5 = nI (6 - n) ∧ N = M ∧ (j = 0 → v6 = -(nI (6 - n)) ∧ v4 = q_kf p n) ∧ (j = 1 → n < 6 ∧ v6 = nI (6 - n) ∧ v4 = if p (-(nI (6 - n))) = true then 10 - nI (6 - n) else q_kf p n) ∧ (j = 2 → nI (6 - n) < v6 ∧ v4 = q_kf p (n + 1))) ?_ ?_ ?_
  · unfold vc_X10_keyFor
    exact ⟨28, 0, by omega, by omega, rfl, rfl, rfl, rfl, rfl, rfl⟩
  · rintro k v1 v2 v3 v4 v5 N ⟨n, hn, rfl, rfl, rfl, rfl, rfl, rfl, rfl⟩
    unfold vc_X10_keyFor_1
    rw [x_pred0 (by omega)]
    refine ⟨fun q => ?_, fun q => ?_⟩
    · have : n = 7 := by omega
      subst this
      exact ⟨by rw [q_kt, hp], rfl⟩
    · have e : nI (7 - n) - 1 = nI (6 - n) := by
        rw [x_pred (by omega)]
        congr 1
        omega
      rw [e]
      exact ⟨4 * (7 - n) - 1 - 0, by omega, n, 0, by omega, by omega, rfl, rfl, rfl, rfl, rfl, rfl, fun _ => ⟨rfl, rfl⟩, fun z => absurd z (by decide), fun z => absurd z (by decide)⟩
  · rintro k v1 v2 v3 v4 v5 v6 N ⟨n, j, hn, hj, rfl, rfl, rfl, rfl, rfl, rfl, j0, j1, j2⟩
    unfold vc_X10_keyFor_2
    -- a size's end
    by_cases hj2 : j = 2
    · obtain ⟨w1, w2⟩ := j2 hj2
      refine ⟨fun _ => ?_, fun q => absurd w1 q⟩
      refine ⟨4 * (7 - (n + 1)), by omega, n + 1, by omega, rfl, rfl, rfl, rfl, w2, ?_, rfl⟩
      rw [Int32.sub_eq_add_neg]
      congr 2
      omega
    · have sm : ∀ i, i ≤ 6 → ¬ nI i < -(nI i) ∧ -(nI i) + 2 * nI i = nI i ∧ (i ≠ 0 → nI i < nI i + 2 * nI i) ∧ -(nI i) + 10 = 10 - nI i ∧ nI i + 10 = 10 + nI i ∧ (i = 0 → nI i < -(nI i) + 1) := by decide +kernel
      obtain ⟨m1, m2, m3, m4, m5, m6⟩ := sm (6 - n) (by omega)
      have ek : q_kf p (n + 1) = if p (nI (6 - n)) = true then 10 + nI (6 - n) else if p (-(nI (6 - n))) = true then 10 - nI (6 - n) else q_kf p n := rfl
      have z0 : nI (6 - n) = 0 ↔ n = 6 := by
        rw [x_eq0 (by omega)]
        omega
      have nlt : ¬ nI (6 - n) < v6 := by
        by_cases hj0 : j = 0
        · rw [(j0 hj0).1]
          exact m1
        · rw [(j1 (by omega)).2.1]
          exact Int32.lt_irrefl
      refine ⟨fun q => absurd q nlt, fun _ => ?_⟩
      -- the goal behind a key that was looked at
      have nx : ∀ f : Int32, f = (if p v6 = true then v6 + 10 else v4) → ((¬ nI (6 - n) = 0 → ∃ k', k' < 4 * (7 - n) - 1 - j ∧ ∃ n' j', n' ≤ 6 ∧ j' ≤ 2 ∧ k' = 4 * (7 - n') - 1 - j' ∧ nI s = nI s ∧ q_on o = q_on o ∧ nI u = nI u ∧ nI (6 - n) = nI (6 - n') ∧ N = N ∧ (j' = 0 → v6 + 2 * nI (6 - n) = -(nI (6 - n')) ∧ f = q_kf p n') ∧ (j' = 1 → n' < 6 ∧ v6 + 2 * nI (6 - n) = nI (6 - n') ∧ f = if p (-(nI (6 - n'))) = true then 10 - nI (6 - n') else q_kf p n') ∧ (j' = 2 → nI (6 - n') < v6 + 2 * nI (6 - n) ∧ f = q_kf p (n' + 1))) ∧
          (nI (6 - n) = 0 → ∃ k', k' < 4 * (7 - n) - 1 - j ∧ ∃ n' j', n' ≤ 6 ∧ j' ≤ 2 ∧ k' = 4 * (7 - n') - 1 - j' ∧ nI s = nI s ∧ q_on o = q_on o ∧ nI u = nI u ∧ nI (6 - n) = nI (6 - n') ∧ N = N ∧ (j' = 0 → v6 + 1 = -(nI (6 - n')) ∧ f = q_kf p n') ∧ (j' = 1 → n' < 6 ∧ v6 + 1 = nI (6 - n') ∧ f = if p (-(nI (6 - n'))) = true then 10 - nI (6 - n') else q_kf p n') ∧ (j' = 2 → nI (6 - n') < v6 + 1 ∧ f = q_kf p (n' + 1)))) := by
        rintro f rfl
        by_cases hj0 : j = 0
        · obtain ⟨w1, w2⟩ := j0 hj0
          subst hj0
          refine ⟨fun z => ?_, fun z => ?_⟩
          · rw [z0] at z
            refine ⟨4 * (7 - n) - 1 - 1, by omega, n, 1, by omega, by omega, rfl, rfl, rfl, rfl, rfl, rfl, fun t => absurd t (by decide), fun _ => ⟨by omega, by rw [w1, m2], by rw [w1, w2, m4]⟩, fun t => absurd t (by decide)⟩
          · rw [z0] at z
            refine ⟨4 * (7 - n) - 1 - 2, by omega, n, 2, by omega, by omega, rfl, rfl, rfl, rfl, rfl, rfl, fun t => absurd t (by decide), fun t => absurd t (by decide), fun _ => ⟨by rw [w1]; exact m6 (by omega), ?_⟩⟩
            have e0 : -(nI (6 - n)) = nI (6 - n) := by
              rw [z]
              decide
            rw [ek, w1, w2, e0, m5]
            by_cases t : p (nI (6 - n)) = true
            · rw [if_pos t, if_pos t]
            · rw [if_neg t, if_neg t, if_neg t]
        · obtain ⟨w0, w1, w2⟩ := j1 (by omega)
          have hj1 : j = 1 := by omega
          subst hj1
          refine ⟨fun z => ?_, fun z => absurd (z0.mp z) (by omega)⟩
          refine ⟨4 * (7 - n) - 1 - 2, by omega, n, 2, by omega, by omega, rfl, rfl, rfl, rfl, rfl, rfl, fun t => absurd t (by decide), fun t => absurd t (by decide), fun _ => ⟨by rw [w1]; exact m3 (by omega), ?_⟩⟩
          rw [ek, w1, w2, m5]
      refine mo_X10_isKeyFor (ok_X10_isKeyFor E N s u _ hs hu h) ?_
      rintro r N ⟨rfl, rfl⟩
      refine ⟨fun z => ?_, fun z => ?_⟩
      · have z := x_b_eq.mp z
        exact nx _ (by rw [if_neg]; rw [← hp, q_kk_f (by simpa using z)]; decide)
      · have z := x_b_ne.mp z
        rw [q_on_none lt5]
        refine ⟨fun q => ?_, fun q => ?_⟩
        · subst q
          exact nx _ (by rw [if_pos]; rw [← hp]; simp [q_kk, z])
        · cases o with
          | none => exact absurd rfl q
          | some i =>
            refine mo_X10_isKeyFor (ok_X10_isKeyFor E N i u _ (ho i rfl) hu h) ?_
            rintro r N ⟨rfl, rfl⟩
            refine ⟨fun z2 => ?_, fun z2 => ?_⟩
            · have z2 := x_b_eq.mp z2
              exact nx _ (by rw [if_neg]; rw [← hp]; simp [q_kk, z2])
            · have z2 := x_b_ne.mp z2
              exact nx _ (by rw [if_pos]; rw [← hp]; simp [q_kk, z, z2])
theorem ok_X10_keyFor_v {g : xG} (E M : xM) (v1 v2 v3 : Int32) (h : RE E (M 194)) (h1 : vp_in v1 12) (h2 : v2 = -6 ∨ vp_in v2 12) (h3 : vp_in v3 16) : mi_X10_keyFor g v1 v2 v3 M (fun r N => r = q_kt E v1.toNatClampNeg (q_ov v2) v3.toNatClampNeg ∧ N = M) := by
  obtain ⟨s, hs, rfl⟩ := x_of (by omega) h1
  obtain ⟨u, hu, rfl⟩ := x_of (by omega) h3
  rw [x_cl (by omega), x_cl (by omega)]
  rcases h2 with rfl | h2
  · exact ok_X10_keyFor E M s u none hs (fun _ z => by cases z) hu h
  · obtain ⟨o, ho, rfl⟩ := x_of (by omega) h2
    have := ok_X10_keyFor (g := g) E M s u (some o) hs (fun i z => by cases z; exact ho) hu h
    rw [show q_on (some o) = nI o from rfl] at this
    rw [show q_ov (nI o) = some o from q_ov_on (o := some o) (fun i z => by cases z; omega)]
    exact this
theorem ok_X10_singersFor {g : xG} (E M : xM) (K u : Nat) (hu : u < 16) (hE : WF K E) (h : RE E (M 194)) : mi_X10_singersFor g (nI u) M (fun r N => (∀ i, i < 32 → bt r i = (decide (i < q_s E) && decide (q_kt E i none u ≠ -6))) ∧ N = M) := by
  obtain ⟨hn, -⟩ := WF_s hE
  refine wk_X10_singersFor _ M _ (fun k v1 v2 v3 N => ∃ i, i ≤ q_s E ∧ k = q_s E - i ∧ v3 = nI i ∧ v1 = nI u ∧ (∀ j, j < 32 → bt v2 j = (decide (j < i) && decide (q_kt E j none u ≠ -6))) ∧ N = M) ?_ ?_
  · unfold vc_X10_singersFor
    exact ⟨q_s E, 0, by omega, by omega, rfl, rfl, fun j _ => by simp [b_0], rfl⟩
  · rintro k v1 v2 v3 N ⟨i, hi, rfl, rfl, rfl, hb, rfl⟩
    unfold vc_X10_singersFor_1
    rw [c_0, RE_0 hE h, x_le (by omega) (by omega), nI_1]
    refine ⟨v_k (n := 0) 239 (by omega) (by omega) rfl, fun q => ?_, fun q => ?_⟩
    · have : i = q_s E := by omega
      subst this
      exact ⟨hb, rfl⟩
    · refine mo_X10_keyFor (ok_X10_keyFor E N i u none (by omega) (fun _ z => by cases z) hu h) ?_
      rintro r N ⟨rfl, rfl⟩
      refine ⟨fun z => ⟨q_s E - (i + 1), by omega, i + 1, by omega, rfl, rfl, rfl, fun j hj => ?_, rfl⟩, fun z => ⟨q_s E - (i + 1), by omega, i + 1, by omega, rfl, rfl, rfl, fun j hj => ?_, rfl⟩⟩
      · rw [b_or, hb j hj, b_one (by omega) hj]
        by_cases q2 : j = i
        · subst q2
          simp [z]
        · have : (j < i + 1) ↔ j < i := by omega
          simp [this, q2]
      · rw [b_or, b_0, Bool.or_false, hb j hj]
        by_cases q2 : j = i
        · subst q2
          simp [z]
        · have : (j < i + 1) ↔ j < i := by omega
          simp [this]
theorem ok_X10_areSingers {g : xG} (E M : xM) (K : Nat) (v1 v2 : Int32) (hE : WF K E) (h : RE E (M 194)) : mi_X10_areSingers g v1 v2 M (fun r N => r = x_b (vp_in v1 (q_s E) ∧ (v2 = -6 ∨ vp_in v2 (q_s E))) ∧ N = M) := by
  have h0 := RE_0 hE h
  have hs := WF_s hE
  refine wk_X10_areSingers _ _ M _ ?_
  unfold vc_X10_areSingers
  refine mo_X10_isSinger (ok_X10_isSinger _ _ (q_s E) (by omega) h0) ?_
  rintro r M ⟨rfl, rfl⟩
  refine ⟨fun z => ⟨(x_b0 fun q => x_b_eq.mp z q.1).symm, rfl⟩, fun z => ⟨fun q => ⟨(x_b1 ⟨x_b_ne.mp z, Or.inl q⟩).symm, rfl⟩, fun q => ?_⟩⟩
  refine mo_X10_isSinger (ok_X10_isSinger _ _ (q_s E) (by omega) h0) ?_
  rintro r M ⟨rfl, rfl⟩
  exact ⟨fun z2 => ⟨(x_b0 fun w => x_b_eq.mp z2 (w.2.resolve_left q)).symm, rfl⟩, fun z2 => ⟨(x_b1 ⟨x_b_ne.mp z, Or.inr (x_b_ne.mp z2)⟩).symm, rfl⟩⟩
theorem ok_X10_whyNotWished {g : xG} (E M : xM) (K : Nat) (v1 v2 v3 : Int32) (hE : WF K E) (h : RE E (M 194)) : mi_X10_whyNotWished g v1 v2 v3 M (fun r N => r = q_ew E v1 v2 v3 (q_w E) ∧ N = M) := by
  have h1 := RE_1 hE h
  have h2 := RE_2 hE h
  have hs := WF_s hE
  have hg := WF_g hE
  have hw := WF_w hE
  refine wk_X10_whyNotWished _ _ _ M _ ?_
  unfold vc_X10_whyNotWished
  have ne0 : ∀ {x : Int32}, x = q_en E v1 v2 v3 → ¬ x = 0 → x = q_ew E v1 v2 v3 (q_w E) := by
    rintro x rfl hx
    rw [q_ew, q_if0 hx]
  refine mo_X10_areSingers (ok_X10_areSingers E M K _ _ hE h) ?_
  rintro r M ⟨rfl, rfl⟩
  refine ⟨fun z => ⟨ne0 ?_ (by decide), rfl⟩, fun z => ?_⟩
  · rw [q_en, q_if0]
    exact fun w => x_b_eq.mp z ⟨w.1, w.2.1⟩
  · have z := x_b_ne.mp z
    refine mo_X10_isSong (ok_X10_isSong _ _ (q_g E) (by omega) h1) ?_
    rintro r M ⟨rfl, rfl⟩
    refine ⟨fun z2 => ?_, fun z2 => ⟨ne0 ?_ (by decide), rfl⟩⟩
    · have z2 := x_b_ne.mp z2
      refine ⟨fun q => ?_, fun q => ⟨ne0 ?_ (by decide), rfl⟩⟩
      · have en : q_en E v1 v2 v3 = 0 := by
          rw [q_en, q_if1 ⟨z.1, z.2, z2⟩, if_neg q]
        rw [c_2, h2, show (20 : Int32) = nI 20 from rfl, x_eq (by omega) (by omega), q_ew, q_if1 en]
        refine ⟨v_k (n := 2) 239 (by omega) (by omega) rfl, fun q2 => ?_, fun q2 => ⟨?_, rfl⟩⟩
        · rw [q_if1 (show q_w E < 20 by omega)]
          refine mo_X10_keyFor (ok_X10_keyFor_v E _ _ _ _ h (vp_le z.1 (by omega)) (z.2.imp id (fun w => vp_le w (by omega))) (vp_le z2 (by omega))) ?_
          rintro r M ⟨rfl, rfl⟩
          exact ⟨fun w => ⟨by rw [q_if0 w], rfl⟩, fun w => ⟨by rw [q_if1 w], rfl⟩⟩
        · rw [q_if0 (by omega)]
      · rw [q_en, q_if1 ⟨z.1, z.2, z2⟩, if_pos q]
    · rw [q_en, q_if0]
      exact fun w => x_b_eq.mp z2 w.2.2
