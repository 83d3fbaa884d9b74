/-! the reference: texts -/
def q_pm (M : xM) (tx : Nat → Nat) (n : Nat) : Prop := M 193 7 = nI n ∧ n ≤ 60 ∧ ∀ k, k < n → M 199 k = nI (tx k) ∧ 33 ≤ tx k ∧ tx k ≤ 126
/-- nothing changed but what reading uses -/
def q_sc (M N : xM) : Prop := (∀ k, k ≠ 8 → k ≠ 9 → k ≠ 10 → k ≠ 11 → N 193 k = M 193 k) ∧ ∀ c, c ≠ 193 → N c = M c
theorem q_sc_rf {M : xM} : q_sc M M := ⟨fun _ _ _ _ _ => rfl, fun _ _ => rfl⟩
theorem q_sc_tr {M N O : xM} (h1 : q_sc M N) (h2 : q_sc N O) : q_sc M O := ⟨fun k a b c d => by rw [h2.1 k a b c d, h1.1 k a b c d], fun c hc => by rw [h2.2 c hc, h1.2 c hc]⟩
theorem q_sc_up {M N : xM} (h : q_sc M N) {j : Nat} (hj : j = 8 ∨ j = 9 ∨ j = 10 ∨ j = 11) (v : Int32) : q_sc M (x_up N 193 j v) := ⟨fun k a b c d => by rw [x_up_same, pk_un (by omega), h.1 k a b c d], fun c hc => by rw [x_up_other hc, h.2 c hc]⟩
theorem q_pm_sc {M N : xM} {tx : Nat → Nat} {n : Nat} (h : q_pm M tx n) (hs : q_sc M N) : q_pm N tx n := by
  unfold q_pm at h ⊢
  rw [hs.1 7 (by decide) (by decide) (by decide) (by decide), hs.2 199 (by decide)]
  exact h
theorem x_gs {M : xM} {a k : Nat} {v : Int32} : x_up M a k v a k = v := by rw [x_up_same, pk_us]
theorem x_gn {M : xM} {a k j : Nat} {v : Int32} (h : j ≠ k) : x_up M a k v a j = M a j := by rw [x_up_same, pk_un h]
theorem x_nm1 {n : Nat} (h : n < 5000) : ¬ nI n = (-1 : Int32) := by
  intro q
  have h1 := congrArg Int32.toInt q
  rw [nI_toInt (by omega)] at h1
  have h2 : ((-1 : Int32)).toInt = -1 := by decide
  omega
theorem ok_X10_character {g : xG} (M : xM) (tx : Nat → Nat) (n a : Nat) (h : q_pm M tx n) (ha : a < 5000) : mi_X10_character g (nI a) M (fun r N => r = (if a < n then nI (tx a) else -1) ∧ N = M) := by
  obtain ⟨h1, h2, h3⟩ := h
  refine wk_X10_character _ M _ ?_
  unfold vc_X10_character
  rw [h1, x_le (by omega) ha]
  refine ⟨fun q => ⟨by rw [if_neg (by omega)], rfl⟩, fun q => ⟨x_vi (by omega) (by omega), ?_, rfl⟩⟩
  rw [if_pos (by omega), x_cl ha, (h3 a (by omega)).1]
theorem ok_X10_isNext {g : xG} (M : xM) (tx : Nat → Nat) (n a c : Nat) (hc : c < 5000) (h : q_pm M tx n) (ha : M 193 8 = nI a) (hn : a ≤ n) : mi_X10_isNext g (nI c) M (fun r N => ((a < n ∧ tx a = c) ∧ r = 1 ∧ N = x_up M 193 8 (nI (a + 1))) ∨ (¬ (a < n ∧ tx a = c) ∧ r = 0 ∧ N = M)) := by
  have h60 := h.2.1
  refine wk_X10_isNext _ M _ ?_
  unfold vc_X10_isNext
  rw [ha]
  refine mo_X10_character (ok_X10_character M tx n a h (by omega)) ?_
  rintro r N ⟨rfl, rfl⟩
  have e : (if a < n then nI (tx a) else -1) = nI c ↔ (a < n ∧ tx a = c) := by
    by_cases q : a < n
    · rw [if_pos q]
      have := h.2.2 a q
      rw [x_eq (by omega) hc]
      exact ⟨fun z => ⟨q, z⟩, fun z => z.2⟩
    · rw [if_neg q]
      exact ⟨fun z => absurd z.symm (x_nm1 hc), fun z => absurd z.1 q⟩
  rw [e, ha, nI_1]
  refine ⟨fun z => Or.inr ⟨z, rfl, ?_⟩, fun z => Or.inl ⟨z, rfl, rfl⟩⟩
  exact x_up_id (by rw [ha, Int32.add_zero])
def q_tnI (tx : Nat → Nat) (n a most : Nat) (M : xM) (k : Nat) (v1 v2 v3 : Int32) (N : xM) : Prop := (k = 100 ∧ v1 = nI most ∧ v2 = -1 ∧ v3 = x_b (∃ d, q_dg tx n a = some d) ∧ N = M) ∨ ∃ v b f, v ≤ most ∧ a < b ∧ b ≤ n ∧ k = n - b ∧ n - b ≤ f ∧ v1 = nI most ∧ v2 = nI v ∧ v3 = x_b (v ≠ 0 ∧ ∃ d, q_dg tx n b = some d ∧ v * 10 + d ≤ most) ∧ N = x_up M 193 8 (nI b) ∧ q_nb tx n most a = some (q_nm tx n most f v b)
theorem ok_X10_takeNumber {g : xG} (M : xM) (tx : Nat → Nat) (n a most : Nat) (hm : most ≤ 15) (hm9 : 9 ≤ most) (h : q_pm M tx n) (ha : M 193 8 = nI a) (hn : a ≤ n) : mi_X10_takeNumber g (nI most) M (fun r N => (q_nb tx n most a = none ∧ r = -1 ∧ N = M) ∨ ∃ v b, q_nb tx n most a = some (v, b) ∧ r = nI v ∧ N = x_up M 193 8 (nI b)) := by
  have h60 := h.2.1
  have pmu : ∀ b, q_pm (x_up M 193 8 (nI b)) tx n := fun b => q_pm_sc h (q_sc_up q_sc_rf (Or.inl rfl) _)
  -- a digit, seen as 'within'
  have dg : ∀ b, b ≤ n → (((48 : Int32) ≤ (if b < n then nI (tx b) else -1) ∧ (if b < n then nI (tx b) else -1) ≤ (57 : Int32)) ↔ ∃ d, q_dg tx n b = some d) := by
    intro b hb
    by_cases q : b < n
    · rw [if_pos q]
      have := h.2.2 b q
      rw [show (48 : Int32) = nI 48 from rfl, show (57 : Int32) = nI 57 from rfl, x_le (by omega) (by omega), x_le (by omega) (by omega)]
      unfold q_dg
      by_cases z : 48 ≤ tx b ∧ tx b ≤ 57
      · rw [if_pos ⟨q, z⟩]
        exact ⟨fun _ => ⟨_, rfl⟩, fun _ => z⟩
      · rw [if_neg (fun w => z w.2)]
        exact ⟨fun w => absurd w z, fun ⟨d, w⟩ => by cases w⟩
    · rw [if_neg q]
      unfold q_dg
      rw [if_neg (fun w => q w.1)]
      exact ⟨fun w => absurd w.1 (by decide), fun ⟨d, w⟩ => by cases w⟩
  have dgv : ∀ b d, q_dg tx n b = some d → b < n ∧ tx b = d + 48 ∧ d ≤ 9 := by
    intro b d hd
    unfold q_dg at hd
    split at hd
    · cases hd
      omega
    · cases hd
  refine wk_X10_takeNumber _ M _ (q_tnI tx n a most M) ?_ ?_
  · unfold vc_X10_takeNumber
    rw [ha]
    refine mo_X10_character (ok_X10_character M tx n a h (by omega)) ?_
    rintro r N ⟨rfl, rfl⟩
    refine mo_X10_within (ok_X10_within _ _ _ _) ?_
    rintro r N ⟨rfl, rfl⟩
    exact ⟨100, Or.inl ⟨rfl, rfl, rfl, x_b_iff (dg a hn), rfl⟩⟩
  · intro k v1 v2 v3 N hI
    -- what comes behind a new value
    have tail : ∀ (k0 v b f : Nat), v ≤ most → a < b → b ≤ n → n - b < k0 → n - b ≤ f → q_nb tx n most a = some (q_nm tx n most f v b) → ∀ val : Int32, val = nI v → ∀ N' : xM, N' = x_up M 193 8 (nI b) → ∀ K : Int32 → Int32 → Int32 → xM → Prop, (∀ w1 w2 w3 N, ((k = 100 ∧ False) ∨ ∃ v b f, v ≤ most ∧ a < b ∧ b ≤ n ∧ n - b < k0 ∧ n - b ≤ f ∧ w1 = nI most ∧ w2 = nI v ∧ w3 = x_b (v ≠ 0 ∧ ∃ d, q_dg tx n b = some d ∧ v * 10 + d ≤ most) ∧ N = x_up M 193 8 (nI b) ∧ q_nb tx n most a = some (q_nm tx n most f v b)) → K w1 w2 w3 N) → ((val ≤ 0 → K (nI most) val (0 : Int32) N') ∧ (¬ (val ≤ 0) → (mi_X10_character g (N' 193 8) N' (fun r7 N8 => (mi_X10_within g r7 (48 : Int32) (57 : Int32) N8 (fun r9 N10 => ((r9 = 0 → K (nI most) val (0 : Int32) N10) ∧ (¬ (r9 = 0) → (mi_X10_character g (N10 193 8) N10 (fun r11 N12 => ((nI most < ((((10 : Int32) * val) + r11) - (48 : Int32)) → K (nI most) val (0 : Int32) N12) ∧ (¬ (nI most < ((((10 : Int32) * val) + r11) - (48 : Int32))) → K (nI most) val (1 : Int32) N12)))))))))))) := by
      rintro k0 v b f hv hab hb hk hf e val rfl N' rfl K hK
      have e4 : x_up M 193 8 (nI b) 193 8 = nI b := x_gs
      have kk : ∀ w3, w3 = x_b (v ≠ 0 ∧ ∃ d, q_dg tx n b = some d ∧ v * 10 + d ≤ most) → K (nI most) (nI v) w3 (x_up M 193 8 (nI b)) := fun w3 hw => hK _ _ _ _ (Or.inr ⟨v, b, f, hv, hab, hb, hk, hf, rfl, rfl, hw, rfl, e⟩)
      rw [← nI_0, x_le (by omega) (by omega)]
      refine ⟨fun q => kk _ (x_b0 (fun w => w.1 (by omega))).symm, fun q => ?_⟩
      rw [e4]
      refine mo_X10_character (ok_X10_character _ tx n b (pmu b) (by omega)) ?_
      rintro r N ⟨rfl, rfl⟩
      refine mo_X10_within (ok_X10_within _ _ _ _) ?_
      rintro r N ⟨rfl, rfl⟩
      rw [x_b_iff (dg b hb), nI_0, e4]
      refine ⟨fun z => kk _ (x_b0 (fun w => x_b_eq.mp z ⟨_, w.2.choose_spec.1⟩)).symm, fun z => ?_⟩
      obtain ⟨d, hd⟩ := x_b_ne.mp z
      obtain ⟨d1, d2, d3⟩ := dgv b d hd
      refine mo_X10_character (ok_X10_character _ tx n b (pmu b) (by omega)) ?_
      rintro r N ⟨rfl, rfl⟩
      have ev : (10 : Int32) * nI v + (if b < n then nI (tx b) else -1) - (48 : Int32) = nI (v * 10 + d) := by
        rw [if_pos d1, d2]
        show nI 10 * nI v + nI (d + 48) - nI 48 = _
        rw [pk_mul, nI_add, pk_sub (by omega)]
        congr 1
        omega
      rw [ev, x_lt (by omega) (by omega)]
      refine ⟨fun w => kk _ (x_b0 ?_).symm, fun w => kk _ (x_b1 ⟨by omega, d, hd, by omega⟩).symm⟩
      rintro ⟨-, d', hd', hle⟩
      rw [hd] at hd'
      cases hd'
      omega
    unfold vc_X10_takeNumber_1
    rcases hI with ⟨rfl, rfl, rfl, rfl, rfl⟩ | ⟨v, b, f, hv, hab, hb, rfl, hf, rfl, rfl, rfl, rfl, e⟩
    · refine ⟨fun z => Or.inl ⟨?_, rfl, rfl⟩, fun z => ⟨fun q => absurd q (by decide), fun _ => ?_⟩⟩
      · have z := x_b_eq.mp z
        unfold q_nb
        cases hd : q_dg tx n a with
        | none => rfl
        | some d => exact absurd ⟨d, hd⟩ z
      · obtain ⟨d, hd⟩ := x_b_ne.mp z
        obtain ⟨d1, d2, d3⟩ := dgv a d hd
        rw [ha]
        refine mo_X10_character (ok_X10_character N tx n a h (by omega)) ?_
        rintro r N ⟨rfl, rfl⟩
        have ev : (0 : Int32) + (if a < n then nI (tx a) else -1) - (48 : Int32) = nI d := by
          rw [if_pos d1, d2, Int32.zero_add]
          show nI (d + 48) - nI 48 = _
          rw [pk_sub (by omega)]
          congr 1
        refine tail 100 d (a + 1) 60 (by omega) (by omega) (by omega) (by omega) (by omega) (by unfold q_nb; rw [hd]) _ ev (x_up N 193 8 (N 193 8 + 1)) (by rw [ha, nI_1]) (fun w1 w2 w3 N' => ∃ k', k' < 100 ∧ q_tnI tx n a most N k' w1 w2 w3 N') ?_
        rintro w1 w2 w3 N' (⟨-, hf⟩ | ⟨v, b, f, h1, h2, h3, h4, h5, h6⟩)
        · exact absurd hf id
        · exact ⟨n - b, by omega, Or.inr ⟨v, b, f, h1, h2, h3, rfl, h5, h6⟩⟩
    · have e4 : x_up M 193 8 (nI b) 193 8 = nI b := x_gs
      refine ⟨fun z => Or.inr ⟨v, b, ?_, rfl, rfl⟩, fun z => ⟨fun _ => ?_, fun q => absurd (nI_pos' (n := v) (by omega)) q⟩⟩
      · have z := x_b_eq.mp z
        rw [e]
        congr 1
        cases f with
        | zero => rfl
        | succ f =>
          unfold q_nm
          by_cases q : v = 0
          · rw [if_pos q]
          · rw [if_neg q]
            cases hd : q_dg tx n b with
            | none => rfl
            | some d =>
              simp only
              rw [if_neg (fun w => z ⟨q, d, hd, w⟩)]
      · obtain ⟨hv0, d, hd, hle⟩ := x_b_ne.mp z
        obtain ⟨d1, d2, d3⟩ := dgv b d hd
        obtain ⟨f, rfl⟩ : ∃ f', f = f' + 1 := ⟨f - 1, by omega⟩
        rw [e4]
        refine mo_X10_character (ok_X10_character _ tx n b (pmu b) (by omega)) ?_
        rintro r N ⟨rfl, rfl⟩
        have ev : (10 : Int32) * nI v + (if b < n then nI (tx b) else -1) - (48 : Int32) = nI (v * 10 + d) := by
          rw [if_pos d1, d2]
          show nI 10 * nI v + nI (d + 48) - nI 48 = _
          rw [pk_mul, nI_add, pk_sub (by omega)]
          congr 1
          omega
        have es : q_nm tx n most (f + 1) v b = q_nm tx n most f (v * 10 + d) (b + 1) := by
          rw [q_nm, if_neg hv0, hd]
          simp only
          rw [if_pos hle]
        refine tail (n - b) (v * 10 + d) (b + 1) f hle (by omega) (by omega) (by omega) (by omega) (by rw [e, es]) _ ev (x_up (x_up M 193 8 (nI b)) 193 8 (x_up M 193 8 (nI b) 193 8 + 1)) (by rw [e4, nI_1, x_up_up]) (fun w1 w2 w3 N' => ∃ k', k' < n - b ∧ q_tnI tx n a most M k' w1 w2 w3 N') ?_
        rintro w1 w2 w3 N' (⟨-, hf⟩ | ⟨v, b', f, h1, h2, h3, h4, h5, h6⟩)
        · exact absurd hf id
        · exact ⟨n - b', by omega, Or.inr ⟨v, b', f, h1, h2, h3, rfl, h5, h6⟩⟩
