/-! the reference: all wishes of the pad are made; characters are put -/
noncomputable def q_ma : List q_Wi → xM → Int32 × xM
  | [], E => (0, E)
  | w :: L, E => if q_ew E (nI w.1) (q_on w.2.1) (nI w.2.2) (q_w E) = 0 then q_ma L (q_aw E (q_w E) (nI w.1) (q_on w.2.1) (nI w.2.2)) else (q_ew E (nI w.1) (q_on w.2.1) (nI w.2.2) (q_w E), E)
def q_scw (M N : xM) : Prop := (∀ k, k ≠ 8 → k ≠ 9 → k ≠ 10 → k ≠ 11 → N 193 k = M 193 k) ∧ ∀ c, c ≠ 193 → c ≠ 194 → N c = M c
theorem q_scw_of {M N O : xM} (h1 : q_scw M N) (h2 : q_sc N O) : q_scw M O := ⟨fun k a b c d => by rw [h2.1 k a b c d, h1.1 k a b c d], fun c hc hd => by rw [h2.2 c hc, h1.2 c hc hd]⟩
theorem q_ew_0 {E : xM} {v1 v2 v3 : Int32} {a : Nat} (h : q_ew E v1 v2 v3 a = 0) : q_en E v1 v2 v3 = 0 ∧ a < 20 ∧ q_kt E v1.toNatClampNeg (q_ov v2) v3.toNatClampNeg ≠ -6 := by
  unfold q_ew at h
  by_cases q : q_en E v1 v2 v3 = 0
  · rw [q_if1 q] at h
    by_cases q2 : a < 20
    · rw [q_if1 q2] at h
      refine ⟨q, q2, fun z => ?_⟩
      rw [q_if1 z] at h
      exact absurd h (by decide)
    · rw [q_if0 q2] at h
      exact absurd h (by decide)
  · rw [q_if0 q] at h
    exact absurd h q
theorem q_pm_scw {M N : xM} {tx : Nat → Nat} {n : Nat} (h : q_pm M tx n) (hs : q_scw M N) : q_pm N tx n := by
  unfold q_pm at h ⊢
  rw [hs.1 7 (by decide) (by decide) (by decide) (by decide), hs.2 199 (by decide) (by decide)]
  exact h
theorem ok_X10_makeAll {g : xG} (E M : xM) (K : Nat) (tx : Nat → Nat) (n : Nat) (L : List q_Wi) (h : q_pm M tx n) (hE : WF K E) (hR : RE E (M 194)) (hL : q_pa tx n 15 0 = (none, L)) : mi_X10_makeAll g M (fun r N => r = (q_ma L E).1 ∧ RE (q_ma L E).2 (N 194) ∧ WF K (q_ma L E).2 ∧ q_scw M N) := by
  have h60 := h.2.1
  refine wk_X10_makeAll M _ (fun k v1 N => ∃ a E' L' f, a ≤ n ∧ k = 100 - a ∧ N 193 8 = nI a ∧ q_scw M N ∧ RE E' (N 194) ∧ WF K E' ∧ (v1 ≠ 0 → q_ma L E = (v1, E')) ∧ (v1 = 0 → q_ma L E = q_ma L' E' ∧ ((a = n ∧ L' = []) ∨ q_pa tx n f a = (none, L')))) ?_ ?_
  · unfold vc_X10_makeAll
    refine ⟨100, 0, E, L, 15, by omega, rfl, x_gs, ⟨fun k a b c d => by rw [x_gn a], fun c hc _ => x_up_other hc⟩, by rw [x_up_other (by decide)]; exact hR, hE, fun q => absurd rfl q, fun _ => ⟨rfl, Or.inr hL⟩⟩
  · rintro k v1 N ⟨a, E', L', f, han, rfl, h8, hsc, hR', hE', hn0, h0⟩
    unfold vc_X10_makeAll_1
    have hpm := q_pm_scw h hsc
    rw [hpm.1, h8, x_le (by omega) (by omega)]
    refine ⟨fun q => ?_, fun q => ⟨fun z => ?_, fun z => ?_⟩⟩
    · have : a = n := by omega
      subst this
      by_cases z : v1 = 0
      · obtain ⟨e, hl⟩ := h0 z
        have hl' : L' = [] := by
          rcases hl with ⟨-, hl⟩ | hl
          · exact hl
          · cases f with
            | zero => cases hl
            | succ f =>
              rw [q_pa, q_wi_end (Nat.le_refl _)] at hl
              cases hl
        subst hl'
        rw [e, z]
        exact ⟨rfl, hR', hE', hsc⟩
      · rw [hn0 z]
        exact ⟨rfl, hR', hE', hsc⟩
    · rw [hn0 z]
      exact ⟨rfl, hR', hE', hsc⟩
    · obtain ⟨e, hl⟩ := h0 z
      have hl := hl.resolve_left (fun w => by omega)
      obtain ⟨f, rfl⟩ : ∃ f', f = f' + 1 := by
        cases f with
        | zero => cases hl
        | succ f => exact ⟨f, rfl⟩
      refine mo_X10_readsWish (ok_X10_readsWish N tx n a hpm h8 han) ?_
      rintro r N2 (⟨p, hp, rfl, hpn, p8, psc⟩ | ⟨w, b, hw, hok, hab, hbn, rfl, b8, b9, b10, b11, bsc⟩)
      · rw [q_pa, hp] at hl
        cases hl
      · rw [q_pa, hw] at hl
        simp only at hl
        have sc2 := q_scw_of hsc bsc
        have pm2 := q_pm_scw h sc2
        have r194 : N2 194 = N 194 := bsc.2 194 (by decide)
        -- behind the sign, at the place a2, what is left is L2
        have rest : ∀ (a2 : Nat) (L2 : List q_Wi) (f2 : Nat) (N4 : xM), a < a2 → a2 ≤ n → L' = w :: L2 → ((a2 = n ∧ L2 = []) ∨ q_pa tx n f2 a2 = (none, L2)) → N4 193 8 = nI a2 → N4 193 9 = nI w.1 → N4 193 10 = q_on w.2.1 → N4 193 11 = nI w.2.2 → q_scw M N4 → N4 194 = N 194 → (mi_X10_whyNotWished g (N4 193 9) (N4 193 10) (N4 193 11) N4 (fun r5 N6 => ((¬ r5 = 0 → ∃ k, k < 100 - a ∧ ∃ a' E'' L'' f'', a' ≤ n ∧ k = 100 - a' ∧ N6 193 8 = nI a' ∧ q_scw M N6 ∧ RE E'' (N6 194) ∧ WF K E'' ∧ (r5 ≠ 0 → q_ma L E = (r5, E'')) ∧ (r5 = 0 → q_ma L E = q_ma L'' E'' ∧ ((a' = n ∧ L'' = []) ∨ q_pa tx n f'' a' = (none, L'')))) ∧ (r5 = 0 → (mi_X10_wished g (N6 193 9) (N6 193 10) (N6 193 11) N6 (fun r7 N8 => ∃ k, k < 100 - a ∧ ∃ a' E'' L'' f'', a' ≤ n ∧ k = 100 - a' ∧ N8 193 8 = nI a' ∧ q_scw M N8 ∧ RE E'' (N8 194) ∧ WF K E'' ∧ (r5 ≠ 0 → q_ma L E = (r5, E'')) ∧ (r5 = 0 → q_ma L E = q_ma L'' E'' ∧ ((a' = n ∧ L'' = []) ∨ q_pa tx n f'' a' = (none, L''))))))))) := by
          intro a2 L2 f2 N4 l1 l2 eL hl2 n8 n9 n10 n11 nsc n194
          have hR4 : RE E' (N4 194) := by rw [n194]; exact hR'
          refine mo_X10_whyNotWished (ok_X10_whyNotWished E' N4 K _ _ _ hE' hR4) ?_
          rintro r N4 ⟨rfl, rfl⟩
          rw [n9, n10, n11]
          have em : q_ma L' E' = if q_ew E' (nI w.1) (q_on w.2.1) (nI w.2.2) (q_w E') = 0 then q_ma L2 (q_aw E' (q_w E') (nI w.1) (q_on w.2.1) (nI w.2.2)) else (q_ew E' (nI w.1) (q_on w.2.1) (nI w.2.2) (q_w E'), E') := by
            rw [eL, q_ma]
          refine ⟨fun y => ?_, fun y => ?_⟩
          · rw [if_neg y] at em
            exact ⟨100 - a2, by omega, a2, E', L2, f2, l2, rfl, n8, nsc, hR4, hE', fun _ => by rw [e, em], fun y2 => absurd y2 y⟩
          · rw [if_pos y] at em
            obtain ⟨y1, y2, -⟩ := q_ew_0 y
            obtain ⟨c1, c2, c3, -⟩ := q_en_0 y1
            refine mo_X10_wished (ok_X10_wished E' N4 _ _ _ y2 (WF_w hE').2 hR4) ?_
            rintro r N8 ⟨rfl, hR8, ho8⟩
            have e193 : N8 193 = N4 193 := ho8 193 (by decide)
            refine ⟨100 - a2, by omega, a2, _, L2, f2, l2, rfl, by rw [e193]; exact n8, ⟨fun k a b c d => by rw [e193]; exact nsc.1 k a b c d, fun c hc hd => by rw [ho8 c hd]; exact nsc.2 c hc hd⟩, hR8, WF_aw hE' _ _ _ y2 c1 c2 c3, fun y3 => absurd y y3, fun _ => ⟨by rw [e, em], hl2⟩⟩
        refine mo_X10_isNext (ok_X10_isNext N2 tx n b 59 (by omega) pm2 b8 hbn) ?_
        rintro r N3 (⟨hc, rfl, rfl⟩ | ⟨hc, rfl, rfl⟩)
        · have hbn2 : ¬ b = n := by omega
          rw [if_neg hbn2, if_pos hc] at hl
          have hl1 := congrArg Prod.fst hl
          have hl2 := congrArg Prod.snd hl
          simp only at hl1 hl2
          refine rest (b + 1) (q_pa tx n f (b + 1)).2 f _ (by omega) (by omega) hl2.symm (Or.inr (by rw [← hl1])) x_gs ?_ ?_ ?_ (q_scw_of sc2 (q_sc_up q_sc_rf (by omega) _)) ?_
          · rw [x_gn (by decide), b9]
          · rw [x_gn (by decide), b10]
          · rw [x_gn (by decide), b11]
          · rw [x_up_other (by decide), r194]
        · by_cases hbn2 : b = n
          · rw [if_pos hbn2] at hl
            exact rest b [] 0 _ (by omega) hbn (congrArg Prod.snd hl).symm (Or.inl ⟨hbn2, rfl⟩) b8 b9 b10 b11 sc2 r194
          · rw [if_neg hbn2, if_neg hc] at hl
            cases hl
theorem q_ct_le : ∀ {f u m k : Nat}, q_ct f u m = some k → k ≤ m + f
  | 0, u, m, k, h => by cases h; omega
  | f + 1, u, m, k, h => by
    unfold q_ct at h
    split at h
    · cases h
      omega
    · split at h
      · have := q_ct_le h
        omega
      · cases h
def q_puP (M : xM) (u n : Nat) (r : Int32) (N : xM) : Prop := (q_cr (q_ct 8 u 0) = -2 → r = -2 ∧ N = M) ∧ ∀ m, q_ct 8 u 0 = some m → m ≠ 0 → (60 < n + m → r = -4 ∧ N = M) ∧ (n + m ≤ 60 → r = nI (n + m) ∧ N 193 7 = nI (n + m) ∧ (∀ k, k < n → N 199 k = M 199 k) ∧ (∀ i, i < m → N 199 (n + i) = nI (q_by u (m - 1 - i))) ∧ (∀ k, k ≠ 7 → N 193 k = M 193 k) ∧ ∀ c, c ≠ 193 → c ≠ 199 → N c = M c)
theorem x_nm2 {n : Nat} (h : n < 5000) : ¬ nI n = (-2 : Int32) := by
  intro q
  have h1 := congrArg Int32.toInt q
  rw [nI_toInt (by omega)] at h1
  have h2 : ((-2 : Int32)).toInt = -2 := by decide
  omega
theorem ok_X10_put {g : xG} (u n : Nat) (hu : u < 2 ^ 64) (M : xM) (h : M 193 7 = nI n) (hn : n ≤ 60) : mi_X10_put g (lN u) M (q_puP M u n) := by
  refine wk_X10_put _ M _ (fun k v1 v3 v4 v6 N => ∃ m w, m ≤ 8 ∧ w < 2 ^ 64 ∧ w < 2 ^ (64 - 8 * m) ∧ k = 100 - m ∧ v1 = lN u ∧ v3 = nI m ∧ v4 = lN w ∧ N = M ∧ ((v6 = 0 ∧ q_ct 8 u 0 = none) ∨ (v6 = 1 ∧ q_ct 8 u 0 = q_ct (8 - m) w m)))
    (fun k v1 v7 N => ∃ m r, q_ct 8 u 0 = some m ∧ m ≠ 0 ∧ n + m ≤ 60 ∧ r ≤ m ∧ m ≤ 8 ∧ k = r ∧ v1 = lN u ∧ v7 = nI r - 1 ∧ N 193 7 = nI (n + (m - r)) ∧ (∀ k, k < n → N 199 k = M 199 k) ∧ (∀ i, i < m - r → N 199 (n + i) = nI (q_by u (m - 1 - i))) ∧ (∀ k, k ≠ 7 → N 193 k = M 193 k) ∧ ∀ c, c ≠ 193 → c ≠ 199 → N c = M c) ?_ ?_ ?_
  · unfold vc_X10_put
    exact ⟨100, 0, u, by omega, hu, hu, rfl, rfl, rfl, rfl, rfl, Or.inr ⟨rfl, rfl⟩⟩
  · rintro k v1 v3 v4 v6 N ⟨m, w, hm, hw, hw2, rfl, rfl, rfl, rfl, rfl, hf⟩
    unfold vc_X10_put_1
    -- bad
    have bad : q_cr (q_ct 8 u 0) = -2 → q_puP N u n (-2 : Int32) N := fun q => ⟨fun _ => ⟨rfl, rfl⟩, fun m' h1 h2 => by
      rw [h1] at q
      have h8 := q_ct_le h1
      have q : (if m' = 0 then (-2 : Int32) else nI m') = -2 := q
      rw [if_neg h2] at q
      exact absurd q (x_nm2 (by omega))⟩
    have badN : q_ct 8 u 0 = none → q_puP N u n (-2 : Int32) N := fun q => bad (by rw [q]; rfl)
    -- the count's end: what is left is w
    have fin : (m = 8 ∨ w % 256 = 0) → ((nI m = 0 → q_puP N u n (-2 : Int32) N) ∧ (¬ (nI m = 0) → ((v6 = 0 → q_puP N u n (-2 : Int32) N) ∧ (¬ (v6 = 0) → (((lg_cmp (lN w) (0 : Int64)) = 0 → ((((N 193 7) + nI m) ≤ (60 : Int32) → ∃ k, k < 100 - m ∧ ∃ m' r, q_ct 8 u 0 = some m' ∧ m' ≠ 0 ∧ n + m' ≤ 60 ∧ r ≤ m' ∧ m' ≤ 8 ∧ k = r ∧ lN u = lN u ∧ nI m - 1 = nI r - 1 ∧ N 193 7 = nI (n + (m' - r)) ∧ (∀ k, k < n → N 199 k = N 199 k) ∧ (∀ i, i < m' - r → N 199 (n + i) = nI (q_by u (m' - 1 - i))) ∧ (∀ k, k ≠ 7 → N 193 k = N 193 k) ∧ ∀ c, c ≠ 193 → c ≠ 199 → N c = N c) ∧ (¬ (((N 193 7) + nI m) ≤ (60 : Int32)) → q_puP N u n (-4 : Int32) N))) ∧ (¬ ((lg_cmp (lN w) (0 : Int64)) = 0) → q_puP N u n (-2 : Int32) N)))))) := by
      intro hend
      have one : v6 ≠ 0 → q_ct 8 u 0 = q_ct (8 - m) w m := fun z => by
        rcases hf with ⟨z2, -⟩ | ⟨-, z2⟩
        · exact absurd z2 z
        · exact z2
      -- w not 0: bad
      have wn : v6 ≠ 0 → w ≠ 0 → q_ct 8 u 0 = none := by
        intro z hw0
        rw [one z]
        by_cases hm8 : m = 8
        · subst hm8
          have : w < 1 := hw2
          omega
        · have h256 : w % 256 = 0 := hend.resolve_left hm8
          obtain ⟨f, hf⟩ : ∃ f, 8 - m = f + 1 := ⟨8 - m - 1, by omega⟩
          rw [hf, q_ct, if_neg hw0, if_neg (by omega)]
      have w0 : w = 0 → q_ct (8 - m) w m = some m := by
        rintro rfl
        cases 8 - m with
        | zero => rfl
        | succ f => rw [q_ct, if_pos rfl]
      rw [x_eq0 (by omega), x_lc, x_l0 hw, h, nI_add, show (60 : Int32) = nI 60 from rfl, x_le (by omega) (by omega)]
      refine ⟨fun z => ?_, fun z => ⟨fun y => ?_, fun y => ⟨fun x => ⟨fun t => ?_, fun t => ?_⟩, fun x => badN (wn y x)⟩⟩⟩
      · by_cases y : v6 = 0
        · rcases hf with ⟨-, z2⟩ | ⟨z2, -⟩
          · exact badN z2
          · rw [z2] at y
            exact absurd y (by decide)
        · by_cases x : w = 0
          · refine bad ?_
            rw [one y, w0 x, z]
            rfl
          · exact badN (wn y x)
      · rcases hf with ⟨-, z2⟩ | ⟨z2, -⟩
        · exact badN z2
        · rw [z2] at y
          exact absurd y (by decide)
      · refine ⟨m, by omega, m, m, ?_, z, t, by omega, hm, rfl, rfl, rfl, ?_, fun _ _ => rfl, fun i hi => by omega, fun _ _ => rfl, fun _ _ _ => rfl⟩
        · rw [one y, w0 x]
        · simp
      · have eq : q_ct 8 u 0 = some m := by rw [one y, w0 x]
        refine ⟨fun q => ?_, fun m' h1 h2 => ?_⟩
        · rw [eq] at q
          have q : (if m = 0 then (-2 : Int32) else nI m) = -2 := q
          rw [if_neg z] at q
          exact absurd q (x_nm2 (by omega))
        · rw [eq] at h1
          cases h1
          exact ⟨fun _ => ⟨rfl, rfl⟩, fun q => absurd q (by omega)⟩
    have e255 : lN w &&& (255 : Int64) = lN (w % 256) := by rw [show (255 : Int64) = lN (2 ^ 8 - 1) from rfl, wb_mask hw (by omega)]
    have hw256 : w / 256 < 2 ^ 64 := Nat.lt_of_le_of_lt (Nat.div_le_self _ _) hw
    rw [show (8 : Int32) = nI 8 from rfl, x_le (by omega) (by omega)]
    refine ⟨fun q => fin (Or.inl (by omega)), fun q => ⟨fun q2 => ?_, fun q2 => ?_⟩⟩
    · rw [e255, x_lc, x_l0 (by omega)] at q2
      exact fin (Or.inr q2)
    · rw [e255, x_lc, x_l0 (by omega)] at q2
      have hs : w / 256 < 2 ^ (64 - 8 * (m + 1)) := by
        have e : 2 ^ (64 - 8 * m) = 2 ^ (64 - 8 * (m + 1)) * 256 := by
          rw [show (256 : Nat) = 2 ^ 8 from rfl, ← Nat.pow_add]
          congr 1
          omega
        rw [e] at hw2
        exact Nat.div_lt_of_lt_mul (by rw [Nat.mul_comm]; exact hw2)
      have nxt : ∀ v6' : Int32, ((v6' = 0 ∧ q_ct 8 u 0 = none) ∨ (v6' = 1 ∧ q_ct 8 u 0 = q_ct (8 - (m + 1)) (w / 256) (m + 1))) → ∀ y1 : Int64, y1 = ((lN w).toUInt64 >>> ((nI 8).toInt64.toUInt64 &&& Int64.toUInt64 63)).toInt64 → ∃ k, k < 100 - m ∧ ∃ m' w', m' ≤ 8 ∧ w' < 2 ^ 64 ∧ w' < 2 ^ (64 - 8 * m') ∧ k = 100 - m' ∧ lN u = lN u ∧ nI m + 1 = nI m' ∧ y1 = lN w' ∧ N = N ∧ ((v6' = 0 ∧ q_ct 8 u 0 = none) ∨ (v6' = 1 ∧ q_ct 8 u 0 = q_ct (8 - m') w' m')) := by
        intro v6' hv y1 hy
        rw [show (nI 8 : Int32) = 8 from rfl, x_shr8 hw] at hy
        exact ⟨100 - (m + 1), by omega, m + 1, w / 256, by omega, hw256, hs, rfl, rfl, nI_1 m, hy, rfl, hv⟩
      obtain ⟨f, hf8⟩ : ∃ f, 8 - m = f + 1 := ⟨8 - m - 1, by omega⟩
      have ef : 8 - (m + 1) = f := by omega
      have w0 : w ≠ 0 := by omega
      refine ⟨fun y => ?_, fun y => ?_⟩
      · rcases hf with ⟨-, z2⟩ | ⟨z2, -⟩
        · exact nxt 0 (Or.inl ⟨rfl, z2⟩)
        · rw [z2] at y
          exact absurd y (by decide)
      · have one : q_ct 8 u 0 = q_ct (8 - m) w m := by
          rcases hf with ⟨z2, -⟩ | ⟨-, z2⟩
          · exact absurd z2 y
          · exact z2
        rw [x_byte hw]
        refine mo_X10_within (ok_X10_within _ _ _ _) ?_
        rintro r N ⟨rfl, rfl⟩
        have eq : ((33 : Int32) ≤ nI (w % 256) ∧ nI (w % 256) ≤ (126 : Int32)) ↔ (33 ≤ w % 256 ∧ w % 256 ≤ 126) := by
          rw [show (33 : Int32) = nI 33 from rfl, show (126 : Int32) = nI 126 from rfl, x_le (by omega) (by omega), x_le (by omega) (by omega)]
        rw [x_b_iff eq]
        refine ⟨fun z => nxt 0 (Or.inl ⟨rfl, ?_⟩), fun z => nxt 1 (Or.inr ⟨rfl, ?_⟩)⟩
        · rw [one, hf8, q_ct, if_neg w0, if_neg (x_b_eq.mp z)]
        · rw [one, hf8, q_ct, if_neg w0, if_pos (x_b_ne.mp z), ef]
  · rintro k v1 v7 N ⟨m, r, hct, hm0, hnm, hr, hm8, rfl, rfl, rfl, h1, h2, h3, h4, h5⟩
    unfold vc_X10_put_2
    rw [x_pred0 (by omega)]
    refine ⟨fun q => ?_, fun q => ?_⟩
    · subst q
      refine ⟨fun z => ?_, fun m' e1 e2 => ?_⟩
      · rw [hct] at z
        have z : (if m = 0 then (-2 : Int32) else nI m) = -2 := z
        rw [if_neg hm0] at z
        exact absurd z (x_nm2 (by omega))
      · rw [hct] at e1
        cases e1
        exact ⟨fun z => absurd z (by omega), fun _ => ⟨by rw [h1]; rfl, h1, h2, h3, h4, h5⟩⟩
    · rw [h1, x_cl (by omega), x_pred (by omega)]
      refine ⟨x_vi (by omega) (by omega), ?_⟩
      intro N1 hN1
      have e8 : (8 : Int32) * nI (k - 1) = nI (8 * (k - 1)) := pk_mul 8 (k - 1)
      have hs : ∀ j, u / 2 ^ j < 2 ^ 64 := fun j => Nat.lt_of_le_of_lt (Nat.div_le_self _ _) hu
      rw [e8, wb_shr hu (by omega), x_byte (hs _)] at hN1
      subst hN1
      refine ⟨k - 1, by omega, m, k - 1, hct, hm0, hnm, by omega, hm8, rfl, rfl, ?_, ?_, ?_, ?_, ?_, ?_⟩
      · rw [Int32.sub_eq_add_neg]
      · rw [x_gs, x_up_other (by decide), h1, nI_1]
        congr 1
        omega
      · intro j hj
        rw [x_up_other (by decide), x_gn (by omega)]
        exact h2 j hj
      · intro i hi
        rw [x_up_other (by decide)]
        by_cases q2 : i = m - k
        · subst q2
          have e1 : m - 1 - (m - k) = k - 1 := by omega
          rw [x_gs, q_by, e1]
        · rw [x_gn (by omega)]
          exact h3 i (by omega)
      · intro j hj
        rw [x_gn hj, x_up_other (by decide)]
        exact h4 j hj
      · intro c c1 c2
        rw [x_up_other c1, x_up_other c2, h5 c c1 c2]
