/-! fault, put, wipe, read -/
theorem st_fault {g : xG} {K : Nat} {M : xM} (h : q_inv K M) : mi_X9_fault g M (fun r N => mi_X10_fault g N (fun r' N' => r = r' ∧ q_inv (K + 20) N')) := by
  obtain ⟨h1, h2, -, h4, ⟨tx, n, hpd, hpm⟩⟩ := id h
  refine wk_X9_fault M _ ?_
  unfold vc_X9_fault
  refine mo_X3_faultOn (ok_X3_faultOn M tx n hpd) ?_
  rintro r N ⟨rfl, -, -, ho⟩
  have k193 : N 193 = M 193 := ho 193 (by decide) (by decide) (by decide) (by decide)
  have k199 : N 199 = M 199 := ho 199 (by decide) (by decide) (by decide) (by decide)
  have hpm' : q_pm N tx n := by
    unfold q_pm at *
    rw [k193, k199]
    exact hpm
  refine wk_X10_fault N _ ?_
  unfold vc_X10_fault
  refine mo_X10_findFault (ok_X10_findFault N tx n hpm') ?_
  rintro r N' ⟨rfl, s1, s2⟩
  have fr : ∀ a, a ≠ 193 → a ≠ 187 → a ≠ 188 → a ≠ 189 → a ≠ 190 → N' a = M a := fun a a0 a1 a2 a3 a4 => by rw [s2 a a0, ho a a1 a2 a3 a4]
  refine ⟨rfl, q_inv_mono (q_inv_look h ?_ (fun a ha => fr a (by omega) (by omega) (by omega) (by omega) (by omega)) ?_ ?_ ?_ ?_ ?_ ?_) (by omega)⟩
  · rw [fr 194 (by decide) (by decide) (by decide) (by decide) (by decide)]
    exact h2
  · rw [s1 3 (by decide) (by decide) (by decide) (by decide), k193]
  · rw [s1 7 (by decide) (by decide) (by decide) (by decide), k193]
  · exact fr 196 (by decide) (by decide) (by decide) (by decide) (by decide)
  · exact fr 197 (by decide) (by decide) (by decide) (by decide) (by decide)
  · exact fr 198 (by decide) (by decide) (by decide) (by decide) (by decide)
  · exact fr 199 (by decide) (by decide) (by decide) (by decide) (by decide)
theorem st_wipe {g : xG} {K : Nat} {M : xM} (h : q_inv K M) : mi_X9_wipe g M (fun r N => mi_X10_wipe g N (fun r' N' => r = r' ∧ q_inv (K + 20) N')) := by
  obtain ⟨h1, h2, ⟨n', p, hh⟩, h4, ⟨tx, n, hpd, hpm⟩⟩ := id h
  refine wk_X9_wipe M _ ?_
  unfold vc_X9_wipe
  refine wk_X10_wipe _ _ ?_
  unfold vc_X10_wipe
  have fr : ∀ a, a ≠ 185 → a ≠ 193 → x_up (x_up M 185 1 0) 193 7 0 a = M a := fun a a1 a2 => by rw [x_up_other a2, x_up_other a1]
  refine ⟨by rw [x_up_other (by decide), hpd.1, hpm.1], ?_⟩
  have k3 : x_up (x_up M 185 1 0) 193 7 0 193 3 = M 193 3 := by rw [x_up_same, pk_un (by omega), x_up_other (by decide)]
  generalize hN : x_up (x_up M 185 1 0) 193 7 0 = N at *
  refine ⟨WF_mono (WF_rows h1 (fun j hj => fr j (by omega) (by omega))) (by omega), ?_, ⟨n', p, q_hi_fr (q_hi_mono hh (by omega)) (fun a _ _ => fr a (by omega) (by omega)) (fr 181 (by decide) (by decide)) k3 (fr 196 (by decide) (by decide))⟩, q_sl_fr (q_sl_mono h4 (by omega)) (fun a _ _ => fr a (by omega) (by omega)) (fr 184 (by decide) (by decide)) (fr 198 (by decide) (by decide)) (fr 197 (by decide) (by decide)), tx, 0, ⟨?_, by omega, fun k hk => absurd hk (by omega)⟩, ⟨?_, by omega, fun k hk => absurd hk (by omega)⟩⟩
  · rw [fr 194 (by decide) (by decide)]
    exact RE_vd h2 (WF_w h1).1 (WF_p h1).1 (fun j k hj _ => by rw [fr j (by omega) (by omega)])
  · rw [← hN, x_up_other (by decide), x_up_same, q_us]
    rfl
  · rw [← hN, x_up_same, q_us]
    rfl
theorem q_by_0 (u : Nat) : q_by u 0 = u % 256 := by
  unfold q_by
  simp
theorem q_by_s (u i : Nat) : q_by u (i + 1) = q_by (u / 256) i := by
  unfold q_by
  rw [Nat.div_div_eq_div_mul, show 8 * (i + 1) = 8 + 8 * i by omega, Nat.pow_add]
theorem q_ct_by : ∀ {f u c m : Nat}, q_ct f u c = some m → c ≤ m ∧ ∀ i, i < m - c → i < f → 33 ≤ q_by u i ∧ q_by u i ≤ 126
  | 0, u, c, m, h => by
    rw [q_ct] at h
    cases h
    exact ⟨by omega, fun i hi => absurd hi (by omega)⟩
  | f + 1, u, c, m, h => by
    rw [q_ct] at h
    by_cases q : u = 0
    · rw [if_pos q] at h
      cases h
      exact ⟨by omega, fun i hi => absurd hi (by omega)⟩
    · rw [if_neg q] at h
      by_cases q2 : 33 ≤ u % 256 ∧ u % 256 ≤ 126
      · rw [if_pos q2] at h
        obtain ⟨a, b⟩ := q_ct_by h
        refine ⟨by omega, fun i hi hf => ?_⟩
        cases i with
        | zero =>
          rw [q_by_0]
          exact q2
        | succ i =>
          rw [q_by_s]
          exact b i (by omega) (by omega)
      · rw [if_neg q2] at h
        cases h
theorem st_put {g : xG} (u : Nat) (hu : u < 2 ^ 64) {K : Nat} {M : xM} (h : q_inv K M) : mi_X9_put g (lN u) M (fun r N => mi_X10_put g (lN u) N (fun r' N' => r = r' ∧ q_inv (K + 20) N')) := by
  obtain ⟨h1, h2, ⟨n', p, hh⟩, h4, ⟨tx, n, hpd, hpm⟩⟩ := id h
  have hn60 := hpd.2.1
  refine wk_X9_put _ M _ ?_
  unfold vc_X9_put
  refine mo_X2_numberOf (ok_X2_numberOf u hu M) ?_
  rintro r M ⟨rfl, rfl⟩
  refine ⟨fun q => ?_, fun q => ?_⟩
  · cases hc : q_ct 8 u 0 with
    | none =>
      rw [hc] at q
      exact absurd rfl q
    | some m =>
      rw [hc] at q
      have hm8 : m ≤ 8 := by
        have := q_ct_le hc
        omega
      have hm0 : m ≠ 0 := fun z => q (by rw [z]; rfl)
      have e : q_cr (some m) = nI m := by
        show (if m = 0 then (-2 : Int32) else nI m) = nI m
        rw [if_neg hm0]
      rw [e, hpd.1, nI_add, show (60 : Int32) = nI 60 from rfl, x_le (by omega) (by omega)]
      refine ⟨fun q2 => ?_, fun q2 => ?_⟩
      · refine mo_X2_append (ok_X2_append u m hu hm8 n q2 M hpd.1) ?_
        rintro N ⟨k1, k2, k3, k4⟩
        have k193 : N 193 = M 193 := k4 193 (by decide) (by decide)
        refine mo_X10_put (ok_X10_put u n hu N (by rw [k193]; exact hpm.1) hn60) ?_
        rintro r N' ⟨-, pp⟩
        obtain ⟨rfl, p1, p2, p3, p4, p5⟩ := (pp m hc hm0).2 q2
        have fr : ∀ a, a ≠ 185 → a ≠ 186 → a ≠ 193 → a ≠ 199 → N' a = M a := fun a a1 a2 a3 a4 => by rw [p5 a a3 a4, k4 a a1 a2]
        refine ⟨k1, WF_mono (WF_rows h1 (fun j hj => fr j (by omega) (by omega) (by omega) (by omega))) (by omega), ?_, ⟨n', p, q_hi_fr (q_hi_mono hh (by omega)) (fun a _ _ => fr a (by omega) (by omega) (by omega) (by omega)) (fr 181 (by decide) (by decide) (by decide) (by decide)) (by rw [p4 3 (by decide), k193]) (fr 196 (by decide) (by decide) (by decide) (by decide))⟩, q_sl_fr (q_sl_mono h4 (by omega)) (fun a _ _ => fr a (by omega) (by omega) (by omega) (by omega)) (fr 184 (by decide) (by decide) (by decide) (by decide)) (fr 198 (by decide) (by decide) (by decide) (by decide)) (fr 197 (by decide) (by decide) (by decide) (by decide)), fun k => if k < n then tx k else q_by u (m - 1 - (k - n)), n + m, ⟨?_, q2, fun k hk => ?_⟩, ⟨p1, q2, fun k hk => ?_⟩⟩
        · rw [fr 194 (by decide) (by decide) (by decide) (by decide)]
          exact RE_vd h2 (WF_w h1).1 (WF_p h1).1 (fun j k hj _ => by rw [fr j (by omega) (by omega) (by omega) (by omega)])
        · rw [p5 185 (by decide) (by decide)]
          exact k1
        · rw [p5 186 (by decide) (by decide)]
          by_cases z : k < n
          · simp only [if_pos z]
            rw [k2 k z]
            exact hpd.2.2 k z
          · simp only [if_neg z]
            refine ⟨?_, (q_ct_by hc).2 _ (by omega) (by omega)⟩
            have := k3 (k - n) (by omega)
            rw [show n + (k - n) = k by omega] at this
            exact this
        · by_cases z : k < n
          · simp only [if_pos z]
            rw [p2 k z, k4 199 (by decide) (by decide)]
            exact hpm.2.2 k z
          · simp only [if_neg z]
            refine ⟨?_, (q_ct_by hc).2 _ (by omega) (by omega)⟩
            have := p3 (k - n) (by omega)
            rw [show n + (k - n) = k by omega] at this
            exact this
      · refine mo_X10_put (ok_X10_put u n hu M hpm.1 hn60) ?_
        rintro r N' ⟨-, pp⟩
        obtain ⟨rfl, rfl⟩ := (pp m hc hm0).1 (by omega)
        exact ⟨rfl, q_inv_mono h (by omega)⟩
  · refine mo_X10_put (ok_X10_put u n hu M hpm.1 hn60) ?_
    rintro r N' ⟨pp, -⟩
    obtain ⟨rfl, rfl⟩ := pp q
    exact ⟨rfl, q_inv_mono h (by omega)⟩
-- reading
noncomputable def q_el (E : xM) : List q_Wi → Nat → Int32
  | [], _ => 0
  | w :: L, a => q_if (q_ew E (nI w.1) (q_on w.2.1) (nI w.2.2) a = 0) (q_el E L (a + 1)) (q_ew E (nI w.1) (q_on w.2.1) (nI w.2.2) a)
def q_al : List q_Wi → xM → xM
  | [], E => E
  | w :: L, E => q_al L (q_aw E (q_w E) (nI w.1) (q_on w.2.1) (nI w.2.2))
theorem q_el_neg {E : xM} : ∀ {L : List q_Wi} {a : Nat}, 0 ≤ q_el E L a ↔ q_el E L a = 0
  | [], _ => by simp [q_el]
  | w :: L, a => by
    rw [q_el]
    by_cases q : q_ew E (nI w.1) (q_on w.2.1) (nI w.2.2) a = 0
    · rw [q_if1 q]
      exact q_el_neg
    · rw [q_if0 q]
      exact q_ew_neg
theorem q_ew_aw {E : xM} {n : Nat} {f o s v1 v2 v3 : Int32} {a : Nat} : q_ew (q_aw E n f o s) v1 v2 v3 a = q_ew E v1 v2 v3 a := by
  have e : ∀ j, j ≠ 11 → j ≠ 12 → j ≠ 13 → j ≠ 14 → q_aw E n f o s j = E j := fun j a b c d => by
    unfold q_aw
    rw [x_up_other a, x_up_other d, x_up_other c, x_up_other b]
  unfold q_ew q_en q_kt q_s q_g
  rw [e 1 (by decide) (by decide) (by decide) (by decide), e 6 (by decide) (by decide) (by decide) (by decide)]
  have ek : q_kf (q_kk (q_aw E n f o s) v1.toNatClampNeg (q_ov v2) v3.toNatClampNeg) 7 = q_kf (q_kk E v1.toNatClampNeg (q_ov v2) v3.toNatClampNeg) 7 := q_kf_cong (fun k => by
    unfold q_kk q_kp
    rw [e 2 (by decide) (by decide) (by decide) (by decide), e 3 (by decide) (by decide) (by decide) (by decide), e 7 (by decide) (by decide) (by decide) (by decide), e 8 (by decide) (by decide) (by decide) (by decide)]) 7
  rw [ek]
theorem q_el_aw {E : xM} {n : Nat} {f o s : Int32} : ∀ {L : List q_Wi} {a : Nat}, q_el (q_aw E n f o s) L a = q_el E L a
  | [], _ => rfl
  | w :: L, a => by rw [q_el, q_el, q_ew_aw, q_el_aw]
theorem q_w_aw {E : xM} {f o s : Int32} (h : q_w E < 4999) : q_w (q_aw E (q_w E) f o s) = q_w E + 1 := by
  show (q_aw E (q_w E) f o s 11 0).toNatClampNeg = _
  have : q_aw E (q_w E) f o s 11 0 = nI (q_w E + 1) := by
    unfold q_aw
    rw [x_up_same, q_us]
  rw [this, x_cl (by omega)]
theorem q_ma_el : ∀ (L : List q_Wi) (E : xM), (q_ma L E).1 = q_el E L (q_w E) ∧ (q_el E L (q_w E) = 0 → (q_ma L E).2 = q_al L E)
  | [], E => ⟨rfl, fun _ => rfl⟩
  | w :: L, E => by
    rw [q_ma, q_el, q_al]
    by_cases q : q_ew E (nI w.1) (q_on w.2.1) (nI w.2.2) (q_w E) = 0
    · rw [if_pos q, q_if1 q]
      have ih := q_ma_el L (q_aw E (q_w E) (nI w.1) (q_on w.2.1) (nI w.2.2))
      have hw := (q_ew_0 q).2.1
      rw [q_w_aw (by omega), q_el_aw] at ih
      exact ih
    · rw [if_neg q, q_if0 q]
      exact ⟨rfl, fun z => absurd z q⟩
theorem q_el_len {E : xM} : ∀ {L : List q_Wi} {a : Nat}, q_el E L a = 0 → a ≤ 20 → a + L.length ≤ 20
  | [], a, _, h => h
  | w :: L, a, h, ha => by
    rw [q_el] at h
    by_cases q : q_ew E (nI w.1) (q_on w.2.1) (nI w.2.2) a = 0
    · rw [q_if1 q] at h
      have := q_el_len h (by have := (q_ew_0 q).2.1; omega)
      rw [List.length_cons]
      omega
    · rw [q_if0 q] at h
      exact absurd h q
theorem RE_back {E : xM} {s : Nat → Int32} {f o u : Int32} (hn : q_w E < 20) (h : RE (q_aw E (q_w E) f o u) s) : RE E (upd s 2 (E 11 0)) := by
  have hw := q_w_aw (E := E) (f := f) (o := o) (s := u) (by omega)
  obtain ⟨⟨a0, a1, a2, a3, a4, a5, a6⟩, hs, hg, hv, hq⟩ := h
  rw [hw] at hv
  have e : ∀ j, j ≠ 11 → j ≠ 12 → j ≠ 13 → j ≠ 14 → q_aw E (q_w E) f o u j = E j := fun j a b c d => by
    unfold q_aw
    rw [x_up_other a, x_up_other d, x_up_other c, x_up_other b]
  have ep : q_p (q_aw E (q_w E) f o u) = q_p E := by
    unfold q_p
    rw [e 15 (by decide) (by decide) (by decide) (by decide)]
  have er : ∀ i, i < q_w E → q_aw E (q_w E) f o u 12 i = E 12 i ∧ q_aw E (q_w E) f o u 13 i = E 13 i ∧ q_aw E (q_w E) f o u 14 i = E 14 i := fun i hi => by
    have : i ≠ q_w E := by omega
    unfold q_aw
    simp only [x_up]
    simp [this]
  rw [ep] at hq
  rw [e 1 (by decide) (by decide) (by decide) (by decide)] at a0 a3 hs
  rw [e 6 (by decide) (by decide) (by decide) (by decide)] at a1
  rw [e 0 (by decide) (by decide) (by decide) (by decide)] at a4 a5
  rw [e 15 (by decide) (by decide) (by decide) (by decide)] at a6
  have un : ∀ k, k ≠ 2 → upd s 2 (E 11 0) k = s k := fun k hk => pk_un hk
  refine ⟨⟨by rw [un 0 (by decide)]; exact a0, by rw [un 1 (by decide)]; exact a1, q_us, by rw [un 3 (by decide)]; exact a3, by rw [un 4 (by decide)]; exact a4, by rw [un 5 (by decide)]; exact a5, by rw [un 6 (by decide)]; exact a6⟩, fun i hi => ?_, fun i hi => ?_, fun i hi => ?_, fun i hi => ?_⟩
  · have := hs i hi
    rw [e 2 (by decide) (by decide) (by decide) (by decide), e 3 (by decide) (by decide) (by decide) (by decide), e 4 (by decide) (by decide) (by decide) (by decide), e 5 (by decide) (by decide) (by decide) (by decide)] at this
    rw [un _ (by omega), un _ (by omega), un _ (by omega), un _ (by omega), un _ (by omega)]
    exact this
  · have := hg i hi
    rw [e 7 (by decide) (by decide) (by decide) (by decide), e 8 (by decide) (by decide) (by decide) (by decide), e 9 (by decide) (by decide) (by decide) (by decide), e 10 (by decide) (by decide) (by decide) (by decide)] at this
    rw [un _ (by omega), un _ (by omega), un _ (by omega), un _ (by omega)]
    exact this
  · have := hv i (by omega)
    obtain ⟨b1, b2, b3⟩ := er i hi
    rw [b1, b2, b3] at this
    rw [un _ (by omega), un _ (by omega), un _ (by omega)]
    exact this
  · have := hq i hi
    rw [e 16 (by decide) (by decide) (by decide) (by decide), e 17 (by decide) (by decide) (by decide) (by decide), e 18 (by decide) (by decide) (by decide) (by decide), e 19 (by decide) (by decide) (by decide) (by decide)] at this
    rw [un _ (by omega), un _ (by omega), un _ (by omega), un _ (by omega)]
    exact this
theorem q_upup {f : Nat → Int32} {k : Nat} {u v : Int32} : upd (upd f k u) k v = upd f k v := by
  funext j
  simp only [upd]
  split <;> rfl
theorem RE_self_up {E : xM} {s : Nat → Int32} (h : RE E s) : RE E (upd s 2 (E 11 0)) := by
  have : upd s 2 (E 11 0) = s := by
    funext j
    simp only [upd]
    split
    · rename_i hj
      rw [hj]
      exact h.1.2.2.1.symm
    · rfl
  rw [this]
  exact h
theorem RE_ma_back : ∀ (L : List q_Wi) (E : xM) (s : Nat → Int32), RE (q_ma L E).2 s → RE E (upd s 2 (E 11 0))
  | [], E, s, h => RE_self_up h
  | w :: L, E, s, h => by
    rw [q_ma] at h
    by_cases q : q_ew E (nI w.1) (q_on w.2.1) (nI w.2.2) (q_w E) = 0
    · rw [if_pos q] at h
      have ih := RE_ma_back L _ s h
      have := RE_back (q_ew_0 q).2.1 ih
      rw [show (q_aw E (q_w E) (nI w.1) (q_on w.2.1) (nI w.2.2)) 11 0 = nI (q_w E + 1) by unfold q_aw; rw [x_up_same, q_us], q_upup] at this
      exact this
    · rw [if_neg q] at h
      exact RE_self_up h
