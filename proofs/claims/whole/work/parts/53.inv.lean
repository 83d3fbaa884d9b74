/-! what holds between the calls -/
theorem WF_vd {K : Nat} {E E' : xM} (h : WF K E) (e : ∀ j k, j < 20 → q_vd j k → E' j k = E j k) : WF K E' := by
  have a0 : E' 1 0 = E 1 0 := e 1 0 (by decide) (by show 0 < 3; decide)
  have a1 : E' 1 1 = E 1 1 := e 1 1 (by decide) (by show 1 < 3; decide)
  have a2 : E' 6 0 = E 6 0 := e 6 0 (by decide) (by show 0 < 1; decide)
  have a3 : E' 11 0 = E 11 0 := e 11 0 (by decide) (by show 0 < 1; decide)
  have a4 : E' 15 0 = E 15 0 := e 15 0 (by decide) (by show 0 < 1; decide)
  have s1 : q_s E' = q_s E := by unfold q_s; rw [a0]
  have s2 : q_g E' = q_g E := by unfold q_g; rw [a2]
  have s3 : q_w E' = q_w E := by unfold q_w; rw [a3]
  have s4 : q_p E' = q_p E := by unfold q_p; rw [a4]
  unfold WF at *
  rw [s1, s2, s3, s4, a0, a1, a2, a3, a4]
  obtain ⟨h1, h2, h3, h4, h5, h6, h7⟩ := h
  refine ⟨h1, h2, h3, h4, h5, fun i hi => ?_, fun w hw => ?_⟩
  · rw [e 4 i (by decide) (by show i < 12; exact hi)]
    exact h6 i hi
  · have w20 : w < 20 := by omega
    rw [e 12 w (by decide) (by show w < 20; exact w20), e 13 w (by decide) (by show w < 20; exact w20), e 14 w (by decide) (by show w < 20; exact w20)]
    exact h7 w hw
theorem RE_vd {E E' : xM} {s : Nat → Int32} (h : RE E s) (hw20 : q_w E ≤ 20) (hp12 : q_p E ≤ 12) (e : ∀ j k, j < 20 → q_vd j k → E' j k = E j k) : RE E' s := by
  have a0 : E' 1 0 = E 1 0 := e 1 0 (by decide) (by show 0 < 3; decide)
  have a1 : E' 1 1 = E 1 1 := e 1 1 (by decide) (by show 1 < 3; decide)
  have a12 : E' 1 2 = E 1 2 := e 1 2 (by decide) (by show 2 < 3; decide)
  have a2 : E' 6 0 = E 6 0 := e 6 0 (by decide) (by show 0 < 1; decide)
  have a3 : E' 11 0 = E 11 0 := e 11 0 (by decide) (by show 0 < 1; decide)
  have a4 : E' 15 0 = E 15 0 := e 15 0 (by decide) (by show 0 < 1; decide)
  have a5 : E' 0 4 = E 0 4 := e 0 4 (by decide) (Or.inl rfl)
  have a6 : E' 0 5 = E 0 5 := e 0 5 (by decide) (Or.inr rfl)
  have s3 : q_w E' = q_w E := by unfold q_w; rw [a3]
  have s4 : q_p E' = q_p E := by unfold q_p; rw [a4]
  unfold RE at *
  rw [s3, s4, a0, a1, a12, a2, a3, a4, a5, a6]
  obtain ⟨h1, h2, h3, h4, h5⟩ := h
  refine ⟨h1, fun i hi => ?_, fun i hi => ?_, fun i hi => ?_, fun i hi => ?_⟩
  · rw [e 2 i (by decide) (by show i < 12; exact hi), e 3 i (by decide) (by show i < 12; exact hi), e 4 i (by decide) (by show i < 12; exact hi), e 5 i (by decide) (by show i < 12; exact hi)]
    exact h2 i hi
  · rw [e 7 i (by decide) (by show i < 16; exact hi), e 8 i (by decide) (by show i < 16; exact hi), e 9 i (by decide) (by show i < 16; exact hi), e 10 i (by decide) (by show i < 16; exact hi)]
    exact h3 i hi
  · have w20 : i < 20 := by omega
    rw [e 12 i (by decide) (by show i < 20; exact w20), e 13 i (by decide) (by show i < 20; exact w20), e 14 i (by decide) (by show i < 20; exact w20)]
    exact h4 i hi
  · have w12 : i < 12 := by omega
    rw [e 16 i (by decide) (by show i < 12; exact w12), e 17 i (by decide) (by show i < 12; exact w12), e 18 i (by decide) (by show i < 12; exact w12), e 19 i (by decide) (by show i < 12; exact w12)]
    exact h5 i hi
/-- the evening number e -/
def q_ev (M : xM) (e : Nat) : xM := fun j => M (20 * e + j)
def q_hi (K : Nat) (M : xM) (n p : Nat) : Prop := n ≤ 6 ∧ p < 6 ∧ M 181 1 = nI n ∧ M 181 2 = nI p ∧ M 193 3 = nI n ∧ ∀ i, i < n → WF K (q_ev M (1 + (p + 5 - i) % 6)) ∧ RE (q_ev M (1 + (p + 5 - i) % 6)) (fun k => M 196 (239 * (n - 1 - i) + k))
def q_sl (K : Nat) (M : xM) : Prop := ∀ s, s < 2 → (M 184 s = 0 ∨ M 184 s = 1) ∧ M 198 s = M 184 s ∧ (M 184 s = 1 → WF K (q_ev M (7 + s)) ∧ RE (q_ev M (7 + s)) (fun k => M 197 (239 * s + k)))
def q_pp (M : xM) : Prop := ∃ tx n, q_pd M tx n ∧ q_pm M tx n
def q_inv (K : Nat) (M : xM) : Prop := WF K M ∧ RE M (M 194) ∧ (∃ n p, q_hi K M n p) ∧ q_sl K M ∧ q_pp M
theorem q_hi_mono {K K' : Nat} {M : xM} {n p : Nat} (h : q_hi K M n p) (hk : K ≤ K') : q_hi K' M n p := by
  obtain ⟨h1, h2, h3, h4, h5, h6⟩ := h
  exact ⟨h1, h2, h3, h4, h5, fun i hi => ⟨WF_mono (h6 i hi).1 hk, (h6 i hi).2⟩⟩
theorem q_sl_mono {K K' : Nat} {M : xM} (h : q_sl K M) (hk : K ≤ K') : q_sl K' M := fun s hs => by
  obtain ⟨h1, h2, h3⟩ := h s hs
  exact ⟨h1, h2, fun q => ⟨WF_mono (h3 q).1 hk, (h3 q).2⟩⟩
theorem q_inv_mono {K K' : Nat} {M : xM} (h : q_inv K M) (hk : K ≤ K') : q_inv K' M := by
  obtain ⟨h1, h2, ⟨n, p, h3⟩, h4, h5⟩ := h
  exact ⟨WF_mono h1 hk, h2, ⟨n, p, q_hi_mono h3 hk⟩, q_sl_mono h4 hk, h5⟩
theorem q_hi_fr {K : Nat} {M N : xM} {n p : Nat} (h : q_hi K M n p) (e : ∀ a, 20 ≤ a → a < 140 → N a = M a) (e1 : N 181 = M 181) (e2 : N 193 3 = M 193 3) (e3 : N 196 = M 196) : q_hi K N n p := by
  obtain ⟨h1, h2, h3, h4, h5, h6⟩ := h
  refine ⟨h1, h2, by rw [e1]; exact h3, by rw [e1]; exact h4, by rw [e2]; exact h5, fun i hi => ?_⟩
  obtain ⟨w, r⟩ := h6 i hi
  have hm : (p + 5 - i) % 6 < 6 := Nat.mod_lt _ (by decide)
  have hp12 := (WF_p w).1
  have hw20 := (WF_w w).1
  have ee : ∀ j, j < 20 → q_ev N (1 + (p + 5 - i) % 6) j = q_ev M (1 + (p + 5 - i) % 6) j := fun j hj => e _ (by omega) (by omega)
  rw [e3]
  exact ⟨WF_rows w ee, RE_vd r hw20 hp12 (fun j k hj _ => by rw [ee j hj])⟩
theorem q_sl_fr {K : Nat} {M N : xM} (h : q_sl K M) (e : ∀ a, 140 ≤ a → a < 180 → N a = M a) (e1 : N 184 = M 184) (e2 : N 198 = M 198) (e3 : N 197 = M 197) : q_sl K N := fun s hs => by
  obtain ⟨h1, h2, h3⟩ := h s hs
  rw [e1, e2, e3]
  refine ⟨h1, h2, fun q => ?_⟩
  obtain ⟨w, r⟩ := h3 q
  have hp12 := (WF_p w).1
  have hw20 := (WF_w w).1
  have ee : ∀ j, j < 20 → q_ev N (7 + s) j = q_ev M (7 + s) j := fun j hj => e _ (by omega) (by omega)
  exact ⟨WF_rows w ee, RE_vd r hw20 hp12 (fun j k hj _ => by rw [ee j hj])⟩
theorem q_pp_fr {M N : xM} (h : q_pp M) (e1 : N 185 1 = M 185 1) (e2 : N 186 = M 186) (e3 : N 193 7 = M 193 7) (e4 : N 199 = M 199) : q_pp N := by
  obtain ⟨tx, n, h1, h2⟩ := h
  refine ⟨tx, n, ?_, ?_⟩
  · unfold q_pd at *
    rw [e1, e2]
    exact h1
  · unfold q_pm at *
    rw [e3, e4]
    exact h2
/-- only the rooms for reckoning have changed -/
theorem q_inv_look {K : Nat} {M N : xM} (h : q_inv K M) (hR : RE M (N 194)) (e : ∀ a, a < 187 → N a = M a) (e3 : N 193 3 = M 193 3) (e7 : N 193 7 = M 193 7) (f6 : N 196 = M 196) (f7 : N 197 = M 197) (f8 : N 198 = M 198) (f9 : N 199 = M 199) : q_inv K N := by
  obtain ⟨h1, h2, ⟨n, p, h3⟩, h4, h5⟩ := h
  have hp12 := (WF_p h1).1
  have hw20 := (WF_w h1).1
  refine ⟨WF_rows h1 (fun j hj => e j (by omega)), RE_vd hR hw20 hp12 (fun j k hj _ => by rw [e j (by omega)]), ⟨n, p, q_hi_fr h3 (fun a _ _ => e a (by omega)) (e 181 (by decide)) e3 f6⟩, q_sl_fr h4 (fun a _ _ => e a (by omega)) (e 184 (by decide)) f8 f7, q_pp_fr h5 (by rw [e 185 (by decide)]) (e 186 (by decide)) e7 f9⟩
/-- the class has kept the evening of M in its history -/
def q_KE (M N : xM) (n p : Nat) : Prop := N 181 1 = nI (if n < 6 then n + 1 else 6) ∧ N 181 2 = nI (if p = 5 then 0 else p + 1) ∧ (∀ j k, j < 20 → q_vd j k → N (20 * (1 + p) + j) k = M j k) ∧ ∀ a, a ≠ 181 → 20 ≤ a → a < 185 → ¬ (20 * (1 + p) ≤ a ∧ a < 20 * (1 + p) + 20) → N a = M a
/-- the reference has recorded the row of M -/
def q_RC (M N : xM) (n : Nat) : Prop := N 193 3 = nI (if n < 6 then n + 1 else 6) ∧ (∀ k, k < 239 → N 196 (239 * (if n < 6 then n else 5) + k) = M 194 k) ∧ ∀ i k, i < (if n < 6 then n else 5) → k < 239 → N 196 (239 * i + k) = M 196 (239 * (if n < 6 then i else i + 1) + k)
theorem q_hi_step {K : Nat} {M N : xM} {n p : Nat} (hM : WF K M) (hR : RE M (M 194)) (h : q_hi K M n p) (hk : q_KE M N n p) (hc : q_RC M N n) : q_hi K N (if n < 6 then n + 1 else 6) (if p = 5 then 0 else p + 1) := by
  obtain ⟨h1, h2, h3, h4, h5, h6⟩ := h
  obtain ⟨k1, k2, k3, k4⟩ := hk
  obtain ⟨c1, c2, c3⟩ := hc
  have hp12 := (WF_p hM).1
  have hw20 := (WF_w hM).1
  refine ⟨by split <;> omega, by split <;> omega, k1, k2, c1, fun i hi => ?_⟩
  cases i with
  | zero =>
    have e : ((if p = 5 then 0 else p + 1) + 5 - 0) % 6 = p := by split <;> omega
    have e2 : (if n < 6 then n + 1 else 6) - 1 - 0 = if n < 6 then n else 5 := by split <;> omega
    rw [e, e2]
    refine ⟨WF_vd hM (fun j k hj hv => k3 j k hj hv), RE_cong (s := M 194) (RE_vd hR hw20 hp12 (fun j k hj hv => k3 j k hj hv)) ?_ ?_ (fun k hk => c2 k hk)⟩
    · have := (WF_w (WF_vd (E' := q_ev N (1 + p)) hM (fun j k hj hv => k3 j k hj hv))).1
      exact this
    · exact (WF_p (WF_vd (E' := q_ev N (1 + p)) hM (fun j k hj hv => k3 j k hj hv))).1
  | succ i =>
    have hi5 : i < n ∧ i < 5 := by
      split at hi <;> omega
    have e : ((if p = 5 then 0 else p + 1) + 5 - (i + 1)) % 6 = (p + 5 - i) % 6 := by split <;> omega
    have ne : (p + 5 - i) % 6 ≠ p := by omega
    have hm : (p + 5 - i) % 6 < 6 := Nat.mod_lt _ (by decide)
    rw [e]
    obtain ⟨w, r⟩ := h6 i hi5.1
    generalize hq : (p + 5 - i) % 6 = q at *
    have ee : ∀ j, j < 20 → q_ev N (1 + q) j = q_ev M (1 + q) j := fun j hj => k4 _ (by omega) (by omega) (by omega) (by omega)
    have w' := WF_rows w ee
    refine ⟨w', RE_cong (RE_vd r (WF_w w).1 (WF_p w).1 (fun j k hj _ => by rw [ee j hj])) (WF_w w').1 (WF_p w').1 (fun k hk => ?_)⟩
    have e3 : (if n < 6 then n + 1 else 6) - 1 - (i + 1) < if n < 6 then n else 5 := by split <;> omega
    rw [c3 _ k e3 hk]
    congr 2
    split <;> omega
/-- how a call that may be undone answers: the class -/
def q_chC (K' : Nat) (M : xM) (n p : Nat) (er val : Int32) (F : xM) (r : Int32) (N : xM) : Prop := (er ≠ 0 → r = er ∧ N = M) ∧ (er = 0 → r = val ∧ WF K' N ∧ (∀ s, RE F s → RE N s) ∧ q_KE M N n p ∧ ∀ a, 185 ≤ a → N a = M a)
/-- and the reference -/
def q_chM (M : xM) (n : Nat) (er val : Int32) (F : xM) (r : Int32) (N : xM) : Prop := (er ≠ 0 → r = er ∧ N = M) ∧ (er = 0 → r = val ∧ RE F (N 194) ∧ q_RC M N n ∧ (∀ k, k ≠ 3 → N 193 k = M 193 k) ∧ ∀ a, a ≠ 193 → a ≠ 194 → a ≠ 196 → N a = M a)
theorem q_inv_ch {K K' : Nat} {M N N' : xM} {n p : Nat} {er val : Int32} {F : xM} {r r' : Int32} (h : q_inv K M) (hh : q_hi K M n p) (hk : K ≤ K') (hC : q_chC K' M n p er val F r N) (hM : q_chM N n er val F r' N') : r = r' ∧ q_inv K' N' := by
  obtain ⟨h1, h2, -, h4, h5⟩ := h
  by_cases q : er = 0
  · obtain ⟨rfl, w, re, ke, fr⟩ := hC.2 q
    obtain ⟨rfl, re', rc, f3, fr'⟩ := hM.2 q
    have lo : ∀ a, a < 193 → N' a = N a := fun a ha => fr' a (by omega) (by omega) (by omega)
    have w' : WF K' N' := WF_rows w (fun j hj => lo j (by omega))
    have ke' : q_KE M N' n p := by
      obtain ⟨k1, k2, k3, k4⟩ := ke
      refine ⟨by rw [lo 181 (by decide)]; exact k1, by rw [lo 181 (by decide)]; exact k2, fun j k hj hv => ?_, fun a a1 a2 a3 a4 => ?_⟩
      · have := hh.2.1
        rw [lo _ (by omega)]
        exact k3 j k hj hv
      · rw [lo a (by omega)]
        exact k4 a a1 a2 a3 a4
    have rc' : q_RC M N' n := by
      obtain ⟨c1, c2, c3⟩ := rc
      refine ⟨c1, fun k hk => by rw [c2 k hk, fr 194 (by decide)], fun i k hi hk => by rw [c3 i k hi hk, fr 196 (by decide)]⟩
    have sk := ke'.2.2.2
    have hp6 := hh.2.1
    refine ⟨rfl, w', ?_, ⟨_, _, q_hi_mono (q_hi_step h1 h2 hh ke' rc') hk⟩, ?_, ?_⟩
    · exact RE_vd (re _ re') (WF_w w).1 (WF_p w).1 (fun j k hj _ => by rw [lo j (by omega)])
    · refine q_sl_fr (q_sl_mono h4 hk) (fun a a1 a2 => sk a (by omega) (by omega) (by omega) (by omega)) (sk 184 (by decide) (by decide) (by decide) (by omega)) ?_ ?_
      · rw [fr' 198 (by decide) (by decide) (by decide), fr 198 (by decide)]
      · rw [fr' 197 (by decide) (by decide) (by decide), fr 197 (by decide)]
    · refine q_pp_fr h5 ?_ ?_ ?_ ?_
      · rw [fr' 185 (by decide) (by decide) (by decide), fr 185 (by decide)]
      · rw [fr' 186 (by decide) (by decide) (by decide), fr 186 (by decide)]
      · rw [f3 7 (by decide), fr 193 (by decide)]
      · rw [fr' 199 (by decide) (by decide) (by decide), fr 199 (by decide)]
  · obtain ⟨rfl, rfl⟩ := hC.1 q
    obtain ⟨rfl, rfl⟩ := hM.1 q
    exact ⟨rfl, q_inv_mono ⟨h1, h2, ⟨n, p, hh⟩, h4, h5⟩ hk⟩
