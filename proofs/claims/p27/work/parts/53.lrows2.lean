/-! the law's rows after each act -/
theorem q_sn_WF : ∀ (f c : Nat) (E : xM) (K : Nat), WF K E → K + f < 1000000 → WF (K + f) (q_sn f c E).2
  | 0, _, _, _, h, _ => h
  | f + 1, c, E, K, h, hk => by
    unfold q_sn
    cases q : q_next E with
    | none => exact WF_mono h (by omega)
    | some w =>
      have := q_sn_WF f (c + 1) (q_sg E w) (K + 1) (WF_sg h w (q_next_lt q) (by omega)) (by omega)
      rw [show K + (f + 1) = K + 1 + f by omega]
      exact this
theorem q_sg_ge (E : xM) (w : Nat) : ∀ a, 20 ≤ a → q_sg E w a = E a := fun a ha => by
  rw [q_sg_eq E w _ rfl]
  funext k
  simp only [q_rm, q_st, q_re, x_up]
  grind
theorem q_sn_ge : ∀ (f c : Nat) (E : xM) (a : Nat), 20 ≤ a → (q_sn f c E).2 a = E a
  | 0, _, _, _, _ => rfl
  | f + 1, c, E, a, ha => by
    unfold q_sn
    cases q : q_next E with
    | none => rfl
    | some w => exact (q_sn_ge f (c + 1) (q_sg E w) a ha).trans (q_sg_ge E w a ha)
theorem x_up_rows {E E' : xM} (e : ∀ j, j < 20 → E' j = E j) {a k : Nat} {v v' : Int32} (hv : v' = v) : ∀ j, j < 20 → x_up E' a k v' j = x_up E a k v j := fun j hj => by
  funext i
  simp only [x_up]
  rw [hv, e j hj]
theorem q_re_rows {E E' : xM} (e : ∀ j, j < 20 → E' j = E j) (f o s b : Int32) : ∀ j, j < 20 → q_re E' f o s b j = q_re E f o s b j := fun j hj => by
  funext k
  unfold q_re q_p
  rw [e 15 (by decide), e j hj]
theorem q_st_rows {E E' : xM} (e : ∀ j, j < 20 → E' j = E j) (x len : Int32) (n : Nat) : ∀ j, j < 20 → q_st E' x len n j = q_st E x len n j := fun j hj => by
  funext k
  unfold q_st
  rw [e 4 (by decide), e 5 (by decide), e j hj]
theorem q_rm_rows {E E' : xM} (e : ∀ j, j < 20 → E' j = E j) (w : Nat) : ∀ j, j < 20 → q_rm E' w j = q_rm E w j := fun j hj => by
  funext k
  unfold q_rm q_w
  rw [e 11 (by decide), e j hj]
theorem q_sg_rows {E E' : xM} (e : ∀ j, j < 20 → E' j = E j) (w : Nat) : ∀ j, j < 20 → q_sg E' w j = q_sg E w j := by
  have ss : q_ss E' w = q_ss E w := q_ss_cong (by rw [e 12 (by decide)]) (by rw [e 13 (by decide)])
  have es : q_s E' = q_s E := by
    unfold q_s
    rw [e 1 (by decide)]
  have r1 := q_re_rows e (E 12 w) (E 13 w) (E 14 w) (E 0 4)
  have r2 := q_st_rows r1 (q_ss E w) (E 9 (E 14 w).toNatClampNeg) (q_s E)
  have r3 := x_up_rows r2 (a := 1) (k := 2) (v := q_ss E w) rfl
  have r4 := x_up_rows r3 (a := 10) (k := (E 14 w).toNatClampNeg) (congrArg (fun z => z + 1) (congrFun (r3 10 (by decide)) (E 14 w).toNatClampNeg))
  have r5 := x_up_rows r4 (a := 0) (k := 4) (congrArg (fun z => z + E 9 (E 14 w).toNatClampNeg) (congrFun (r4 0 (by decide)) 4))
  have r6 := x_up_rows r5 (a := 0) (k := 5) (congrArg (fun z => z + 1) (congrFun (r4 0 (by decide)) 5))
  have r7 := q_rm_rows r6 w
  intro j hj
  unfold q_sg
  rw [ss, es, e 12 (by decide), e 13 (by decide), e 14 (by decide), e 0 (by decide), e 9 (by decide)]
  exact r7 j hj
theorem q_next_rows {E E' : xM} (e : ∀ j, j < 20 → E' j = E j) : q_next E' = q_next E := by
  unfold q_next
  rw [q_tf_row (e 12 (by decide)) (e 13 (by decide)), q_fr_row (e 12 (by decide)) (e 13 (by decide)), q_rd_rows e, q_w_rows e, e 4 (by decide), e 1 (by decide)]
theorem q_sn_rows : ∀ (f c : Nat) (E E' : xM), (∀ j, j < 20 → E' j = E j) → (q_sn f c E').1 = (q_sn f c E).1 ∧ ∀ j, j < 20 → (q_sn f c E').2 j = (q_sn f c E).2 j
  | 0, _, _, _, e => ⟨rfl, e⟩
  | f + 1, c, E, E', e => by
    unfold q_sn
    rw [q_next_rows e]
    cases q_next E with
    | none => exact ⟨rfl, e⟩
    | some w => exact q_sn_rows f (c + 1) _ _ (q_sg_rows e w)
theorem LI_mono {K K' : Nat} {M : xM} (h : LI K M) (hk : K ≤ K') : LI K' M := ⟨WF_mono h.1 hk, h.2⟩
theorem KP_hi {M N : xM} {n p : Nat} (hn : n ≤ 6) (hp : p < 6) (kp : q_KP M N n p) : ∃ n p, q_hi 0 N n p := ⟨_, _, by split <;> omega, by split <;> omega, kp.1, kp.2.1, trivial⟩
/-- the invariant out of its parts: E is what the class's rows say -/
theorem LI_mk {K : Nat} {N1 N E : xM} (hi : ∃ n p, q_hi 0 N1 n p) (e181 : N 181 = N1 181) (e : ∀ j, j < 20 → N j = E j) (wf : WF K E) (wb : WB E) (lr : LR E (N 193) (N 194) (N 195) (N 196)) (lq : LQ E (N 193) (N 197) (N 198)) : LI K N := by
  obtain ⟨n, p, hh⟩ := hi
  refine ⟨WF_rows wf e, WB_of wb (fun a k ha => by rw [e a (by omega)]), LR_rows lr e, LQ_rows lq e, n, p, ?_⟩
  unfold q_hi at *
  rw [e181]
  exact hh
theorem LQ_of {E E' : xM} {q pa be q' : Nat → Int32} (h : LQ E q pa be) (e7 : q' 7 = q 7) (e : ∀ a k, 15 ≤ a → a < 20 → E' a k = E a k) : LQ E' q' pa be := by
  have ep : q_p E' = q_p E := by
    unfold q_p
    rw [e 15 0 (by decide) (by decide)]
  refine ⟨by rw [e7, e 15 0 (by decide) (by decide)]; exact h.1, fun k hk => ?_⟩
  rw [ep] at hk
  rw [e 16 k (by decide) (by decide), e 17 k (by decide) (by decide), e 18 k (by decide) (by decide), e 19 k (by decide) (by decide)]
  exact h.2 k hk
-- a singer comes
theorem q_as_o {E : xM} {n : Nat} {lo hi : Int32} {a : Nat} (h1 : a ≠ 1) (h2 : a ≠ 2) (h3 : a ≠ 3) : q_as E n lo hi a = E a := by
  unfold q_as
  rw [x_up_other h1, x_up_other h1, x_up_other h3, x_up_other h2]
theorem LR_as {E : xM} {q si so wi q' si' : Nat → Int32} (h : LR E q si so wi) (n : Nat) (lo hi : Int32) (e0 : q' 0 = nI (n + 1)) (e3 : q' 3 = q 3 ||| ((1 : Int32) <<< (nI n &&& 31))) (eo : ∀ k, k ≠ 0 → k ≠ 3 → q' k = q k) (s0 : si' (4 * n) = lo) (s1 : si' (4 * n + 1) = hi) (s2 : ∀ k, k ≠ 4 * n → k ≠ 4 * n + 1 → si' k = si k) : LR (q_as E n lo hi) q' si' so wi := by
  obtain ⟨⟨a0, a1, a2, a3, a4, a5, a6⟩, hs, hg, hv⟩ := h
  refine ⟨⟨?_, ?_, ?_, ?_, ?_, ?_, ?_⟩, fun i hi2 => ?_, fun u hu => ?_, fun w hw => ?_⟩
  · rw [e0]; simp [q_as, x_up]
  · rw [eo 1 (by decide) (by decide), q_as_o (by decide) (by decide) (by decide)]; exact a1
  · rw [eo 2 (by decide) (by decide), q_as_o (by decide) (by decide) (by decide)]; exact a2
  · rw [e3, a3]; simp [q_as, x_up]
  · rw [eo 4 (by decide) (by decide), a4]; simp [q_as, x_up]
  · rw [eo 5 (by decide) (by decide), q_as_o (by decide) (by decide) (by decide)]; exact a5
  · rw [eo 6 (by decide) (by decide), q_as_o (by decide) (by decide) (by decide)]; exact a6
  · obtain ⟨b0, b1, b2, b3⟩ := hs i hi2
    rw [s2 (4 * i + 2) (by omega) (by omega), s2 (4 * i + 3) (by omega) (by omega), q_as_o (a := 4) (by decide) (by decide) (by decide), q_as_o (a := 5) (by decide) (by decide) (by decide), b2, b3]
    by_cases z : i = n
    · subst z
      rw [s0, s1]
      simp [q_as, x_up]
    · rw [s2 (4 * i) (by omega) (by omega), s2 (4 * i + 1) (by omega) (by omega), b0, b1]
      simp [q_as, x_up, z]
  · rw [q_as_o (a := 7) (by decide) (by decide) (by decide), q_as_o (a := 8) (by decide) (by decide) (by decide), q_as_o (a := 9) (by decide) (by decide) (by decide), q_as_o (a := 10) (by decide) (by decide) (by decide)]
    exact hg u hu
  · have ew : q_w (q_as E n lo hi) = q_w E := by
      unfold q_w
      rw [q_as_o (by decide) (by decide) (by decide)]
    rw [ew] at hw
    rw [q_as_o (a := 12) (by decide) (by decide) (by decide), q_as_o (a := 13) (by decide) (by decide) (by decide), q_as_o (a := 14) (by decide) (by decide) (by decide)]
    exact hv w hw
theorem WB_as {E : xM} (h : WB E) (n x y : Nat) (hx : x ≤ 60) (hy : y ≤ 60) : WB (q_as E n (nI x) (nI y)) := by
  refine ⟨fun i hi => ?_, fun u hu => ?_⟩
  · by_cases z : i = n
    · subst z
      exact ⟨x, y, hx, hy, by simp [q_as, x_up], by simp [q_as, x_up]⟩
    · obtain ⟨a, b, c⟩ := h.1 i hi
      exact ⟨a, b, by simpa [q_as, x_up, z] using c⟩
  · rw [q_as_o (a := 7) (by decide) (by decide) (by decide), q_as_o (a := 8) (by decide) (by decide) (by decide), q_as_o (a := 9) (by decide) (by decide) (by decide)]
    exact h.2 u hu
-- a song
theorem q_ag_o {E : xM} {n : Nat} {lo hi len : Int32} {a : Nat} (h1 : a ≠ 6) (h2 : a ≠ 7) (h3 : a ≠ 8) (h4 : a ≠ 9) : q_ag E n lo hi len a = E a := by
  unfold q_ag
  rw [x_up_other h1, x_up_other h4, x_up_other h3, x_up_other h2]
theorem LR_ag {E : xM} {q si so wi q' so' : Nat → Int32} (h : LR E q si so wi) (n : Nat) (lo hi len : Int32) (e1 : q' 1 = nI (n + 1)) (eo : ∀ k, k ≠ 1 → q' k = q k) (s0 : so' (4 * n) = lo) (s1 : so' (4 * n + 1) = hi) (s2 : so' (4 * n + 2) = len) (s3 : ∀ k, k ≠ 4 * n → k ≠ 4 * n + 1 → k ≠ 4 * n + 2 → so' k = so k) : LR (q_ag E n lo hi len) q' si so' wi := by
  obtain ⟨⟨a0, a1, a2, a3, a4, a5, a6⟩, hs, hg, hv⟩ := h
  refine ⟨⟨?_, ?_, ?_, ?_, ?_, ?_, ?_⟩, fun i hi2 => ?_, fun u hu => ?_, fun w hw => ?_⟩
  · rw [eo 0 (by decide), q_ag_o (by decide) (by decide) (by decide) (by decide)]; exact a0
  · rw [e1]; simp [q_ag, x_up]
  · rw [eo 2 (by decide), q_ag_o (by decide) (by decide) (by decide) (by decide)]; exact a2
  · rw [eo 3 (by decide), q_ag_o (by decide) (by decide) (by decide) (by decide)]; exact a3
  · rw [eo 4 (by decide), q_ag_o (by decide) (by decide) (by decide) (by decide)]; exact a4
  · rw [eo 5 (by decide), q_ag_o (by decide) (by decide) (by decide) (by decide)]; exact a5
  · rw [eo 6 (by decide), q_ag_o (by decide) (by decide) (by decide) (by decide)]; exact a6
  · rw [q_ag_o (a := 2) (by decide) (by decide) (by decide) (by decide), q_ag_o (a := 3) (by decide) (by decide) (by decide) (by decide), q_ag_o (a := 4) (by decide) (by decide) (by decide) (by decide), q_ag_o (a := 5) (by decide) (by decide) (by decide) (by decide)]
    exact hs i hi2
  · obtain ⟨b0, b1, b2, b3⟩ := hg u hu
    rw [s3 (4 * u + 3) (by omega) (by omega) (by omega), q_ag_o (a := 10) (by decide) (by decide) (by decide) (by decide), b3]
    by_cases z : u = n
    · subst z
      rw [s0, s1, s2]
      simp [q_ag, x_up]
    · rw [s3 (4 * u) (by omega) (by omega) (by omega), s3 (4 * u + 1) (by omega) (by omega) (by omega), s3 (4 * u + 2) (by omega) (by omega) (by omega), b0, b1, b2]
      simp [q_ag, x_up, z]
  · have ew : q_w (q_ag E n lo hi len) = q_w E := by
      unfold q_w
      rw [q_ag_o (by decide) (by decide) (by decide) (by decide)]
    rw [ew] at hw
    rw [q_ag_o (a := 12) (by decide) (by decide) (by decide) (by decide), q_ag_o (a := 13) (by decide) (by decide) (by decide) (by decide), q_ag_o (a := 14) (by decide) (by decide) (by decide) (by decide)]
    exact hv w hw
theorem WB_ag {E : xM} (h : WB E) (n x y l : Nat) (hx : x ≤ 60) (hy : y ≤ 60) (hl : l ≤ 9) : WB (q_ag E n (nI x) (nI y) (nI l)) := by
  refine ⟨fun i hi => ?_, fun u hu => ?_⟩
  · rw [q_ag_o (a := 2) (by decide) (by decide) (by decide) (by decide), q_ag_o (a := 3) (by decide) (by decide) (by decide) (by decide)]
    exact h.1 i hi
  · by_cases z : u = n
    · subst z
      exact ⟨x, y, l, hx, hy, hl, by simp [q_ag, x_up], by simp [q_ag, x_up], by simp [q_ag, x_up]⟩
    · obtain ⟨a, b, c, d⟩ := h.2 u hu
      exact ⟨a, b, c, by simpa [q_ag, x_up, z] using d⟩
-- a wish
theorem q_aw_o {E : xM} {n : Nat} {f o s : Int32} {a : Nat} (h1 : a ≠ 11) (h2 : a ≠ 12) (h3 : a ≠ 13) (h4 : a ≠ 14) : q_aw E n f o s a = E a := by
  unfold q_aw
  rw [x_up_other h1, x_up_other h4, x_up_other h3, x_up_other h2]
theorem LR_aw {E : xM} {q si so wi q' wi' : Nat → Int32} (h : LR E q si so wi) (n : Nat) (hn : q_w E = n) (hn2 : n < 20) (f o s v : Int32) (e2 : q' 2 = nI (n + 1)) (eo : ∀ k, k ≠ 2 → q' k = q k) (s0 : wi' n = v) (s1 : ∀ k, k ≠ n → wi' k = wi k) (hv2 : l_w v f o s) : LR (q_aw E n f o s) q' si so wi' := by
  obtain ⟨⟨a0, a1, a2, a3, a4, a5, a6⟩, hs, hg, hv⟩ := h
  refine ⟨⟨?_, ?_, ?_, ?_, ?_, ?_, ?_⟩, fun i hi2 => ?_, fun u hu => ?_, fun w hw => ?_⟩
  · rw [eo 0 (by decide), q_aw_o (by decide) (by decide) (by decide) (by decide)]; exact a0
  · rw [eo 1 (by decide), q_aw_o (by decide) (by decide) (by decide) (by decide)]; exact a1
  · rw [e2]; simp [q_aw, x_up]
  · rw [eo 3 (by decide), q_aw_o (by decide) (by decide) (by decide) (by decide)]; exact a3
  · rw [eo 4 (by decide), q_aw_o (by decide) (by decide) (by decide) (by decide)]; exact a4
  · rw [eo 5 (by decide), q_aw_o (by decide) (by decide) (by decide) (by decide)]; exact a5
  · rw [eo 6 (by decide), q_aw_o (by decide) (by decide) (by decide) (by decide)]; exact a6
  · rw [q_aw_o (a := 2) (by decide) (by decide) (by decide) (by decide), q_aw_o (a := 3) (by decide) (by decide) (by decide) (by decide), q_aw_o (a := 4) (by decide) (by decide) (by decide) (by decide), q_aw_o (a := 5) (by decide) (by decide) (by decide) (by decide)]
    exact hs i hi2
  · rw [q_aw_o (a := 7) (by decide) (by decide) (by decide) (by decide), q_aw_o (a := 8) (by decide) (by decide) (by decide) (by decide), q_aw_o (a := 9) (by decide) (by decide) (by decide) (by decide), q_aw_o (a := 10) (by decide) (by decide) (by decide) (by decide)]
    exact hg u hu
  · have ew : q_w (q_aw E n f o s) = n + 1 := by
      have : q_aw E n f o s 11 0 = nI (n + 1) := by simp [q_aw, x_up]
      unfold q_w
      rw [this, x_cl (by omega)]
    rw [ew] at hw
    by_cases z : w = n
    · subst z
      rw [s0]
      simpa [q_aw, x_up] using hv2
    · rw [s1 w z]
      have := hv w (by omega)
      simpa [q_aw, x_up, z] using this
theorem WB_aw {E : xM} (h : WB E) (n : Nat) (f o s : Int32) : WB (q_aw E n f o s) := WB_of h fun a k ha => by rw [q_aw_o (by omega) (by omega) (by omega) (by omega)]
-- who is there
theorem LR_th {E : xM} {q si so wi q' : Nat → Int32} (h : LR E q si so wi) (v : Int32) (e3 : q' 3 = v) (eo : ∀ k, k ≠ 3 → q' k = q k) : LR (x_up E 1 1 v) q' si so wi := by
  obtain ⟨⟨a0, a1, a2, a3, a4, a5, a6⟩, hs, hg, hv⟩ := h
  refine ⟨⟨?_, ?_, ?_, ?_, ?_, ?_, ?_⟩, fun i hi2 => ?_, fun u hu => ?_, fun w hw => ?_⟩
  · rw [eo 0 (by decide), u_ne (by decide)]; exact a0
  · rw [eo 1 (by decide), x_up_other (by decide)]; exact a1
  · rw [eo 2 (by decide), x_up_other (by decide)]; exact a2
  · rw [e3, u_at]
  · rw [eo 4 (by decide), u_ne (by decide)]; exact a4
  · rw [eo 5 (by decide), x_up_other (by decide)]; exact a5
  · rw [eo 6 (by decide), x_up_other (by decide)]; exact a6
  · rw [x_up_other (show (2 : Nat) ≠ 1 by decide), x_up_other (show (3 : Nat) ≠ 1 by decide), x_up_other (show (4 : Nat) ≠ 1 by decide), x_up_other (show (5 : Nat) ≠ 1 by decide)]
    exact hs i hi2
  · rw [x_up_other (show (7 : Nat) ≠ 1 by decide), x_up_other (show (8 : Nat) ≠ 1 by decide), x_up_other (show (9 : Nat) ≠ 1 by decide), x_up_other (show (10 : Nat) ≠ 1 by decide)]
    exact hg u hu
  · have ew : q_w (x_up E 1 1 v) = q_w E := by
      unfold q_w
      rw [x_up_other (by decide)]
    rw [ew] at hw
    rw [x_up_other (show (12 : Nat) ≠ 1 by decide), x_up_other (show (13 : Nat) ≠ 1 by decide), x_up_other (show (14 : Nat) ≠ 1 by decide)]
    exact hv w hw
theorem WB_th {E : xM} (h : WB E) (v : Int32) : WB (x_up E 1 1 v) := WB_of h fun a k ha => by rw [x_up_other (by omega)]
theorem l_xor {E : xM} {s : Nat} {hl : Bool} (hs : s < 32) (h : hl = bt (E 1 1) s) : E 1 1 ^^^ ((1 : Int32) <<< (nI s &&& 31)) = q_tl E s hl := b_ext fun i hi => by
  rw [b_xor, b_one hs hi, q_tl_bt hs hi]
  by_cases z : i = s
  · subst z
    rw [if_pos rfl, h]
    simp
  · rw [if_neg z]
    simp [z]
