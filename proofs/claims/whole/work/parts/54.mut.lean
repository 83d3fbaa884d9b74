/-! calls that may be undone: both sides -/
/-- the class has kept -/
def q_KP (M N : xM) (n p : Nat) : Prop := N 181 1 = nI (if n < 6 then n + 1 else 6) ∧ N 181 2 = nI (if p = 5 then 0 else p + 1) ∧ (∀ j k, j < 20 → q_vd j k → N (20 * (1 + p) + j) k = M j k) ∧ ∀ a, a ≠ 181 → ¬ (20 * (1 + p) ≤ a ∧ a < 20 * (1 + p) + 20) → N a = M a
theorem q_KP_lo {M N : xM} {n p : Nat} (hp : p < 6) (h : q_KP M N n p) : ∀ j, j < 20 → N j = M j := fun j hj => h.2.2.2 j (by omega) (by omega)
theorem q_KP_hi {M N : xM} {n p : Nat} (hp : p < 6) (h : q_KP M N n p) : ∀ a, 185 ≤ a → N a = M a := fun a ha => h.2.2.2 a (by omega) (by omega)
def q_cC (M : xM) (n p : Nat) (er : Int32) (val : xM → Int32) (F : xM → xM) (r : Int32) (N : xM) : Prop := (er ≠ 0 → r = er ∧ N = M) ∧ (er = 0 → ∃ N1, q_KP M N1 n p ∧ r = val N1 ∧ N = F N1)
theorem q_cC_e {M : xM} {n p : Nat} {er : Int32} {val : xM → Int32} {F : xM → xM} {r : Int32} {N : xM} (h : r = er) (h2 : N = M) (h3 : r ≠ 0) : q_cC M n p er val F r N := ⟨fun _ => ⟨h, h2⟩, fun q => absurd (h.trans q) h3⟩
theorem q_cC_g {M N1 : xM} {n p : Nat} {er : Int32} {val : xM → Int32} {F : xM → xM} {r : Int32} {N : xM} (h : er = 0) (h1 : q_KP M N1 n p) (h2 : r = val N1) (h3 : N = F N1) : q_cC M n p er val F r N := ⟨fun q => absurd h q, fun _ => ⟨N1, h1, h2, h3⟩⟩
theorem q_chM_e {M : xM} {n : Nat} {er val : Int32} {F : xM} {r : Int32} {N : xM} (h : r = er) (h2 : N = M) (h3 : r ≠ 0) : q_chM M n er val F r N := ⟨fun _ => ⟨h, h2⟩, fun q => absurd (h.trans q) h3⟩
/-- recorded, and then only the row of the evening changed -/
def q_RP (M N : xM) (n : Nat) : Prop := q_RC M N n ∧ (∀ k, k ≠ 3 → N 193 k = M 193 k) ∧ ∀ a, a ≠ 193 → a ≠ 194 → a ≠ 196 → N a = M a
theorem q_chM_g {M N1 : xM} {n : Nat} {er val : Int32} {F : xM} {r : Int32} {N : xM} (h : er = 0) (h1 : q_RP M N1 n) (h2 : r = val) (h3 : RE F (N 194)) (h4 : ∀ a, a ≠ 194 → N a = N1 a) : q_chM M n er val F r N := by
  obtain ⟨⟨c1, c2, c3⟩, f3, fr⟩ := h1
  refine ⟨fun q => absurd h q, fun _ => ⟨h2, h3, ⟨by rw [h4 193 (by decide)]; exact c1, fun k hk => by rw [h4 196 (by decide)]; exact c2 k hk, fun i k hi hk => by rw [h4 196 (by decide)]; exact c3 i k hi hk⟩, fun k hk => by rw [h4 193 (by decide)]; exact f3 k hk, fun a a1 a2 a3 => by rw [h4 a a2]; exact fr a a1 a2 a3⟩⟩
theorem rc_X10_record {g : xG} (M : xM) (n : Nat) (hn : n ≤ 6) (h : M 193 3 = nI n) : mi_X10_record g M (fun N => q_RP M N n ∧ N 194 = M 194) := by
  refine mo_X10_record (ok_X10_record M n hn h) ?_
  rintro N ⟨c1, c2, c3, c4, c5⟩
  exact ⟨⟨⟨c1, c2, c3⟩, c4, fun a a1 _ a3 => c5 a a1 a3⟩, c5 194 (by decide) (by decide)⟩
theorem q_step {K K' : Nat} {M : xM} {er : xM → Int32} {val : xM → Int32} {F : xM → xM} {miC : (Int32 → xM → Prop) → Prop} {miM : xM → (Int32 → xM → Prop) → Prop} (moC : ∀ P P2, miC P → (∀ r N, P r N → P2 r N) → miC P2) (moM : ∀ N P P2, miM N P → (∀ r N', P r N' → P2 r N') → miM N P2) (hk : K ≤ K') (h : q_inv K M) (hC : ∀ n p, q_hi K M n p → miC (q_cC M n p (er M) val F))
    (hcong : ∀ N1, (∀ j, j < 20 → N1 j = M j) → er N1 = er M) (hF : ∀ N1, WF K N1 → er N1 = 0 → (∀ a, 20 ≤ a → F N1 a = N1 a) ∧ WF K' (F N1)) (hMo : ∀ (E N : xM) (n : Nat), WF K E → RE E (N 194) → N 193 3 = nI n → n ≤ 6 → miM N (q_chM N n (er E) (val E) (F E))) : miC (fun r N => miM N (fun r' N' => r = r' ∧ q_inv K' N')) := by
  obtain ⟨h1, h2, ⟨n, p, hh⟩, h4, h5⟩ := id h
  have hn6 := hh.1
  have hp6 := hh.2.1
  refine moC _ _ (hC n p hh) ?_
  intro r N hc
  by_cases q : er M = 0
  · obtain ⟨N1, kp, hr, hN⟩ := hc.2 q
    have lo := q_KP_lo hp6 kp
    have w1 : WF K N1 := WF_rows h1 lo
    have e1 : er N1 = 0 := (hcong N1 lo).trans q
    obtain ⟨f1, f2⟩ := hF N1 w1 e1
    have hi := q_KP_hi hp6 kp
    have k193 : N 193 = M 193 := by rw [hN, f1 193 (by decide), hi 193 (by decide)]
    have k194 : N 194 = M 194 := by rw [hN, f1 194 (by decide), hi 194 (by decide)]
    have r1 : RE N1 (N 194) := by
      rw [k194]
      exact RE_vd h2 (WF_w h1).1 (WF_p h1).1 (fun j k hj _ => by rw [lo j hj])
    refine moM _ _ _ (hMo N1 N n w1 r1 (by rw [k193]; exact hh.2.2.2.2.1) hn6) ?_
    intro r' N' hm
    refine q_inv_ch h hh hk (er := 0) (val := val N1) (F := F N1) (N := N) ⟨fun z => absurd rfl z, fun _ => ⟨hr, by rw [hN]; exact f2, fun s hs => by rw [hN]; exact hs, ?_, fun a ha => by rw [hN, f1 a (by omega), hi a ha]⟩⟩ (by rw [e1] at hm; exact hm)
    rw [hN]
    obtain ⟨k1, k2, k3, k4⟩ := kp
    refine ⟨by rw [f1 181 (by decide)]; exact k1, by rw [f1 181 (by decide)]; exact k2, fun j k hj hv => by rw [f1 _ (by omega)]; exact k3 j k hj hv, fun a a1 a2 _ a4 => by rw [f1 a a2]; exact k4 a a1 a4⟩
  · obtain ⟨hr, hN⟩ := hc.1 q
    subst hN
    refine moM _ _ _ (hMo N N n h1 h2 hh.2.2.2.2.1 hn6) ?_
    intro r' N' hm
    exact q_inv_ch h hh hk (er := er N) (val := val N) (F := F N) ⟨fun _ => ⟨hr, rfl⟩, fun z => absurd z q⟩ hm
theorem x_up_ge {M : xM} {a k : Nat} {v : Int32} (h : a < 20) : ∀ b, 20 ≤ b → x_up M a k v b = M b := fun b hb => x_up_other (by omega)
-- a singer
noncomputable def q_esi (v1 v2 : Int32) (E : xM) : Int32 := q_if ((0 ≤ v1 ∧ v1 ≤ 60) ∧ v1 ≤ v2 ∧ v2 ≤ 60) (if q_s E = 12 then -4 else 0) (-2)
theorem ok_X9_singer {g : xG} (v1 v2 : Int32) (M : xM) (K n p : Nat) (h : WF K M) (hh : q_hi K M n p) : mi_X9_singer g v1 v2 M (q_cC M n p (q_esi v1 v2 M) (fun E => nI (q_s E)) (fun E => q_as E (q_s E) v1 v2)) := by
  have hs := WF_s h
  refine wk_X9_singer _ _ M _ ?_
  unfold vc_X9_singer
  refine mo_X9_isToneRange (ok_X9_isToneRange _ _ _) ?_
  rintro r M ⟨rfl, rfl⟩
  refine ⟨fun z => ?_, fun z => q_cC_e (by rw [q_esi, q_if0 (x_b_eq.mp z)]) rfl (by decide)⟩
  have z := x_b_ne.mp z
  rw [hs.2, show (12 : Int32) = nI 12 from rfl, x_lt (by omega) (by omega)]
  refine ⟨fun q => ?_, fun q => q_cC_e (by rw [q_esi, q_if1 z, if_pos (by omega)]) rfl (by decide)⟩
  refine mo_X1_keep (ok_X1_keep M n p hh.1 hh.2.1 hh.2.2.1 hh.2.2.2.1) ?_
  intro N1 kp
  have kp : q_KP M N1 n p := kp
  have w1 : WF K N1 := WF_rows h (q_KP_lo hh.2.1 kp)
  have es : q_s N1 = q_s M := by
    unfold q_s
    rw [q_KP_lo hh.2.1 kp 1 (by decide)]
  refine mo_X6_add (ok_X6_add _ _ N1 (q_s N1) (by omega) (WF_s w1).2) ?_
  rintro r N ⟨rfl, rfl⟩
  exact q_cC_g (by rw [q_esi, q_if1 z, if_neg (by omega)]) kp rfl rfl
theorem ok_X10_singer {g : xG} (v1 v2 : Int32) (E M : xM) (K n : Nat) (hE : WF K E) (h : RE E (M 194)) (h3 : M 193 3 = nI n) (hn : n ≤ 6) : mi_X10_singer g v1 v2 M (q_chM M n (q_esi v1 v2 E) (nI (q_s E)) (q_as E (q_s E) v1 v2)) := by
  have hs := WF_s hE
  have h0 := RE_0 hE h
  refine wk_X10_singer _ _ M _ ?_
  unfold vc_X10_singer
  rw [c_0]
  refine mo_X10_within (ok_X10_within _ _ _ _) ?_
  rintro r M ⟨rfl, rfl⟩
  refine ⟨fun z => q_chM_e (by rw [q_esi, q_if0 (fun w => x_b_eq.mp z w.1)]) rfl (by decide), fun z => ?_⟩
  have z := x_b_ne.mp z
  refine mo_X10_within (ok_X10_within _ _ _ _) ?_
  rintro r M ⟨rfl, rfl⟩
  refine ⟨fun z2 => ?_, fun z2 => q_chM_e (by rw [q_esi, q_if0 (fun w => x_b_eq.mp z2 w.2)]) rfl (by decide)⟩
  have z2 := x_b_ne.mp z2
  have v0 : vp_in (0 : Int32) 239 := v_k (n := 0) 239 (by omega) (by omega) rfl
  rw [h0, show (12 : Int32) = nI 12 from rfl, x_eq (by omega) (by omega)]
  refine ⟨v0, fun q => ?_, fun q => q_chM_e (by rw [q_esi, q_if1 ⟨z, z2⟩, if_pos q]) rfl (by decide)⟩
  have hs3 : q_s E < 12 := by omega
  refine mo_X10_record (rc_X10_record M n hn h3) ?_
  rintro N1 ⟨rp, e194⟩
  rw [e194, h0]
  refine ⟨v0, ?_⟩
  refine mo_X10_setSinger (ok_X10_setSinger (q_s E) 0 hs3 (by omega) _ _) ?_
  rintro N2 rfl
  refine mo_X10_setSinger (ok_X10_setSinger (q_s E) 1 hs3 (by omega) _ _) ?_
  rintro N3 rfl
  refine mo_X10_setSinger (ok_X10_setSinger (q_s E) 2 hs3 (by omega) _ _) ?_
  rintro N4 rfl
  refine ⟨v0, v0, q_chM_g (by rw [q_esi, q_if1 ⟨z, z2⟩, if_neg q]) rp rfl ?_ (fun a ha => by rw [x_up_other ha, x_up_other ha, x_up_other ha, x_up_other ha])⟩
  have r1 : RE E (N1 194) := by rw [e194]; exact h
  have r2 := RE_up_lo r1 (q_s E) hs3 v1
  have r3 := RE_up_hi r2 (q_s E) hs3 v2
  have r4 := RE_up_th r3 (q_s E) hs3 (E 1 1 ||| ((1 : Int32) <<< (nI (q_s E) &&& 31))) 1 (fun i hi hne => by
    rw [b_or, b_one (by omega) (by omega), x_up_other (by decide), x_up_other (by decide)]
    simp [hne]) (by
    rw [b_or, b_one (by omega) (by omega)]
    simp)
  have r5 := RE_up_ns r4 (nI (q_s E + 1))
  have e0 : x_up (x_up (x_up N1 194 (7 + 5 * q_s E + 0) v1) 194 (7 + 5 * q_s E + 1) v2) 194 (7 + 5 * q_s E + 2) 1 194 0 = nI (q_s E) := by
    rw [← h0, ← e194]
    simp only [x_up]
    rw [if_neg (by omega), if_neg (by omega), if_neg (by omega)]
  rw [e0, nI_1, x_up_same, x_up_same, x_up_same, x_up_same, show 7 + 5 * q_s E + 1 = 8 + 5 * q_s E by omega, show 7 + 5 * q_s E + 2 = 9 + 5 * q_s E by omega]
  exact r5
theorem st_singer {g : xG} (v1 v2 : Int32) {K : Nat} {M : xM} (h : q_inv K M) : mi_X9_singer g v1 v2 M (fun r N => mi_X10_singer g v1 v2 N (fun r' N' => r = r' ∧ q_inv (K + 20) N')) := by
  refine q_step (er := q_esi v1 v2) (miC := mi_X9_singer g v1 v2 M) (miM := mi_X10_singer g v1 v2) (fun _ _ a b => mo_X9_singer a b) (fun _ _ _ a b => mo_X10_singer a b) (by omega) h (fun n p hh => ok_X9_singer v1 v2 M K n p h.1 hh) (fun N1 lo => ?_) (fun N1 w e => ⟨fun a ha => ?_, ?_⟩) (fun E N n a b c d => ok_X10_singer v1 v2 E N K n a b c d)
  · unfold q_esi q_s
    rw [lo 1 (by decide)]
  · unfold q_as
    rw [x_up_ge (by decide) a ha, x_up_ge (by decide) a ha, x_up_ge (by decide) a ha, x_up_ge (by decide) a ha]
  · refine WF_mono (WF_as w v1 v2 ?_) (by omega)
    have := (WF_s w).1
    by_cases q : q_s N1 = 12
    · unfold q_esi at e
      by_cases q2 : (0 ≤ v1 ∧ v1 ≤ 60) ∧ v1 ≤ v2 ∧ v2 ≤ 60
      · rw [q_if1 q2, if_pos q] at e
        exact absurd e (by decide)
      · rw [q_if0 q2] at e
        exact absurd e (by decide)
    · omega
-- a song
noncomputable def q_eso (v1 v2 v3 : Int32) (E : xM) : Int32 := q_if (((0 ≤ v1 ∧ v1 ≤ 60) ∧ v1 ≤ v2 ∧ v2 ≤ 60) ∧ 1 ≤ v3 ∧ v3 ≤ 9) (if q_g E = 16 then -4 else 0) (-2)
theorem ok_X9_song {g : xG} (v1 v2 v3 : Int32) (M : xM) (K n p : Nat) (h : WF K M) (hh : q_hi K M n p) : mi_X9_song g v1 v2 v3 M (q_cC M n p (q_eso v1 v2 v3 M) (fun E => nI (q_g E)) (fun E => q_ag E (q_g E) v1 v2 v3)) := by
  have hs := WF_g h
  refine wk_X9_song _ _ _ M _ ?_
  unfold vc_X9_song
  refine mo_X9_isToneRange (ok_X9_isToneRange _ _ _) ?_
  rintro r M ⟨rfl, rfl⟩
  refine ⟨fun z => q_cC_e (by rw [q_eso, q_if0 (fun w => x_b_eq.mp z w.1)]) rfl (by decide), fun z => ?_⟩
  have z := x_b_ne.mp z
  refine mo_X9_isBetween (ok_X9_isBetween _ _ _ _) ?_
  rintro r M ⟨rfl, rfl⟩
  refine ⟨fun z2 => ?_, fun z2 => q_cC_e (by rw [q_eso, q_if0 (fun w => x_b_eq.mp z2 w.2)]) rfl (by decide)⟩
  have z2 := x_b_ne.mp z2
  rw [hs.2, show (16 : Int32) = nI 16 from rfl, x_lt (by omega) (by omega)]
  refine ⟨fun q => ?_, fun q => q_cC_e (by rw [q_eso, q_if1 ⟨z, z2⟩, if_pos (by omega)]) rfl (by decide)⟩
  refine mo_X1_keep (ok_X1_keep M n p hh.1 hh.2.1 hh.2.2.1 hh.2.2.2.1) ?_
  intro N1 kp
  have kp : q_KP M N1 n p := kp
  have w1 : WF K N1 := WF_rows h (q_KP_lo hh.2.1 kp)
  have es : q_g N1 = q_g M := by
    unfold q_g
    rw [q_KP_lo hh.2.1 kp 6 (by decide)]
  refine mo_X7_add (ok_X7_add _ _ _ N1 (q_g N1) (by omega) (WF_g w1).2) ?_
  rintro r N ⟨rfl, rfl⟩
  exact q_cC_g (by rw [q_eso, q_if1 ⟨z, z2⟩, if_neg (by omega)]) kp rfl rfl
theorem ok_X10_song {g : xG} (v1 v2 v3 : Int32) (E M : xM) (K n : Nat) (hE : WF K E) (h : RE E (M 194)) (h3 : M 193 3 = nI n) (hn : n ≤ 6) : mi_X10_song g v1 v2 v3 M (q_chM M n (q_eso v1 v2 v3 E) (nI (q_g E)) (q_ag E (q_g E) v1 v2 v3)) := by
  have hs := WF_g hE
  have h1 := RE_1 hE h
  refine wk_X10_song _ _ _ M _ ?_
  unfold vc_X10_song
  rw [c_1]
  refine mo_X10_within (ok_X10_within _ _ _ _) ?_
  rintro r M ⟨rfl, rfl⟩
  refine ⟨fun z => q_chM_e (by rw [q_eso, q_if0 (fun w => x_b_eq.mp z w.1.1)]) rfl (by decide), fun z => ?_⟩
  have z := x_b_ne.mp z
  refine mo_X10_within (ok_X10_within _ _ _ _) ?_
  rintro r M ⟨rfl, rfl⟩
  refine ⟨fun z2 => q_chM_e (by rw [q_eso, q_if0 (fun w => x_b_eq.mp z2 w.1.2)]) rfl (by decide), fun z2 => ?_⟩
  have z2 := x_b_ne.mp z2
  refine mo_X10_within (ok_X10_within _ _ _ _) ?_
  rintro r M ⟨rfl, rfl⟩
  refine ⟨fun z3 => ?_, fun z3 => q_chM_e (by rw [q_eso, q_if0 (fun w => x_b_eq.mp z3 w.2)]) rfl (by decide)⟩
  have z3 := x_b_ne.mp z3
  have v0 : vp_in (1 : Int32) 239 := v_k (n := 1) 239 (by omega) (by omega) rfl
  rw [h1, show (16 : Int32) = nI 16 from rfl, x_eq (by omega) (by omega)]
  refine ⟨v0, fun q => ?_, fun q => q_chM_e (by rw [q_eso, q_if1 ⟨⟨z, z2⟩, z3⟩, if_pos q]) rfl (by decide)⟩
  have hs3 : q_g E < 16 := by omega
  refine mo_X10_record (rc_X10_record M n hn h3) ?_
  rintro N1 ⟨rp, e194⟩
  have i0 : ((67 : Int32) + (4 : Int32) * nI (q_g E)) + (0 : Int32) = nI (67 + 4 * q_g E + 0) := ix_g _ 0
  have i1 : ((67 : Int32) + (4 : Int32) * nI (q_g E)) + (1 : Int32) = nI (67 + 4 * q_g E + 1) := ix_g _ 1
  have i2 : ((67 : Int32) + (4 : Int32) * nI (q_g E)) + (2 : Int32) = nI (67 + 4 * q_g E + 2) := ix_g _ 2
  rw [e194, h1, i0, i1, i2, x_cl (by omega), x_cl (by omega), x_cl (by omega)]
  refine ⟨v0, x_vi (by omega) (by omega), x_vi (by omega) (by omega), ?_⟩
  rintro N2 rfl
  refine ⟨x_vi (by omega) (by omega), v0, v0, ?_⟩
  rintro N3 rfl
  refine q_chM_g (by rw [q_eso, q_if1 ⟨⟨z, z2⟩, z3⟩, if_neg q]) rp rfl ?_ (fun a ha => by rw [x_up_other ha, x_up_other ha, x_up_other ha, x_up_other ha])
  have r1 : RE E (N1 194) := by rw [e194]; exact h
  have r2 := RE_up_gl r1 (q_g E) hs3 v1
  have r3 := RE_up_gh r2 (q_g E) hs3 v2
  have r4 := RE_up_gn r3 (q_g E) hs3 v3
  have r5 := RE_up_ng r4 (nI (q_g E + 1))
  have e0 : x_up (x_up (x_up N1 194 (67 + 4 * q_g E + 0) v1) 194 (67 + 4 * q_g E + 1) v2) 194 (67 + 4 * q_g E + 2) v3 194 1 = nI (q_g E) := by
    rw [← h1, ← e194]
    simp only [x_up]
    rw [if_neg (by omega), if_neg (by omega), if_neg (by omega)]
  rw [e0, nI_1, x_up_same, x_up_same, x_up_same, x_up_same, show 67 + 4 * q_g E + 1 = 68 + 4 * q_g E by omega, show 67 + 4 * q_g E + 2 = 69 + 4 * q_g E by omega]
  exact r5
theorem st_song {g : xG} (v1 v2 v3 : Int32) {K : Nat} {M : xM} (h : q_inv K M) : mi_X9_song g v1 v2 v3 M (fun r N => mi_X10_song g v1 v2 v3 N (fun r' N' => r = r' ∧ q_inv (K + 20) N')) := by
  refine q_step (er := q_eso v1 v2 v3) (miC := mi_X9_song g v1 v2 v3 M) (miM := mi_X10_song g v1 v2 v3) (fun _ _ a b => mo_X9_song a b) (fun _ _ _ a b => mo_X10_song a b) (by omega) h (fun n p hh => ok_X9_song v1 v2 v3 M K n p h.1 hh) (fun N1 lo => ?_) (fun N1 w e => ⟨fun a ha => ?_, ?_⟩) (fun E N n a b c d => ok_X10_song v1 v2 v3 E N K n a b c d)
  · unfold q_eso q_g
    rw [lo 6 (by decide)]
  · unfold q_ag
    rw [x_up_ge (by decide) a ha, x_up_ge (by decide) a ha, x_up_ge (by decide) a ha, x_up_ge (by decide) a ha]
  · refine WF_mono (WF_ag w v1 v2 v3 ?_) (by omega)
    have := (WF_g w).1
    by_cases q : q_g N1 = 16
    · unfold q_eso at e
      by_cases q2 : ((0 ≤ v1 ∧ v1 ≤ 60) ∧ v1 ≤ v2 ∧ v2 ≤ 60) ∧ 1 ≤ v3 ∧ v3 ≤ 9
      · rw [q_if1 q2, if_pos q] at e
        exact absurd e (by decide)
      · rw [q_if0 q2] at e
        exact absurd e (by decide)
    · omega
