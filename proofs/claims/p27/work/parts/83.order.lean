/-! the world in the order of its numbers -/
theorem y_ofn {c : ClassId} {n : Nat} {f f' : Nat → Option Nat} (h : ∀ j, j < n → f j = f' j) : vp_cell c (n, .inr (.inr (.inr (.inr f)))) = vp_cell c (n, .inr (.inr (.inr (.inr f')))) := by
  show arrV c n (fun j => va_rf (f j)) = arrV c n (fun j => va_rf (f' j))
  unfold arrV
  congr 1
  congr 1
  funext j
  show va_rf (f j.val) = va_rf (f' j.val)
  rw [h j.val j.isLt]
theorem y_atC {D : va_G} {cl : List vw_C} {H : Heap} {q : Nat} {c : ClassId} {n : Nat} {f f' : Nat → Option Nat} (h : ∀ j, j < n → f j = f' j) (hP : va_at D cl (q, .inl (c, n, .inr (.inr (.inr (.inr f))))) H) : va_at D cl (q, .inl (c, n, .inr (.inr (.inr (.inr f'))))) H := by
  have a : H[q]? = some (vp_cell c (n, .inr (.inr (.inr (.inr f))))) := hP
  show H[q]? = some (vp_cell c (n, .inr (.inr (.inr (.inr f')))))
  rw [a, y_ofn h]
theorem y_Pm {D : va_G} {cl : List vw_C} {w : va_W} {H : Heap} : va_P D cl w H ↔ ∀ q ∈ w, va_at D cl q H :=
  ⟨fun h q hq => by obtain ⟨k, hk⟩ := List.getElem?_of_mem hq; exact h k q hk, fun h k q hk => h q (List.mem_of_getElem? hk)⟩
theorem y_Dm {A : Nat → Prop} {w : va_W} : va_D A w ↔ (w.map Prod.fst).Pairwise (fun a b => a ≠ b) ∧ ∀ a ∈ w.map Prod.fst, A a := by
  constructor
  · intro h
    refine ⟨?_, fun a ha => ?_⟩
    · rw [List.pairwise_map, List.pairwise_iff_getElem]
      intro i j hi hj hij he
      have := h.1 i j _ _ (List.getElem?_eq_getElem hi) (List.getElem?_eq_getElem hj) he
      omega
    · obtain ⟨q, hq, rfl⟩ := List.mem_map.mp ha
      obtain ⟨k, hk⟩ := List.getElem?_of_mem hq
      exact h.2 k q hk
  · rintro ⟨h1, h2⟩
    rw [List.pairwise_map, List.pairwise_iff_getElem] at h1
    refine ⟨fun i j p q hp hq e => ?_, fun k q hk => h2 _ (List.mem_map.mpr ⟨q, List.mem_of_getElem? hk, rfl⟩)⟩
    obtain ⟨hi, rfl⟩ := List.getElem?_eq_some_iff.mp hp
    obtain ⟨hj, rfl⟩ := List.getElem?_eq_some_iff.mp hq
    rcases Nat.lt_trichotomy i j with c | c | c
    · exact absurd e (h1 i j hi hj c)
    · exact c
    · exact absurd e.symm (h1 j i hj hi c)
theorem y_perm {α : Type} {h H1 H2 S : α} {E A0 A1 A2 A3 A4 A5 T0 T1 R1 R2 R3 R4 U : List α} : List.Perm ((h :: ((((((((E ++ (H1 :: H2 :: (((((([] ++ A0) ++ A1) ++ A2) ++ A3) ++ A4) ++ A5))) ++ [S]) ++ T0) ++ T1) ++ R1) ++ R2) ++ R3) ++ R4)) ++ U) (E ++ (A0 ++ (A1 ++ (A2 ++ (A3 ++ (A4 ++ (A5 ++ (T0 ++ (T1 ++ (h :: H1 :: H2 :: S :: (R1 ++ (R2 ++ (R3 ++ (R4 ++ U)))))))))))))) := by
  classical
  rw [List.perm_iff_count]
  intro x
  simp only [List.count_append, List.count_cons, List.count_nil]
  omega
theorem y_perP {α : Type} {P : α → Prop} {h H1 H2 S : α} {E A0 A1 A2 A3 A4 A5 T0 T1 R1 R2 R3 R4 U : List α} (H : ∀ q ∈ ((h :: ((((((((E ++ (H1 :: H2 :: (((((([] ++ A0) ++ A1) ++ A2) ++ A3) ++ A4) ++ A5))) ++ [S]) ++ T0) ++ T1) ++ R1) ++ R2) ++ R3) ++ R4)) ++ U), P q) : ∀ q ∈ (E ++ (A0 ++ (A1 ++ (A2 ++ (A3 ++ (A4 ++ (A5 ++ (T0 ++ (T1 ++ (h :: H1 :: H2 :: S :: (R1 ++ (R2 ++ (R3 ++ (R4 ++ U)))))))))))))), P q := fun q hq => H q (y_perm.mem_iff.mpr hq)
theorem y_perD {A : Nat → Prop} {h H1 H2 S : Nat × va_E} {E A0 A1 A2 A3 A4 A5 T0 T1 R1 R2 R3 R4 U : List (Nat × va_E)} (H : va_D A ((h :: ((((((((E ++ (H1 :: H2 :: (((((([] ++ A0) ++ A1) ++ A2) ++ A3) ++ A4) ++ A5))) ++ [S]) ++ T0) ++ T1) ++ R1) ++ R2) ++ R3) ++ R4)) ++ U)) : va_D A (E ++ (A0 ++ (A1 ++ (A2 ++ (A3 ++ (A4 ++ (A5 ++ (T0 ++ (T1 ++ (h :: H1 :: H2 :: S :: (R1 ++ (R2 ++ (R3 ++ (R4 ++ U)))))))))))))) := by
  rw [y_Dm] at H ⊢
  have hp := (y_perm (h := h) (H1 := H1) (H2 := H2) (S := S) (E := E) (A0 := A0) (A1 := A1) (A2 := A2) (A3 := A3) (A4 := A4) (A5 := A5) (T0 := T0) (T1 := T1) (R1 := R1) (R2 := R2) (R3 := R3) (R4 := R4) (U := U)).map Prod.fst
  exact ⟨(hp.pairwise_iff (fun h => Ne.symm h)).mp H.1, fun a ha => H.2 a (hp.mem_iff.mpr ha)⟩
def y_f (g : xG) (ad : Nat → Nat) (a : Nat) : Nat × va_E := (ad a, x_cell (x_k g) ad y_M0 a)
theorem y_bl (g : xG) (ad : Nat → Nat) (e : Nat) (he : e < 9) : (List.range 20).map (fun j => y_f g ad (20 * e + j)) = y_evl g (fun j => ad (20 * e + j)) := by
  rcases (show e = 0 ∨ e = 1 ∨ e = 2 ∨ e = 3 ∨ e = 4 ∨ e = 5 ∨ e = 6 ∨ e = 7 ∨ e = 8 by omega) with rfl | rfl | rfl | rfl | rfl | rfl | rfl | rfl | rfl <;> rfl
def y_rest (g : xG) (ad : Nat → Nat) : va_W := [(ad 180, .inr (9, [.ref (ad 0), .ref (ad 181), .ref (ad 183), .ref (ad 184), .ref (ad 185), .ref (ad 187), .ref (ad 191)])), (ad 181, .inr (1, [.ref (ad 182), .int 0, .int 0])), (ad 182, .inl (x_k g 3, 6, .inr (.inr (.inr (.inr (fun j => some (ad (20 * (1 + j))))))))), (ad 183, .inl (x_k g 3, 2, .inr (.inr (.inr (.inr (fun j => some (ad (20 * (7 + j))))))))), (ad 184, .inl (x_k g 1, 2, .inl (fun _ => 0))), (ad 185, .inr (2, [.ref (ad 186), .int 0])), (ad 186, .inl (x_k g 2, 60, .inl (fun _ => 0))), (ad 187, .inr (3, [.ref (ad 188), .ref (ad 189), .ref (ad 190), .int 0, .int 0])), (ad 188, .inl (x_k g 0, 15, .inl (fun _ => 0))), (ad 189, .inl (x_k g 0, 15, .inl (fun _ => 0))), (ad 190, .inl (x_k g 0, 15, .inl (fun _ => 0))), (ad 191, .inr (5, [.ref (ad 192), .int 0, .int 0])), (ad 192, .inl (x_k g 0, 12, .inl (fun _ => 0))), (ad 193, .inl (x_k g 0, 8, .inl (fun _ => 0))), (ad 194, .inl (x_k g 0, 48, .inl (fun _ => 0))), (ad 195, .inl (x_k g 0, 64, .inl (fun _ => 0))), (ad 196, .inl (x_k g 0, 20, .inl (fun _ => 0))), (ad 197, .inl (x_k g 0, 12, .inl (fun _ => 0))), (ad 198, .inl (x_k g 0, 12, .inl (fun _ => 0))), (ad 199, .inl (x_k g 0, 8, .inl (fun _ => 0))), (ad 200, .inl (x_k g 0, 48, .inl (fun _ => 0))), (ad 201, .inl (x_k g 0, 64, .inl (fun _ => 0))), (ad 202, .inl (x_k g 0, 20, .inl (fun _ => 0))), (ad 203, .inl (x_k g 0, 12, .inl (fun _ => 0))), (ad 204, .inl (x_k g 0, 12, .inl (fun _ => 0)))]
theorem y_rs (g : xG) (ad : Nat → Nat) : (List.range 25).map (fun j => y_f g ad (20 * 9 + j)) = y_rest g ad := rfl
theorem y_rng : List.range 205 = (List.range 20).map (fun j => 20 * 0 + j) ++ ((List.range 20).map (fun j => 20 * 1 + j) ++ ((List.range 20).map (fun j => 20 * 2 + j) ++ ((List.range 20).map (fun j => 20 * 3 + j) ++ ((List.range 20).map (fun j => 20 * 4 + j) ++ ((List.range 20).map (fun j => 20 * 5 + j) ++ ((List.range 20).map (fun j => 20 * 6 + j) ++ ((List.range 20).map (fun j => 20 * 7 + j) ++ ((List.range 20).map (fun j => 20 * 8 + j) ++ ((List.range 25).map (fun j => 20 * 9 + j)))))))))) := by decide +kernel
theorem y_mapc (g : xG) (ad : Nat → Nat) (e n : Nat) : ((List.range n).map (fun j => 20 * e + j)).map (y_f g ad) = (List.range n).map (fun j => y_f g ad (20 * e + j)) := by
  rw [List.map_map]
  rfl
theorem y_wdE (g : xG) (ad : Nat → Nat) : x_wd (x_k g) ad y_M0 = y_evl g (fun j => ad (20 * 0 + j)) ++ (y_evl g (fun j => ad (20 * 1 + j)) ++ (y_evl g (fun j => ad (20 * 2 + j)) ++ (y_evl g (fun j => ad (20 * 3 + j)) ++ (y_evl g (fun j => ad (20 * 4 + j)) ++ (y_evl g (fun j => ad (20 * 5 + j)) ++ (y_evl g (fun j => ad (20 * 6 + j)) ++ (y_evl g (fun j => ad (20 * 7 + j)) ++ (y_evl g (fun j => ad (20 * 8 + j)) ++ (y_rest g ad))))))))) := by
  show (List.range 205).map (y_f g ad) = _
  rw [y_rng]
  simp only [List.map_append, y_mapc]
  rw [y_rs, y_bl g ad 0 (by decide), y_bl g ad 1 (by decide), y_bl g ad 2 (by decide), y_bl g ad 3 (by decide), y_bl g ad 4 (by decide), y_bl g ad 5 (by decide), y_bl g ad 6 (by decide), y_bl g ad 7 (by decide), y_bl g ad 8 (by decide)]
theorem y_evc {g : xG} {a a' : Nat → Nat} (h : ∀ j, j < 20 → a j = a' j) : y_evl g a = y_evl g a' := by
  unfold y_evl
  rw [h 0 (by decide), h 1 (by decide), h 2 (by decide), h 3 (by decide), h 4 (by decide), h 5 (by decide), h 6 (by decide), h 7 (by decide), h 8 (by decide), h 9 (by decide), h 10 (by decide), h 11 (by decide), h 12 (by decide), h 13 (by decide), h 14 (by decide), h 15 (by decide), h 16 (by decide), h 17 (by decide), h 18 (by decide), h 19 (by decide)]
def y_ad (e0 a0 a1 a2 a3 a4 a5 s0 s1 : Nat → Nat) (L : List Nat) : Nat → Nat := fun k => if k < 180 then (match k / 20 with
  | 0 => e0
  | 1 => a0
  | 2 => a1
  | 3 => a2
  | 4 => a3
  | 5 => a4
  | 6 => a5
  | 7 => s0
  | _ => s1) (k % 20) else L.getD (k - 180) 0
theorem y_adB (e0 a0 a1 a2 a3 a4 a5 s0 s1 : Nat → Nat) (L : List Nat) (e j : Nat) (he : e < 9) (hj : j < 20) : y_ad e0 a0 a1 a2 a3 a4 a5 s0 s1 L (20 * e + j) = (match e with
  | 0 => e0
  | 1 => a0
  | 2 => a1
  | 3 => a2
  | 4 => a3
  | 5 => a4
  | 6 => a5
  | 7 => s0
  | _ => s1) j := by
  unfold y_ad
  rw [if_pos (by omega), show (20 * e + j) / 20 = e by omega, show (20 * e + j) % 20 = j by omega]
theorem y_adX (e0 a0 a1 a2 a3 a4 a5 s0 s1 : Nat → Nat) (q9 qh qa qs qb qp p1 qr r1 r2 r3 qw w1 m1 m2 m3 m4 m5 m6 m7 m8 m9 m10 m11 m12 : Nat) : ∃ ad : Nat → Nat, (∀ j, j < 20 → ad (20 * 0 + j) = e0 j) ∧ (∀ j, j < 20 → ad (20 * 1 + j) = a0 j) ∧ (∀ j, j < 20 → ad (20 * 2 + j) = a1 j) ∧ (∀ j, j < 20 → ad (20 * 3 + j) = a2 j) ∧ (∀ j, j < 20 → ad (20 * 4 + j) = a3 j) ∧ (∀ j, j < 20 → ad (20 * 5 + j) = a4 j) ∧ (∀ j, j < 20 → ad (20 * 6 + j) = a5 j) ∧ (∀ j, j < 20 → ad (20 * 7 + j) = s0 j) ∧ (∀ j, j < 20 → ad (20 * 8 + j) = s1 j) ∧ ad 180 = q9 ∧ ad 181 = qh ∧ ad 182 = qa ∧ ad 183 = qs ∧ ad 184 = qb ∧ ad 185 = qp ∧ ad 186 = p1 ∧ ad 187 = qr ∧ ad 188 = r1 ∧ ad 189 = r2 ∧ ad 190 = r3 ∧ ad 191 = qw ∧ ad 192 = w1 ∧ ad 193 = m1 ∧ ad 194 = m2 ∧ ad 195 = m3 ∧ ad 196 = m4 ∧ ad 197 = m5 ∧ ad 198 = m6 ∧ ad 199 = m7 ∧ ad 200 = m8 ∧ ad 201 = m9 ∧ ad 202 = m10 ∧ ad 203 = m11 ∧ ad 204 = m12 :=
  ⟨y_ad e0 a0 a1 a2 a3 a4 a5 s0 s1 [q9, qh, qa, qs, qb, qp, p1, qr, r1, r2, r3, qw, w1, m1, m2, m3, m4, m5, m6, m7, m8, m9, m10, m11, m12], fun j hj => y_adB _ _ _ _ _ _ _ _ _ _ 0 j (by decide) hj, fun j hj => y_adB _ _ _ _ _ _ _ _ _ _ 1 j (by decide) hj, fun j hj => y_adB _ _ _ _ _ _ _ _ _ _ 2 j (by decide) hj, fun j hj => y_adB _ _ _ _ _ _ _ _ _ _ 3 j (by decide) hj, fun j hj => y_adB _ _ _ _ _ _ _ _ _ _ 4 j (by decide) hj, fun j hj => y_adB _ _ _ _ _ _ _ _ _ _ 5 j (by decide) hj, fun j hj => y_adB _ _ _ _ _ _ _ _ _ _ 6 j (by decide) hj, fun j hj => y_adB _ _ _ _ _ _ _ _ _ _ 7 j (by decide) hj, fun j hj => y_adB _ _ _ _ _ _ _ _ _ _ 8 j (by decide) hj, rfl, rfl, rfl, rfl, rfl, rfl, rfl, rfl, rfl, rfl, rfl, rfl, rfl, rfl, rfl, rfl, rfl, rfl, rfl, rfl, rfl, rfl, rfl, rfl, rfl⟩
def y_U (g : xG) (m1 m2 m3 m4 m5 m6 m7 m8 m9 m10 m11 m12 : Nat) : va_W := [(m1, .inl (x_k g 0, 8, .inl (fun _ => 0))), (m2, .inl (x_k g 0, 48, .inl (fun _ => 0))), (m3, .inl (x_k g 0, 64, .inl (fun _ => 0))), (m4, .inl (x_k g 0, 20, .inl (fun _ => 0))), (m5, .inl (x_k g 0, 12, .inl (fun _ => 0))), (m6, .inl (x_k g 0, 12, .inl (fun _ => 0))), (m7, .inl (x_k g 0, 8, .inl (fun _ => 0))), (m8, .inl (x_k g 0, 48, .inl (fun _ => 0))), (m9, .inl (x_k g 0, 64, .inl (fun _ => 0))), (m10, .inl (x_k g 0, 20, .inl (fun _ => 0))), (m11, .inl (x_k g 0, 12, .inl (fun _ => 0))), (m12, .inl (x_k g 0, 12, .inl (fun _ => 0)))]
theorem y_order {g : xG} {q9 m1 m2 m3 m4 m5 m6 m7 m8 m9 m10 m11 m12 : Nat} {u9 : va_W} (h9 : wd_X9 g q9 u9) : ∃ ad : Nat → Nat, ad 180 = q9 ∧ ad 193 = m1 ∧ ad 194 = m2 ∧ ad 195 = m3 ∧ ad 196 = m4 ∧ ad 197 = m5 ∧ ad 198 = m6 ∧ ad 199 = m7 ∧ ad 200 = m8 ∧ ad 201 = m9 ∧ ad 202 = m10 ∧ ad 203 = m11 ∧ ad 204 = m12 ∧ (∀ D H, va_P D vwCl (u9 ++ y_U g m1 m2 m3 m4 m5 m6 m7 m8 m9 m10 m11 m12) H → va_P D vwCl (x_wd (x_k g) ad y_M0) H) ∧ ∀ A, va_D A (u9 ++ y_U g m1 m2 m3 m4 m5 m6 m7 m8 m9 m10 m11 m12) → va_D A (x_wd (x_k g) ad y_M0) := by
  obtain ⟨qh, qa, qs, qb, qp, p1, qr, r1, r2, r3, qw, w1, e0, a0, a1, a2, a3, a4, a5, s0, s1, rfl⟩ := h9
  obtain ⟨ad, he0, ha0, ha1, ha2, ha3, ha4, ha5, hs0, hs1, rfl, rfl, rfl, rfl, rfl, rfl, rfl, rfl, rfl, rfl, rfl, rfl, rfl, rfl, rfl, rfl, rfl, rfl, rfl, rfl, rfl, rfl, rfl, rfl, rfl⟩ := y_adX e0 a0 a1 a2 a3 a4 a5 s0 s1 q9 qh qa qs qb qp p1 qr r1 r2 r3 qw w1 m1 m2 m3 m4 m5 m6 m7 m8 m9 m10 m11 m12
  have W : x_wd (x_k g) ad y_M0 = y_evl g e0 ++ (y_evl g a0 ++ (y_evl g a1 ++ (y_evl g a2 ++ (y_evl g a3 ++ (y_evl g a4 ++ (y_evl g a5 ++ (y_evl g s0 ++ (y_evl g s1 ++ (y_rest g ad))))))))) := by
    rw [y_wdE, y_evc he0, y_evc ha0, y_evc ha1, y_evc ha2, y_evc ha3, y_evc ha4, y_evc ha5, y_evc hs0, y_evc hs1]
  have z0 : ad 0 = e0 0 := he0 0 (by decide)
  refine ⟨ad, rfl, rfl, rfl, rfl, rfl, rfl, rfl, rfl, rfl, rfl, rfl, rfl, rfl, fun D H hP => ?_, fun A hD => ?_⟩
  · rw [W, y_Pm]
    rw [y_Pm] at hP
    have k := y_perP hP
    simp only [List.forall_mem_append] at k ⊢
    obtain ⟨ke0, ka0, ka1, ka2, ka3, ka4, ka5, ks0, ks1, k⟩ := k
    refine ⟨ke0, ka0, ka1, ka2, ka3, ka4, ka5, ks0, ks1, ?_⟩
    unfold y_rest
    unfold y_U at k
    simp only [List.forall_mem_append, List.forall_mem_cons] at k ⊢
    rw [z0]
    obtain ⟨c0, c1, c2, c3, ⟨c4, -⟩, ⟨c5, c6, -⟩, ⟨c7, c8, c9, c10, -⟩, ⟨c11, c12, -⟩, c13, c14, c15, c16, c17, c18, c19, c20, c21, c22, c23, c24, -⟩ := k
    refine ⟨c0, c1, y_atC (fun j hj => ?_) c2, y_atC (fun j hj => ?_) c3, c4, c5, c6, c7, c8, c9, c10, c11, c12, c13, c14, c15, c16, c17, c18, c19, c20, c21, c22, c23, c24, List.forall_mem_nil _⟩
    · rcases (show j = 0 ∨ j = 1 ∨ j = 2 ∨ j = 3 ∨ j = 4 ∨ j = 5 by omega) with rfl | rfl | rfl | rfl | rfl | rfl
      · exact congrArg some (ha0 0 (by decide)).symm
      · exact congrArg some (ha1 0 (by decide)).symm
      · exact congrArg some (ha2 0 (by decide)).symm
      · exact congrArg some (ha3 0 (by decide)).symm
      · exact congrArg some (ha4 0 (by decide)).symm
      · exact congrArg some (ha5 0 (by decide)).symm
    · rcases (show j = 0 ∨ j = 1 by omega) with rfl | rfl
      · exact congrArg some (hs0 0 (by decide)).symm
      · exact congrArg some (hs1 0 (by decide)).symm
  · have k := y_perD hD
    rw [y_Dm] at k ⊢
    rw [W]
    simp only [List.map_append] at k ⊢
    exact k
