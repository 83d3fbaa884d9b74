/-! the world in the order of its numbers -/
theorem y_ofn {c : ClassId} {n : Nat} {f f' : Nat → Option Nat} (h : ∀ j, j < n → f j = f' j) : vp_cell c (n, .inr (.inr (.inr (.inr f)))) = vp_cell c (n, .inr (.inr (.inr (.inr f')))) := by
  show arrV c n (fun j => va_rf (f j)) = arrV c n (fun j => va_rf (f' j))
  unfold arrV
  congr 1
  congr 1
  funext j
  show va_rf (f j.val) = va_rf (f' j.val)
  rw [h j.val j.isLt]
theorem y_swapP {D : va_G} {cl : List vw_C} {w : va_W} {H : Heap} {i q : Nat} {c : ClassId} {n : Nat} {f f' : Nat → Option Nat} (hP : va_P D cl w H) (hi : w[i]? = some (q, .inl (c, n, .inr (.inr (.inr (.inr f)))))) (h : ∀ j, j < n → f j = f' j) : va_P D cl (w.set i (q, .inl (c, n, .inr (.inr (.inr (.inr f')))))) H := by
  intro k x hk
  rw [List.getElem?_set] at hk
  by_cases e : i = k
  · subst e
    rw [if_pos rfl] at hk
    split at hk
    · cases hk
      have a := hP i _ hi
      have a : H[q]? = some (vp_cell c (n, .inr (.inr (.inr (.inr f))))) := a
      show H[q]? = some (vp_cell c (n, .inr (.inr (.inr (.inr f')))))
      rw [a, y_ofn h]
    · cases hk
  · rw [if_neg e] at hk
    exact hP k x hk
def y_idx : List Nat := [1, 2, 3, 4, 5, 6, 7, 8, 9, 10, 11, 12, 13, 14, 15, 16, 17, 18, 19, 20, 23, 24, 25, 26, 27, 28, 29, 30, 31, 32, 33, 34, 35, 36, 37, 38, 39, 40, 41, 42, 43, 44, 45, 46, 47, 48, 49, 50, 51, 52, 53, 54, 55, 56, 57, 58, 59, 60, 61, 62, 63, 64, 65, 66, 67, 68, 69, 70, 71, 72, 73, 74, 75, 76, 77, 78, 79, 80, 81, 82, 83, 84, 85, 86, 87, 88, 89, 90, 91, 92, 93, 94, 95, 96, 97, 98, 99, 100, 101, 102, 103, 104, 105, 106, 107, 108, 109, 110, 111, 112, 113, 114, 115, 116, 117, 118, 119, 120, 121, 122, 123, 124, 125, 126, 127, 128, 129, 130, 131, 132, 133, 134, 135, 136, 137, 138, 139, 140, 141, 142, 144, 145, 146, 147, 148, 149, 150, 151, 152, 153, 154, 155, 156, 157, 158, 159, 160, 161, 162, 163, 164, 165, 166, 167, 168, 169, 170, 171, 172, 173, 174, 175, 176, 177, 178, 179, 180, 181, 182, 183, 0, 21, 22, 143, 184, 185, 186, 187, 188, 189, 190, 191, 192, 193, 194, 195, 196, 197, 198, 199]
def y_ad (e0 a0 a1 a2 a3 a4 a5 s0 s1 : Nat → Nat) (L : List Nat) : Nat → Nat := fun k => if k < 180 then (match k / 20 with
  | 0 => e0
  | 1 => a0
  | 2 => a1
  | 3 => a2
  | 4 => a3
  | 5 => a4
  | 6 => a5
  | 7 => s0
  | _ => s1) (k % 20) else L.getD (k - 180) 0
theorem y_idx_nd : va_nd y_idx = true := by decide +kernel
set_option maxRecDepth 100000 in
set_option maxHeartbeats 4000000 in
theorem y_order {g : xG} {q9 q10 : Nat} {u9 u10 : va_W} (h9 : wd_X9 g q9 u9) (h10 : wd_X10 g q10 u10) : ∃ ad : Nat → Nat, ad 180 = q9 ∧ ad 193 = q10 ∧ (∀ D H, va_P D vwCl (u9 ++ u10) H → va_P D vwCl (x_wd (x_k g) ad y_M0) H) ∧ ∀ A, va_D A (u9 ++ u10) → va_D A (x_wd (x_k g) ad y_M0) := by
  obtain ⟨qh, qa, qs, qb, qp, p1, qr, r1, r2, r3, qw, w1, e0, a0, a1, a2, a3, a4, a5, s0, s1, rfl⟩ := h9
  obtain ⟨m1, m2, m3, m4, m5, m6, rfl⟩ := h10
  refine ⟨y_ad e0 a0 a1 a2 a3 a4 a5 s0 s1 [q9, qh, qa, qs, qb, qp, p1, qr, r1, r2, r3, qw, w1, q10, m1, m2, m3, m4, m5, m6], rfl, rfl, fun D H hP => ?_, fun A hD => ?_⟩
  · have b1 := y_swapP (i := 22) hP rfl (f' := fun j => some (y_ad e0 a0 a1 a2 a3 a4 a5 s0 s1 [q9, qh, qa, qs, qb, qp, p1, qr, r1, r2, r3, qw, w1, q10, m1, m2, m3, m4, m5, m6] (20 * (1 + j)))) (fun j hj => by rcases (show j = 0 ∨ j = 1 ∨ j = 2 ∨ j = 3 ∨ j = 4 ∨ j = 5 by omega) with rfl | rfl | rfl | rfl | rfl | rfl <;> rfl)
    have b2 := y_swapP (i := 143) b1 rfl (f' := fun j => some (y_ad e0 a0 a1 a2 a3 a4 a5 s0 s1 [q9, qh, qa, qs, qb, qp, p1, qr, r1, r2, r3, qw, w1, q10, m1, m2, m3, m4, m5, m6] (20 * (7 + j)))) (fun j hj => by rcases (show j = 0 ∨ j = 1 by omega) with rfl | rfl <;> rfl)
    exact b2.sub y_idx rfl
  · have b1 := hD.set (p := 22) (e := .inl (x_k g 3, 6, .inr (.inr (.inr (.inr (fun j => some (y_ad e0 a0 a1 a2 a3 a4 a5 s0 s1 [q9, qh, qa, qs, qb, qp, p1, qr, r1, r2, r3, qw, w1, q10, m1, m2, m3, m4, m5, m6] (20 * (1 + j))))))))) rfl
    have b2 := b1.set (p := 143) (e := .inl (x_k g 3, 2, .inr (.inr (.inr (.inr (fun j => some (y_ad e0 a0 a1 a2 a3 a4 a5 s0 s1 [q9, qh, qa, qs, qb, qp, p1, qr, r1, r2, r3, qw, w1, q10, m1, m2, m3, m4, m5, m6] (20 * (7 + j))))))))) rfl
    exact b2.sub y_idx y_idx_nd rfl
