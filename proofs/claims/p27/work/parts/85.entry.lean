/-! the law's entry -/
theorem y_inst : ∀ w ∈ ([.instantiable RX0 6, .instantiable RX1 3, .instantiable RX2 2, .instantiable RX3 5, .instantiable RX4 5, .instantiable RX5 3, .instantiable RX6 7, .instantiable RX7 5, .instantiable RX8 4, .instantiable RX9 7] : List Cond), w ∈ lw_tbl := by decide +kernel
theorem y_arrs : ∀ w ∈ ([.arrayClass .int, .arrayClass .boolean, .arrayClass .char, .arrayOver (.object RX0)] : List Cond), w ∈ lw_tbl := by decide +kernel
theorem y_hI : ∀ (c : Nat) (q : vw_C), vwCl[c]? = some q → (∀ w ∈ u_ws q.1 q.2.1 q.2.2, w ∈ lw_tbl) ∧ ∃ n, Cond.instantiable q.1 n ∈ lw_tbl := by
  intro c q hq
  match c, hq with
  | 0, h => cases h; exact ⟨wsL_law_iX00, 6, y_inst _ (List.mem_of_getElem? (i := 0) rfl)⟩
  | 1, h => cases h; exact ⟨wsL_law_iX10, 3, y_inst _ (List.mem_of_getElem? (i := 1) rfl)⟩
  | 2, h => cases h; exact ⟨wsL_law_iX20, 2, y_inst _ (List.mem_of_getElem? (i := 2) rfl)⟩
  | 3, h => cases h; exact ⟨wsL_law_iX30, 5, y_inst _ (List.mem_of_getElem? (i := 3) rfl)⟩
  | 4, h => cases h; exact ⟨wsL_law_iX40, 5, y_inst _ (List.mem_of_getElem? (i := 4) rfl)⟩
  | 5, h => cases h; exact ⟨wsL_law_iX50, 3, y_inst _ (List.mem_of_getElem? (i := 5) rfl)⟩
  | 6, h => cases h; exact ⟨wsL_law_iX60, 7, y_inst _ (List.mem_of_getElem? (i := 6) rfl)⟩
  | 7, h => cases h; exact ⟨wsL_law_iX70, 5, y_inst _ (List.mem_of_getElem? (i := 7) rfl)⟩
  | 8, h => cases h; exact ⟨wsL_law_iX80, 4, y_inst _ (List.mem_of_getElem? (i := 8) rfl)⟩
  | 9, h => cases h; exact ⟨wsL_law_iX90, 7, y_inst _ (List.mem_of_getElem? (i := 9) rfl)⟩
  | n + 10, h => cases h
/-- the law comes to its end with true -/
theorem whole_start {p : Program} {e : Env} {s : State} {m : MethodId} {below : List Frame} {meth : Method} {c : Code} (l : Launch) (hflags : l.flags = flags0) {b L : Nat} {xs : Nat → Int32} (hL : L ≤ 260) (C0 : lw_At p s m meth c b L xs) : W p l e room_1 s m #[Value.ref b] below meth c s.heap [] 0 0 (lw_Z below #[Value.ref b] s) (entryFrame m ([Value.ref b] : List Value).toArray 22) := by
  obtain ⟨hx, hb, hr, hml, hown, hts, hX, hbl, hlocks, hgv⟩ := id C0
  obtain ⟨D, kc, hK⟩ := y_known hts (hts _ (y_arrs _ (List.mem_of_getElem? (i := 0) rfl))) (hts _ (y_arrs _ (List.mem_of_getElem? (i := 1) rfl))) (hts _ (y_arrs _ (List.mem_of_getElem? (i := 2) rfl))) (hts _ (y_arrs _ (List.mem_of_getElem? (i := 3) rfl))) y_hI
  have hN : ∀ w ∈ x_nest, va_Nw w s := fun w hw => va_Nw.of (x_nest_tab w hw) (hts w (x_nest_in w hw))
  have hO : va_AO RX0 s := va_AO.of (hts _ (y_arrs _ (List.mem_of_getElem? (i := 3) rfl)))
  have hws : ∀ w ∈ wsL_law, w.before #[Value.ref b] s = true := fun w hw => hts w (wsL_law_in w hw)
  have key : y_W (p, l, e, room_1, s, m, #[Value.ref b], below, meth, c, 0, 0) (l, D, kc, fun _ => 0, fun q => s.heap.size ≤ q) 22 (lw_Z below #[Value.ref b] s) [] 0 0 0 [(0, .ref b)] [] := by
    refine lw_begin (b := b) ⟨hx, hb, hml, hown, hws, hK, hN, rfl, rfl, Nat.zero_le _, Nat.zero_le _⟩ ⟨fun q h => h, hO⟩ (fun q9 m1 m2 m3 m4 m5 m6 m7 m8 m9 m10 m11 m12 u9 h9 => ?_)
    obtain ⟨ad, rfl, rfl, rfl, rfl, rfl, rfl, rfl, rfl, rfl, rfl, rfl, rfl, rfl, hp, hd⟩ := y_order (m1 := m1) (m2 := m2) (m3 := m3) (m4 := m4) (m5 := m5) (m6 := m6) (m7 := m7) (m8 := m8) (m9 := m9) (m10 := m10) (m11 := m11) (m12 := m12) h9
    intro H locs la hP hD hS hl
    have h := lw_loop (x := (p, l, e, room_1, s, m, #[Value.ref b], below, meth, c, 205, 2698)) (g := (l, D, kc, ad, fun q => s.heap.size ≤ q)) (b := b) (L := L) (xs := xs) ⟨hx, hb, hml, hown, hws, hK, hN, rfl, rfl, Nat.le_of_ble_eq_true rfl, Nat.le_of_ble_eq_true rfl⟩ ⟨hX, hbl, Nat.not_le.mpr hbl⟩ ⟨rfl, rfl, hr, hlocks, Nat.le_of_ble_eq_true rfl, Nat.le_of_ble_eq_true rfl⟩ hL (1000 * (30 - 0) + 900) (nI 0) y_M0 ⟨0, by omega, rfl, rfl, LI_0, fun q => absurd q (by omega), fun q => absurd q (by omega)⟩
    exact h H locs la (hp _ _ hP) (hd _ hD) hS (lv_sub hl [14, 13, 12, 11, 10, 9, 8, 7, 6, 5, 4, 3, 2, 1, 0] rfl)
  rw [lg_entry_eq]
  exact key s.heap [] _ (fun k q h => by simp at h) ⟨fun i j p q h => by simp at h, fun k q h => by simp at h⟩ va_S.rf (lv_entry [.ref b] (n := 22) (Nat.le_of_ble_eq_true rfl))
