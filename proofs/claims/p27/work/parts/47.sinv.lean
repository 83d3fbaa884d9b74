/-! what holds between the law's acts: the class's evening and the law's rows say the same -/
def LI (K : Nat) (M : xM) : Prop := WF K M ∧ WB M ∧ LR M (M 193) (M 194) (M 195) (M 196) ∧ LQ M (M 193) (M 197) (M 198) ∧ ∃ n p, q_hi 0 M n p
/-- only what looks ahead has changed -/
def l_fs (M N : xM) : Prop := ∀ z, z ≠ 191 → z ≠ 192 → (z < 199 ∨ 204 < z) → N z = M z
theorem l_fs_rf (M : xM) : l_fs M M := fun _ _ _ _ => rfl
theorem l_fs_tr {M N N' : xM} (h : l_fs M N) (h2 : l_fs N N') : l_fs M N' := fun z a b c => by rw [h2 z a b c, h z a b c]
theorem l_fs_9 {M N : xM} (h : ∀ a, a ≠ 191 → a ≠ 192 → N a = M a) : l_fs M N := fun z a b _ => h z a b
theorem l_fs_l {M N : xM} (h : l_fr M N) : l_fs M N := fun z _ _ c => h z c
theorem LR_rows {E E' : xM} {q si so wi : Nat → Int32} (h : LR E q si so wi) (e : ∀ j, j < 20 → E' j = E j) : LR E' q si so wi := by
  unfold LR q_w at *
  rw [e 0 (by decide), e 1 (by decide), e 2 (by decide), e 3 (by decide), e 4 (by decide), e 5 (by decide), e 6 (by decide), e 7 (by decide), e 8 (by decide), e 9 (by decide), e 10 (by decide), e 11 (by decide), e 12 (by decide), e 13 (by decide), e 14 (by decide)]
  exact h
theorem LQ_rows {E E' : xM} {q pa be : Nat → Int32} (h : LQ E q pa be) (e : ∀ j, j < 20 → E' j = E j) : LQ E' q pa be := by
  unfold LQ q_p at *
  rw [e 15 (by decide), e 16 (by decide), e 17 (by decide), e 18 (by decide), e 19 (by decide)]
  exact h
theorem LI_fs {K : Nat} {M N : xM} (h : LI K M) (s : l_fs M N) : LI K N := by
  have lo : ∀ j, j < 20 → N j = M j := fun j hj => s j (by omega) (by omega) (by omega)
  obtain ⟨wf, wb, lr, lp, n, p, hh⟩ := h
  refine ⟨WF_rows wf lo, WB_of wb (fun a k ha => by rw [lo a (by omega)]), ?_, ?_, n, p, ?_⟩
  · rw [s 193 (by decide) (by decide) (by decide), s 194 (by decide) (by decide) (by decide), s 195 (by decide) (by decide) (by decide), s 196 (by decide) (by decide) (by decide)]
    exact LR_rows lr lo
  · rw [s 193 (by decide) (by decide) (by decide), s 197 (by decide) (by decide) (by decide), s 198 (by decide) (by decide) (by decide)]
    exact LQ_rows lp lo
  · unfold q_hi at *
    rw [s 181 (by decide) (by decide) (by decide)]
    exact hh
def SI (K : Nat) (M N : xM) : Prop := LI K N ∧ l_fs M N
theorem SI_fs {K : Nat} {M N N' : xM} (h : SI K M N) (s : l_fs N N') : SI K M N' := ⟨LI_fs h.1 s, l_fs_tr h.2 s⟩
/-- what was counted over all wishes -/
def S_E (v14 v15 : Int32) (N : xM) : Prop := v14 = nI (q_cn (q_rd N) (q_w N)) ∧ v15 = q_ea N (q_w N)
/-- the law's 'none' of who holds up -/
def l_hb (x : Int32) : Int32 := if x = -6 then -1 else x
/-! what the looks are that the law makes -/
theorem q_rd_rows {E E' : xM} (e : ∀ j, j < 20 → E' j = E j) : q_rd E' = q_rd E := by
  funext w
  unfold q_rd
  rw [show q_ss E' w = q_ss E w from q_ss_cong (by rw [e 12 (by decide)]) (by rw [e 13 (by decide)]), e 1 (by decide)]
theorem q_ea_rows {E E' : xM} (e : ∀ j, j < 20 → E' j = E j) : ∀ n, q_ea E' n = q_ea E n
  | 0 => by
    unfold q_ea
    rw [e 0 (by decide)]
  | n + 1 => by
    unfold q_ea
    rw [q_ea_rows e n, q_rd_rows e, e 9 (by decide), e 14 (by decide)]
theorem q_hb_rows {E E' : xM} (e : ∀ j, j < 20 → E' j = E j) (w : Nat) (b : Int32) : ∀ n, q_hb E' w b n = q_hb E w b n
  | 0 => rfl
  | n + 1 => by
    unfold q_hb
    rw [q_hb_rows e w b n, q_turn_row e]
theorem q_w_rows {E E' : xM} (e : ∀ j, j < 20 → E' j = E j) : q_w E' = q_w E := by
  unfold q_w
  rw [e 11 (by decide)]
theorem l_lo {N N' : xM} (s : l_fs N N') : ∀ j, j < 20 → N' j = N j := fun j hj => s j (by omega) (by omega) (by omega)
theorem l_cn_s (p : Nat → Bool) (i : Nat) : nI (q_cn p i) + x_b (p i = true) = nI (q_cn p (i + 1)) := by
  rw [q_cn]
  by_cases h : p i = true
  · rw [x_b1 h, if_pos h, nI_1]
  · rw [x_b0 h, if_neg h, Int32.add_zero]
    rfl
theorem l_dd (x a b : Int32) : (x + a) - (x + b) = a - b := by
  apply Int32.toBitVec_inj.mp
  rw [Int32.toBitVec_sub, Int32.toBitVec_add, Int32.toBitVec_add, Int32.toBitVec_sub]
  generalize x.toBitVec = u
  generalize a.toBitVec = v
  generalize b.toBitVec = w
  apply BitVec.eq_of_toNat_eq
  simp only [BitVec.toNat_sub, BitVec.toNat_add]
  omega
theorem l_cn_n (p : Nat → Bool) : ∀ n, q_cn p n + q_cn (fun w => !p w) n = n
  | 0 => rfl
  | n + 1 => by
    have := l_cn_n p n
    rw [q_cn, q_cn]
    cases h : p n <;> simp <;> omega
theorem l_cn_not (p : Nat → Bool) (n : Nat) : nI n - nI (q_cn p n) = nI (q_cn (fun w => !p w) n) := by
  have := l_cn_n p n
  rw [pk_sub (by omega)]
  congr 1
  omega
theorem l_kf_c : ∀ j, j ≤ 6 → ¬ ((10 : Int32) + nI j < 0) ∧ ¬ ((10 : Int32) - nI j < 0) := by decide +kernel
theorem l_kf_v {p : Int32 → Bool} : ∀ n, n ≤ 7 → q_kf p n = -6 ∨ ¬ q_kf p n < 0
  | 0, _ => Or.inl rfl
  | n + 1, hn => by
    have c := l_kf_c (6 - n) (by omega)
    rw [q_kf]
    split
    · exact Or.inr c.1
    · split
      · exact Or.inr c.2
      · exact l_kf_v n (by omega)
theorem l_kt_neg {E : xM} {a u : Nat} {o : Option Nat} : (q_kt E a o u < 0) ↔ q_kt E a o u = -6 := by
  unfold q_kt
  rcases l_kf_v (p := q_kk E a o u) 7 (by omega) with h | h
  · rw [h]
    exact ⟨fun _ => rfl, fun _ => by decide⟩
  · exact ⟨fun z => absurd z h, fun z => by rw [z]; decide⟩
section
variable {N : xM} {i : Nat}
theorem l_iq0 (hi : i < q_w N) (h20 : q_w N ≤ 20) : q_Riq N (nI i) 0 = N 12 i := by
  rw [q_Riq, q_if1 (x_vi hi (by omega)), x_cl (by omega)]
  exact q_sw_0.symm
theorem l_iq1 (hi : i < q_w N) (h20 : q_w N ≤ 20) : q_Riq N (nI i) 1 = N 13 i := by
  rw [q_Riq, q_if1 (x_vi hi (by omega)), x_cl (by omega)]
  exact q_sw_1.symm
theorem l_iq2 (hi : i < q_w N) (h20 : q_w N ≤ 20) : q_Riq N (nI i) 2 = N 14 i := by
  rw [q_Riq, q_if1 (x_vi hi (by omega)), x_cl (by omega)]
  exact q_sw_2.symm
theorem l_iq3 (hi : i < q_w N) (h20 : q_w N ≤ 20) : q_Riq N (nI i) 3 = q_kt N (N 12 i).toNatClampNeg (q_ov (N 13 i)) (N 14 i).toNatClampNeg := by
  rw [q_Riq, q_if1 (x_vi hi (by omega)), x_cl (by omega)]
  exact q_sw_3.symm
theorem l_iq4 (hi : i < q_w N) (h20 : q_w N ≤ 20) : q_Riq N (nI i) 4 = x_b (q_rd N i = true) := by
  rw [q_Riq, q_if1 (x_vi hi (by omega)), x_cl (by omega)]
  exact q_sw_4.symm
theorem l_iq5 (hi : i < q_w N) (h20 : q_w N ≤ 20) : q_Riq N (nI i) 5 = x_b (q_fr N (N 1 2) i = true) := by
  rw [q_Riq, q_if1 (x_vi hi (by omega)), x_cl (by omega)]
  exact q_sw_5.symm
theorem l_iq6 (hi : i < q_w N) (h20 : q_w N ≤ 20) : q_Riq N (nI i) 6 = q_tf N (N 4) i := by
  rw [q_Riq, q_if1 (x_vi hi (by omega)), x_cl (by omega)]
  exact q_sw_6.symm
theorem l_of0 (hi : i < q_s N) (h20 : q_s N ≤ 12) : q_Rof N (nI i) 0 = N 2 i := by
  rw [q_Rof, q_if1 (x_vi hi (by omega)), x_cl (by omega)]
  exact q_sw_0.symm
theorem l_of1 (hi : i < q_s N) (h20 : q_s N ≤ 12) : q_Rof N (nI i) 1 = N 3 i := by
  rw [q_Rof, q_if1 (x_vi hi (by omega)), x_cl (by omega)]
  exact q_sw_1.symm
theorem l_of2 (hi : i < q_s N) (h20 : q_s N ≤ 12) : q_Rof N (nI i) 2 = x_b (bt (N 1 1) i = true) := by
  rw [q_Rof, q_if1 (x_vi hi (by omega)), x_cl (by omega)]
  exact q_sw_2.symm
theorem l_of3 (hi : i < q_s N) (h20 : q_s N ≤ 12) : q_Rof N (nI i) 3 = N 4 i := by
  rw [q_Rof, q_if1 (x_vi hi (by omega)), x_cl (by omega)]
  exact q_sw_3.symm
theorem l_of4 (hi : i < q_s N) (h20 : q_s N ≤ 12) : q_Rof N (nI i) 4 = x_b (bt (N 1 2) i = true) := by
  rw [q_Rof, q_if1 (x_vi hi (by omega)), x_cl (by omega)]
  exact q_sw_4.symm
theorem l_of5 (hi : i < q_s N) (h20 : q_s N ≤ 12) : q_Rof N (nI i) 5 = q_nw N i (q_w N) := by
  rw [q_Rof, q_if1 (x_vi hi (by omega)), x_cl (by omega)]
  exact q_sw_5.symm
theorem l_of6 (hi : i < q_s N) (h20 : q_s N ≤ 12) : q_Rof N (nI i) 6 = N 5 i := by
  rw [q_Rof, q_if1 (x_vi hi (by omega)), x_cl (by omega)]
  exact q_sw_6.symm
theorem l_os2 (hi : i < q_g N) (h20 : q_g N ≤ 16) : q_Ros N (nI i) 2 = N 9 i := by
  rw [q_Ros, q_if1 (x_vi hi (by omega)), x_cl (by omega)]
  exact q_sw_2.symm
theorem l_os3 (hi : i < q_g N) (h20 : q_g N ≤ 16) : q_Ros N (nI i) 3 = q_set (fun j => decide (q_kt N j none i ≠ -6)) (q_s N) := by
  rw [q_Ros, q_if1 (x_vi hi (by omega)), x_cl (by omega)]
  exact q_sw_3.symm
theorem l_os4 (hi : i < q_g N) (h20 : q_g N ≤ 16) : q_Ros N (nI i) 4 = N 10 i := by
  rw [q_Ros, q_if1 (x_vi hi (by omega)), x_cl (by omega)]
  exact q_sw_4.symm
theorem l_pa0 (hi : i < q_p N) (h20 : q_p N ≤ 12) : q_Rpa N (nI i) 0 = N 16 i := by
  rw [q_Rpa, q_if1 (x_vi hi (by omega)), x_cl (by omega)]
  exact q_sw_0.symm
theorem l_pa1 (hi : i < q_p N) (h20 : q_p N ≤ 12) : q_Rpa N (nI i) 1 = N 17 i := by
  rw [q_Rpa, q_if1 (x_vi hi (by omega)), x_cl (by omega)]
  exact q_sw_1.symm
theorem l_pa2 (hi : i < q_p N) (h20 : q_p N ≤ 12) : q_Rpa N (nI i) 2 = N 18 i := by
  rw [q_Rpa, q_if1 (x_vi hi (by omega)), x_cl (by omega)]
  exact q_sw_2.symm
theorem l_pa3 (hi : i < q_p N) (h20 : q_p N ≤ 12) : q_Rpa N (nI i) 3 = N 19 i := by
  rw [q_Rpa, q_if1 (x_vi hi (by omega)), x_cl (by omega)]
  exact q_sw_3.symm
theorem l_pan (h20 : q_p N ≤ 12) : q_Rpa N (nI (q_p N)) 0 = -1 := by
  rw [q_Rpa, q_if0]
  intro h
  rw [vp_in_iff, nI_toInt (by omega)] at h
  omega
theorem l_tu0 (hi : i < q_w N) (h20 : q_w N ≤ 20) (hr : q_rd N i = true) : q_Rtu N (nI i) 0 = nI (q_turn N i none).1 := by
  rw [q_Rtu, q_if1 (x_vi hi (by omega)), q_if1 (by decide), x_cl (by omega), q_if1 hr, if_pos rfl]
theorem l_tu1 (hi : i < q_w N) (h20 : q_w N ≤ 20) (hr : q_rd N i = true) : q_Rtu N (nI i) 1 = (q_turn N i none).2 := by
  rw [q_Rtu, q_if1 (x_vi hi (by omega)), q_if1 (by decide), x_cl (by omega), q_if1 hr, if_neg (by decide)]
theorem l_tun (hi : i < q_w N) (h20 : q_w N ≤ 20) (hr : ¬ q_rd N i = true) : q_Rtu N (nI i) 0 = -6 := by
  rw [q_Rtu, q_if1 (x_vi hi (by omega)), q_if1 (by decide), x_cl (by omega), q_if0 hr]
theorem l_hbn (hi : i < q_w N) (h20 : q_w N ≤ 20) (hr : ¬ q_rd N i = true) : q_Rhb N (nI i) 1 = -6 := by
  rw [q_Rhb, q_if1 (x_vi hi (by omega)), q_if1 (by decide), x_cl (by omega), q_if0 hr]
theorem l_hb0 (hi : i < q_w N) (h20 : q_w N ≤ 20) (hr : q_rd N i = true) (h1 : q_w N ≠ 1) : q_Rhb N (nI i) 0 = (q_hb N i (q_turn N i none).2 (q_w N)).1 := by
  rw [q_Rhb, q_if1 (x_vi hi (by omega)), q_if1 (by decide), x_cl (by omega), q_if1 hr, if_neg h1, if_pos rfl]
theorem l_hb1 (hi : i < q_w N) (h20 : q_w N ≤ 20) (hr : q_rd N i = true) (h1 : q_w N ≠ 1) : q_Rhb N (nI i) 1 = (q_hb N i (q_turn N i none).2 (q_w N)).2 := by
  rw [q_Rhb, q_if1 (x_vi hi (by omega)), q_if1 (by decide), x_cl (by omega), q_if1 hr, if_neg h1, if_neg (by decide)]
end
/-- one of the others holds up, once one was looked at -/
theorem l_hb_in {E : xM} {w : Nat} {b : Int32} : ∀ {n : Nat}, n ≤ 20 → ((q_hb E w b n).1 = -6 ∨ ∃ j, j < n ∧ (q_hb E w b n).1 = nI j) ∧ (∀ j, j < n → j ≠ w → (q_hb E w b n).1 ≠ -6)
  | 0, _ => ⟨Or.inl rfl, fun j hj => absurd hj (by omega)⟩
  | n + 1, hn => by
    have ih := l_hb_in (E := E) (w := w) (b := b) (n := n) (by omega)
    unfold q_hb
    by_cases e : n = w
    · rw [if_pos e]
      refine ⟨ih.1.imp id (fun ⟨j, h1, h2⟩ => ⟨j, by omega, h2⟩), fun j hj hne => ih.2 j (by omega) hne⟩
    · rw [if_neg e]
      by_cases z : (q_hb E w b n).1 = -6
      · rw [if_pos z]
        exact ⟨Or.inr ⟨n, by omega, rfl⟩, fun j _ _ => x_nm6 (by omega)⟩
      · rw [if_neg z]
        split
        · exact ⟨ih.1.imp id (fun ⟨j, h1, h2⟩ => ⟨j, by omega, h2⟩), fun j hj hne => z⟩
        · exact ⟨Or.inr ⟨n, by omega, rfl⟩, fun j _ _ => x_nm6 (by omega)⟩
/-! what holds at each cut of 'same' -/
def I_1 (K : Nat) (M : xM) (k : Nat) (v1 v14 v15 v16 : Int32) (N : xM) : Prop := SI K M N ∧ ∃ i, i ≤ q_w N ∧ k = 1000000 + 1000 * (20 - i) + 900 ∧ v16 = nI i ∧ v14 = nI (q_cn (q_rd N) i) ∧ v15 = q_ea N i
def I_2 (K : Nat) (M : xM) (k : Nat) (v1 v14 v15 v16 v20 : Int32) (N : xM) : Prop := SI K M N ∧ ∃ i, i < q_w N ∧ k = 1000000 + 1000 * (20 - i) + 800 ∧ v16 = nI i ∧ v20 = x_b (q_rd N i = true) ∧ v14 = nI (q_cn (q_rd N) (i + 1)) ∧ v15 = q_ea N (i + 1)
def I_3 (K : Nat) (M : xM) (k : Nat) (v1 v14 v15 v16 v21 v22 v23 v24 : Int32) (N : xM) : Prop := SI K M N ∧ ∃ i j c m, i < q_w N ∧ q_rd N i = true ∧ q_w N ≠ 1 ∧ j ≤ q_w N ∧ k = 1000000 + 1000 * (20 - i) + 100 + (20 - j) ∧ v16 = nI i ∧ v24 = nI j ∧ v14 = nI (q_cn (q_rd N) (i + 1)) ∧ v15 = q_ea N (i + 1) ∧ c ≤ 20 ∧ m < 10000 ∧ v21 = nI (10000 * c + m) ∧ (q_turn N i none).2 = N 0 4 + nI m ∧ v22 = l_hb (q_hb N i (q_turn N i none).2 j).1 ∧ v23 = (q_hb N i (q_turn N i none).2 j).2
def I_4 (K : Nat) (M : xM) (k : Nat) (v1 v14 v15 v16 : Int32) (N : xM) : Prop := SI K M N ∧ ∃ i, i < q_w N ∧ k = 1000000 + 1000 * (20 - i) + 50 ∧ v16 = nI i ∧ v14 = nI (q_cn (q_rd N) (i + 1)) ∧ v15 = q_ea N (i + 1)
def I_5 (K : Nat) (M : xM) (k : Nat) (v14 v15 v16 : Int32) (N : xM) : Prop := SI K M N ∧ S_E v14 v15 N ∧ ∃ s, s ≤ q_s N ∧ k = 500000 + 1000 * (20 - s) + 900 ∧ v16 = nI s
def I_6 (K : Nat) (M : xM) (k : Nat) (v14 v15 v16 v17 v18 v19 : Int32) (N : xM) : Prop := SI K M N ∧ S_E v14 v15 N ∧ ∃ s j, s < q_s N ∧ j ≤ q_w N ∧ k = 500000 + 1000 * (20 - s) + 100 + (20 - j) ∧ v16 = nI s ∧ v19 = nI j ∧ v17 = q_nw N s j ∧ v18 = nI (q_cn (fun w => !q_rd (x_up N 1 1 (q_no (N 1 1) s)) w) j)
def I_7 (K : Nat) (M : xM) (k : Nat) (v14 v15 v16 : Int32) (N : xM) : Prop := SI K M N ∧ S_E v14 v15 N ∧ ∃ s, s < q_s N ∧ k = 500000 + 1000 * (20 - s) + 90 ∧ v16 = nI s
def I_8 (K : Nat) (M : xM) (k : Nat) (v14 v15 v16 v19 v20 v21 : Int32) (N : xM) : Prop := SI K M N ∧ S_E v14 v15 N ∧ ∃ s o u, s < q_s N ∧ o < q_s N ∧ u ≤ q_g N ∧ k = 500000 + 1000 * (20 - s) + (50 - u) ∧ v16 = nI s ∧ v19 = nI o ∧ v21 = nI u ∧ v20 = nI (if o = s then 0 else q_cn (fun u => decide (q_kt N s (some o) u ≠ -6)) u)
def I_9 (K : Nat) (M : xM) (k : Nat) (v14 v15 v16 : Int32) (N : xM) : Prop := SI K M N ∧ S_E v14 v15 N ∧ ∃ u, u ≤ q_g N ∧ k = 100000 + 1000 * (20 - u) + 900 ∧ v16 = nI u
def I_10 (K : Nat) (M : xM) (k : Nat) (v14 v15 v16 v17 v18 : Int32) (N : xM) : Prop := SI K M N ∧ S_E v14 v15 N ∧ ∃ u j, u < q_g N ∧ j ≤ q_s N ∧ k = 100000 + 1000 * (20 - u) + (20 - j) ∧ v16 = nI u ∧ v18 = nI j ∧ v17 = q_set (fun i => decide (q_kt N i none u ≠ -6)) j
def I_11 (K : Nat) (M : xM) (k : Nat) (v14 v15 v16 : Int32) (N : xM) : Prop := SI K M N ∧ S_E v14 v15 N ∧ ∃ j, j ≤ q_p N ∧ k = 10000 + (20 - j) ∧ v16 = nI j
def I_12 (K : Nat) (M : xM) (k : Nat) (v14 v15 : Int32) (N : xM) : Prop := SI K M N ∧ S_E v14 v15 N ∧ k = 0
def P_s (M : xM) (r : Int32) (N : xM) : Prop := r = 1 ∧ l_fs M N
