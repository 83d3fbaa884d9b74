/-! rules for the law's walk -/
def x_scr (x : xX) (g : xG) (b L : Nat) (xs : Nat → Int32) : Prop := match x with
  | (p, l, e, R, s, m, args, below, meth, c, cells, slots) => va_X b L xs s s.heap ∧ b < s.heap.size ∧ ¬ x_A g b
def x_lw (x : xX) (g : xG) (b : Nat) : Prop := match x with
  | (p, l, e, R, s, m, args, below, meth, c, cells, slots) => args = #[Value.ref b] ∧ x_A g = (fun q => s.heap.size ≤ q) ∧ meth.sig.returnType = ret ∧ meth.locks = false ∧ cells ≤ 600000 ∧ slots ≤ 7302250
def x_lQ (x : xX) (b : Nat) : State → Prop := match x with
  | (p, l, e, R, s, m, args, below, meth, c, cells, slots) => lw_Z below #[Value.ref b] s
variable {x : xX} {g : xG} {Rm : Room} {cc : ByteArray} {own : String} {n : Nat} {ws : List Cond} {Q : State → Prop} {M : xM} {pc : Nat} {ls : List (Nat × Value)} {st : List Value}
theorem x_sld {b L : Nat} {xs : Nat → Int32} {i : Int32} (hC : x_cx x g Rm cc own n ws) (hX : x_scr x g b L xs) (hin : vp_in i L) (hd : decode cc pc = .ok (.iaload, 1)) (kk : x_W x g n Q M (pc + 1) ls (.int (xs i.toNatClampNeg) :: st)) : x_W x g n Q M pc ls (.int i :: .ref b :: st) := by
  obtain ⟨p, l, e, R, s, m, args, below, meth, c, cells, slots⟩ := x
  obtain ⟨hx, hb, hml, hown, hts, hK, hN, rfl, hl0, hcc, hss⟩ := hC
  intro H locs la hP hD hS hl
  exact va_sld hx hb hX.1 hX.2.1 hX.2.2 hS hin hd (kk H locs la hP hD hS hl)
theorem x_slen {b L : Nat} {xs : Nat → Int32} (hC : x_cx x g Rm cc own n ws) (hX : x_scr x g b L xs) (hd : decode cc pc = .ok (.arraylength, 1)) (kk : x_W x g n Q M (pc + 1) ls (.int (nI L) :: st)) : x_W x g n Q M pc ls (.ref b :: st) := by
  obtain ⟨p, l, e, R, s, m, args, below, meth, c, cells, slots⟩ := x
  obtain ⟨hx, hb, hml, hown, hts, hK, hN, rfl, hl0, hcc, hss⟩ := hC
  intro H locs la hP hD hS hl
  exact va_slen hx hb hX.1 hX.2.1 hX.2.2 hS hd (kk H locs la hP hD hS hl)
theorem x_arg {b L k j : Nat} {z : Int} {xs : Nat → Int32} (hC : x_cx x g Rm cc own n ws) (hX : x_scr x g b L xs) (h0 : ls[3]? = some (0, .ref b)) (h3 : ls[0]? = some (3, .int (nI k))) (hz : Int32.ofInt z = nI j) (hk : k + j < L) (hL : L ≤ 2048) (d0 : decode cc pc = .ok (.aload_n 0, 1)) (d1 : decode cc (pc + 1) = .ok (.iload_n 3, 1)) (d2 : decode cc (pc + 1 + 1) = .ok (.iconst z, 1)) (d3 : decode cc (pc + 1 + 1 + 1) = .ok (.iadd, 1)) (d4 : decode cc (pc + 1 + 1 + 1 + 1) = .ok (.iaload, 1)) (kk : x_W x g n Q M (pc + 1 + 1 + 1 + 1 + 1) ls (.int (xs (k + j)) :: st)) : x_W x g n Q M pc ls st := by
  refine x_aload_n (i := 0) (q := 3) hC d0 rfl h0 ?_
  refine x_iload_n (i := 3) (q := 0) hC d1 rfl h3 ?_
  refine x_iconst (v := nI j) hC d2 hz ?_
  refine x_iadd hC d3 ?_
  rw [nI_add]
  refine x_sld hC hX (x_vi (n := k + j) hk (by omega)) d4 ?_
  rw [x_cl (by omega)]
  exact kk
theorem x_lret {b : Nat} (hC : x_cx x g room_1 code own n ws) (hW : x_lw x g b) (hd : decode code pc = .ok (.ireturn, 1)) : x_W x g n (x_lQ x b) M pc ls [.int 1] := by
  obtain ⟨p, l, e, R, s, m, args, below, meth, c, cells, slots⟩ := x
  obtain ⟨hx, hb, hml, hown, hts, hK, hN, rfl, hl0, hcc, hss⟩ := hC
  obtain ⟨rfl, hA, hr, hlk, hc1, hs1⟩ := hW
  intro H locs la hP hD hS hl
  refine va_forget (fun q hq => ?_) ?_
  · have := hS.2.2 q hq
    rw [hA] at this
    exact this
  · exact W.widen (k := 600000) (n := 7302250) hc1 hs1 (lw_ret hx hb hr hlk hd)
theorem x_m4 {L m : Nat} (hL : L ≤ 2048) (hm : m ≤ 2048) (h : ¬ nI L - 4 < nI m) : m + 4 ≤ L := by
  by_cases q : 4 ≤ L
  · have e : nI L - 4 = nI (L - 4) := by
      show nI L - nI 4 = nI (L - 4)
      have h4 : nI L = nI (L - 4) + nI 4 := by
        rw [nI_add]
        congr 1
        omega
      rw [h4]
      exact Int32.add_sub_cancel _ _
    rw [e, x_lt (by omega) (by omega)] at h
    omega
  · exfalso
    refine h ?_
    have d : ∀ k, k < 4 → (nI k - 4).toInt < 0 := by decide +kernel
    rw [Int32.lt_iff_toInt_lt, nI_toInt (by omega)]
    have := d L (by omega)
    omega
theorem lN_of (v : Int64) : ∃ u, u < 2 ^ 64 ∧ v = lN u := ⟨v.toBitVec.toNat, v.toBitVec.isLt, by
  show v = Int64.ofNat v.toBitVec.toNat
  apply Int64.toBitVec_inj.mp
  simp⟩
