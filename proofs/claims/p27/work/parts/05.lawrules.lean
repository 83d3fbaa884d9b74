/-! rules for the law's walk -/
def x_scr (x : xX) (g : xG) (b L : Nat) (xs : Nat → Int32) : Prop := match x with
  | (p, l, e, R, s, m, args, below, meth, c, cells, slots) => va_X b L xs s s.heap ∧ b < s.heap.size ∧ ¬ x_A g b
def x_lw (x : xX) (g : xG) (b : Nat) : Prop := match x with
  | (p, l, e, R, s, m, args, below, meth, c, cells, slots) => args = #[Value.ref b] ∧ x_A g = (fun q => s.heap.size ≤ q) ∧ meth.sig.returnType = ret ∧ meth.locks = false ∧ cells ≤ 600000 ∧ slots ≤ 7302250
def x_lQ (x : xX) (b : Nat) : State → Prop := match x with
  | (p, l, e, R, s, m, args, below, meth, c, cells, slots) => lw_Z below #[Value.ref b] s
variable {x : xX} {g : xG} {Rm : Room} {cc : ByteArray} {own : String} {n : Nat} {ws : List Cond} {Q : State → Prop} {M : xM} {pc : Nat} {ls : List (Nat × Value)} {st : List Value}
theorem x_sld {b L : Nat} {xs : Nat → Int32} {i : Int32} (hC : x_cx x g Rm cc own n ws) (hX : x_scr x g b L xs) (hin : vp_in i L) (hd : decode cc pc = .ok (.iaload, 1)) (kk : x_W x g n Q M (pc + 1) ls (.int (xs i.toNatClampNeg) :: st)) : x_W x g n Q M pc ls (.int i :: .ref b :: st) := by
  obtain ⟨p, l, e, R, s, m, args, below, meth, c, cells, slots⟩ := x
  obtain ⟨hx, hb, hml, hown, hts, hK, hN, rfl, hl0, hcc, hss⟩ := hC
  intro H locs la hP hD hS hl
  exact va_sld hx hb hX.1 hX.2.1 hX.2.2 hS hin hd (kk H locs la hP hD hS hl)
theorem x_slen {b L : Nat} {xs : Nat → Int32} (hC : x_cx x g Rm cc own n ws) (hX : x_scr x g b L xs) (hd : decode cc pc = .ok (.arraylength, 1)) (kk : x_W x g n Q M (pc + 1) ls (.int (nI L) :: st)) : x_W x g n Q M pc ls (.ref b :: st) := by
  obtain ⟨p, l, e, R, s, m, args, below, meth, c, cells, slots⟩ := x
  obtain ⟨hx, hb, hml, hown, hts, hK, hN, rfl, hl0, hcc, hss⟩ := hC
  intro H locs la hP hD hS hl
  exact va_slen hx hb hX.1 hX.2.1 hX.2.2 hS hd (kk H locs la hP hD hS hl)
theorem x_lret {b : Nat} (hC : x_cx x g room_1 code own n ws) (hW : x_lw x g b) (hd : decode code pc = .ok (.ireturn, 1)) : x_W x g n (x_lQ x b) M pc ls [.int 1] := by
  obtain ⟨p, l, e, R, s, m, args, below, meth, c, cells, slots⟩ := x
  obtain ⟨hx, hb, hml, hown, hts, hK, hN, rfl, hl0, hcc, hss⟩ := hC
  obtain ⟨rfl, hA, hr, hlk, hc1, hs1⟩ := hW
  intro H locs la hP hD hS hl
  refine va_forget (fun q hq => ?_) ?_
  · have := hS.2.2 q hq
    rw [hA] at this
    exact this
  · exact W.widen (k := 600000) (n := 7302250) hc1 hs1 (lw_ret hx hb hr hlk hd)
/-! the script's own method: any int, nothing else changed -/
def rm_L_cell : Room := { frames := 0, cells := 0, slots := 0, locals := 0 }
def x_cS (g : xG) (b L : Nat) (xs : Nat → Int32) (M : xM) (U : State) : Prop := x_wS g M U ∧ va_X b L xs U U.heap ∧ b < U.heap.size ∧ ¬ x_A g b
theorem x_blindC {g : xG} {as : List Value} {b L : Nat} {xs : Nat → Int32} {M : xM} : FrameBlind (va_Pc as (x_cS g b L xs M)) := fun a U f mk q => ⟨q.1, ⟨q.2.1.1, va_K.moved (u := U) (U := U.calling f mk a) (Vm.Alike.refl U.vm) q.2.1.2.1, q.2.1.2.2.1, x_nest_same (u := U) rfl q.2.1.2.2.2⟩, va_X.moved (u := U) (U := U.calling f mk a) (Vm.Alike.refl U.vm) q.2.2.1, q.2.2.2.1, q.2.2.2.2⟩
set_option maxRecDepth 100000 in
set_option maxHeartbeats 4000000 in
theorem ok_L_cell {g : xG} {b L : Nat} {xs : Nat → Int32} {v : Int32} (hL : L ≤ 260) (hv : vp_in v 30) (M : xM) : Met (x_l g) yL_cell wsL_cell rm_L_cell (va_Pc [.ref b, .int v] (x_cS g b L xs M)) (va_Qi (fun _ N => N = M) (x_wS g) (x_A g)) 0 0 (x_A g) := by
  refine Met.ofW (cc := cL_cell) (maxL := 2) (ret := some .int) (by decide) rfl ?_
  intro p e s m args below meth c s₁ B hml hv1
  obtain ⟨rfl, ⟨hP, hK, hD, hN⟩, hX, hbl, hbA⟩ := hv1
  have hfc : s.vm.findClass RL = some m.cls := findClass_of_methodNamed B.named
  have key : ∀ x : xX, x = (p, x_l g, e, rm_L_cell, s, m, ([.ref b, .int v] : List Value).toArray, below, meth, c, 0, 0) → x_cx x g rm_L_cell cL_cell RL 2 wsL_cell → x_rt x (some .int) → x_scr x g b L xs → x_W x g 2 (x_Qi x g (fun _ N => N = M)) M 0 [(0, .ref b), (1, .int v)] [] := by
    intro x _ hC hr hX
    obtain ⟨k, hk, rfl⟩ := vp_in_of hv (by decide)
    refine x_iload_n (i := 1) (q := 1) hC dL_cell_0 rfl rfl ?_
    refine x_aload_n (i := 0) (q := 0) hC dL_cell_1 rfl rfl ?_
    refine x_slen hC hX dL_cell_2 ?_
    refine x_icmp_ge (t := 12) hC dL_cell_3 (by decide) (fun q => ?_) (fun q => ?_)
    · refine x_ldc (i := 7) (v := 744459835) hC (by decide +kernel) dL_cell_12 ?_
      refine x_iload_n (i := 1) (q := 1) hC dL_cell_14 rfl rfl ?_
      refine x_iconst (v := 1) hC dL_cell_15 (by decide) ?_
      refine x_iadd hC dL_cell_16 ?_
      refine x_imul hC dL_cell_17 ?_
      refine x_ldc (i := 8) (v := 1672598679) hC (by decide +kernel) dL_cell_18 ?_
      refine x_iadd hC dL_cell_20 ?_
      exact x_iret hC hr dL_cell_21 rfl
    · refine x_aload_n (i := 0) (q := 0) hC dL_cell_6 rfl rfl ?_
      refine x_iload_n (i := 1) (q := 1) hC dL_cell_7 rfl rfl ?_
      refine x_sld hC hX ?_ dL_cell_8 ?_
      · exact vp_in_nI ((nI_ltI (by omega) (by omega)).mp (Int32.not_le.mp q)) (by omega)
      · refine x_goto (t := 21) hC dL_cell_9 (by decide) ?_
        exact x_iret hC hr dL_cell_21 rfl
  rw [lg_entry_eq]
  exact key _ rfl ⟨B.exec, B.bytes, hml, hfc, atoms_spec (ws := wsL_cell) B.pre, hK, hN, rfl, rfl, Nat.zero_le _, Nat.zero_le _⟩ ⟨B.returns, B.notSynchronized⟩ ⟨hX, hbl, hbA⟩ s.heap [] _ hP hD va_S.rf (lv_entry [.ref b, .int v] (Nat.le_of_ble_eq_true rfl))
theorem x_callCell {b L : Nat} {xs : Nat → Int32} {v : Int32} (hC : x_cx x g room_1 code RL n wsL_law) (hX : x_scr x g b L xs) (hL : L ≤ 260) (hv : vp_in v 30) (hst : (st.map fun v => v.category).sum ≤ 8) (hd : decode code pc = .ok (.invokestatic 79, 3)) (kk : ∀ r, x_W x g n Q M (pc + 3) ls (.int r :: st)) : x_W x g n Q M pc ls (.int v :: .ref b :: st) := by
  obtain ⟨p, l, e, R, s, m, args, below, meth, c, cells, slots⟩ := x
  obtain ⟨hx, hb, hml, hown, hts, hK, hN, rfl, hl0, hcc, hss⟩ := hC
  intro H locs la hP hD hS hl
  subst hl0
  obtain ⟨hX1, hX2, hX3⟩ := hX
  have hXH : va_X b L xs s H := hX1.kept (hS.2.1 b hX2 hX3)
  refine va_calli (va_runS (As := [.ref b, .int v]) (rest := st) ⟨hx, hb, hml, hown, hts⟩ (ok_L_cell (g := g) (b := b) (L := L) (xs := xs) hL hv M) (va_cwS 2 hts gL_law_L_cell rfl rfl rfl ⟨by decide, by decide, by decide +kernel⟩ ⟨Nat.le_of_ble_eq_true rfl, Nat.le_of_ble_eq_true rfl⟩) ⟨x_blindC, fun U hU hW => ⟨rfl, ⟨by rw [hU]; exact hP, va_K.moved hW.alike hK, hD, x_nest_warm hW hN⟩, by rw [hU]; exact va_X.moved hW.alike hXH, by rw [hU]; exact Nat.lt_of_lt_of_le hX2 hS.1, hX3⟩⟩ rfl rfl hl.1 rfl (lv_room hst) hd ⟨hcc, hss⟩) hS (fun q _ h => h) (fun q h => h) (fun r u t H1 locs1 ht hvm hp hB hz1 hk1 hS1 => ?_)
  have hp : u = M := hp
  subst hp
  exact kk r H1 locs1 la (ht ▸ hB.1) hB.2.2.1 hS1 hl
