variable {x : xX} {g : xG} {Rm : Room} {cc : ByteArray} {own : String} {n : Nat} {ws : List Cond} {Q : State → Prop} {M : xM} {pc : Nat} {ls : List (Nat × Value)} {st : List Value}
theorem x_iload_n {k : Fin 4} {i q : Nat} {v : Int32} (hC : x_cx x g Rm cc own n ws) (hd : decode cc pc = .ok (.iload_n k, 1)) (hi : (k : Nat) = i) (hq : ls[q]? = some (i, .int v)) (kk : x_W x g n Q M (pc + 1) ls (.int v :: st)) : x_W x g n Q M pc ls (st) := by
  obtain ⟨p, l, e, R, s, m, args, below, meth, c, cells, slots⟩ := x
  obtain ⟨hx, hb, hml, hown, hts, hK, hN, rfl, hl0, hcc, hss⟩ := hC
  intro H locs la hP hD hS hl
  exact lv_iload_n hx hb hd hi (lv_at hl q hq) (kk H locs la hP hD hS hl)
theorem x_iload {i q : Nat} {v : Int32} (hC : x_cx x g Rm cc own n ws) (hd : decode cc pc = .ok (.iload i, 2)) (hq : ls[q]? = some (i, .int v)) (kk : x_W x g n Q M (pc + 2) ls (.int v :: st)) : x_W x g n Q M pc ls (st) := by
  obtain ⟨p, l, e, R, s, m, args, below, meth, c, cells, slots⟩ := x
  obtain ⟨hx, hb, hml, hown, hts, hK, hN, rfl, hl0, hcc, hss⟩ := hC
  intro H locs la hP hD hS hl
  exact lv_iload hx hb hd (lv_at hl q hq) (kk H locs la hP hD hS hl)
theorem x_lload_n {k : Fin 4} {i q : Nat} {v : Int64} (hC : x_cx x g Rm cc own n ws) (hd : decode cc pc = .ok (.lload_n k, 1)) (hi : (k : Nat) = i) (hq : ls[q]? = some (i, .long v)) (kk : x_W x g n Q M (pc + 1) ls (.long v :: st)) : x_W x g n Q M pc ls (st) := by
  obtain ⟨p, l, e, R, s, m, args, below, meth, c, cells, slots⟩ := x
  obtain ⟨hx, hb, hml, hown, hts, hK, hN, rfl, hl0, hcc, hss⟩ := hC
  intro H locs la hP hD hS hl
  exact lv_lload_n hx hb hd hi (lv_at hl q hq) (kk H locs la hP hD hS hl)
theorem x_lload {i q : Nat} {v : Int64} (hC : x_cx x g Rm cc own n ws) (hd : decode cc pc = .ok (.lload i, 2)) (hq : ls[q]? = some (i, .long v)) (kk : x_W x g n Q M (pc + 2) ls (.long v :: st)) : x_W x g n Q M pc ls (st) := by
  obtain ⟨p, l, e, R, s, m, args, below, meth, c, cells, slots⟩ := x
  obtain ⟨hx, hb, hml, hown, hts, hK, hN, rfl, hl0, hcc, hss⟩ := hC
  intro H locs la hP hD hS hl
  exact lv_lload hx hb hd (lv_at hl q hq) (kk H locs la hP hD hS hl)
theorem x_aload_n {k : Fin 4} {i q : Nat} {v : Nat} (hC : x_cx x g Rm cc own n ws) (hd : decode cc pc = .ok (.aload_n k, 1)) (hi : (k : Nat) = i) (hq : ls[q]? = some (i, .ref v)) (kk : x_W x g n Q M (pc + 1) ls (.ref v :: st)) : x_W x g n Q M pc ls (st) := by
  obtain ⟨p, l, e, R, s, m, args, below, meth, c, cells, slots⟩ := x
  obtain ⟨hx, hb, hml, hown, hts, hK, hN, rfl, hl0, hcc, hss⟩ := hC
  intro H locs la hP hD hS hl
  exact lv_aload_n hx hb hd hi (lv_at hl q hq) (kk H locs la hP hD hS hl)
theorem x_aload {i q : Nat} {v : Nat} (hC : x_cx x g Rm cc own n ws) (hd : decode cc pc = .ok (.aload i, 2)) (hq : ls[q]? = some (i, .ref v)) (kk : x_W x g n Q M (pc + 2) ls (.ref v :: st)) : x_W x g n Q M pc ls (st) := by
  obtain ⟨p, l, e, R, s, m, args, below, meth, c, cells, slots⟩ := x
  obtain ⟨hx, hb, hml, hown, hts, hK, hN, rfl, hl0, hcc, hss⟩ := hC
  intro H locs la hP hD hS hl
  exact lv_aload hx hb hd (lv_at hl q hq) (kk H locs la hP hD hS hl)
theorem x_istore_n {k : Fin 4} {i : Nat} {v : Int32} {ls' : List (Nat × Value)} (hC : x_cx x g Rm cc own n ws) (hd : decode cc pc = .ok (.istore_n k, 1)) (hi : (k : Nat) = i) (hn : i < n) (hq : (i, Value.int v) :: ls.filter (fun q => !(q.1 == i) && !(q.1 + 1 == i && q.2.category == 2)) = ls') (kk : x_W x g n Q M (pc + 1) ls' (st)) : x_W x g n Q M pc ls (.int v :: st) := by
  obtain ⟨p, l, e, R, s, m, args, below, meth, c, cells, slots⟩ := x
  obtain ⟨hx, hb, hml, hown, hts, hK, hN, rfl, hl0, hcc, hss⟩ := hC
  intro H locs la hP hD hS hl
  exact lv_istore_n hx hb hd hi hl hn hq (fun la hl => (kk H locs la hP hD hS hl))
theorem x_istore {i : Nat} {v : Int32} {ls' : List (Nat × Value)} (hC : x_cx x g Rm cc own n ws) (hd : decode cc pc = .ok (.istore i, 2)) (hn : i < n) (hq : (i, Value.int v) :: ls.filter (fun q => !(q.1 == i) && !(q.1 + 1 == i && q.2.category == 2)) = ls') (kk : x_W x g n Q M (pc + 2) ls' (st)) : x_W x g n Q M pc ls (.int v :: st) := by
  obtain ⟨p, l, e, R, s, m, args, below, meth, c, cells, slots⟩ := x
  obtain ⟨hx, hb, hml, hown, hts, hK, hN, rfl, hl0, hcc, hss⟩ := hC
  intro H locs la hP hD hS hl
  exact lv_istore hx hb hd hl hn hq (fun la hl => (kk H locs la hP hD hS hl))
theorem x_lstore_n {k : Fin 4} {i : Nat} {v : Int64} {ls' : List (Nat × Value)} (hC : x_cx x g Rm cc own n ws) (hd : decode cc pc = .ok (.lstore_n k, 1)) (hi : (k : Nat) = i) (hn : i + 1 < n) (hq : (i, Value.long v) :: ls.filter (fun q => !(q.1 == i) && (!(q.1 == i + 1) && !(q.1 + 1 == i && q.2.category == 2))) = ls') (kk : x_W x g n Q M (pc + 1) ls' (st)) : x_W x g n Q M pc ls (.long v :: st) := by
  obtain ⟨p, l, e, R, s, m, args, below, meth, c, cells, slots⟩ := x
  obtain ⟨hx, hb, hml, hown, hts, hK, hN, rfl, hl0, hcc, hss⟩ := hC
  intro H locs la hP hD hS hl
  exact lv_lstore_n hx hb hd hi hl hn hq (fun la hl => (kk H locs la hP hD hS hl))
theorem x_lstore {i : Nat} {v : Int64} {ls' : List (Nat × Value)} (hC : x_cx x g Rm cc own n ws) (hd : decode cc pc = .ok (.lstore i, 2)) (hn : i + 1 < n) (hq : (i, Value.long v) :: ls.filter (fun q => !(q.1 == i) && (!(q.1 == i + 1) && !(q.1 + 1 == i && q.2.category == 2))) = ls') (kk : x_W x g n Q M (pc + 2) ls' (st)) : x_W x g n Q M pc ls (.long v :: st) := by
  obtain ⟨p, l, e, R, s, m, args, below, meth, c, cells, slots⟩ := x
  obtain ⟨hx, hb, hml, hown, hts, hK, hN, rfl, hl0, hcc, hss⟩ := hC
  intro H locs la hP hD hS hl
  exact lv_lstore hx hb hd hl hn hq (fun la hl => (kk H locs la hP hD hS hl))
theorem x_astore_n {k : Fin 4} {i : Nat} {v : Nat} {ls' : List (Nat × Value)} (hC : x_cx x g Rm cc own n ws) (hd : decode cc pc = .ok (.astore_n k, 1)) (hi : (k : Nat) = i) (hn : i < n) (hq : (i, Value.ref v) :: ls.filter (fun q => !(q.1 == i) && !(q.1 + 1 == i && q.2.category == 2)) = ls') (kk : x_W x g n Q M (pc + 1) ls' (st)) : x_W x g n Q M pc ls (.ref v :: st) := by
  obtain ⟨p, l, e, R, s, m, args, below, meth, c, cells, slots⟩ := x
  obtain ⟨hx, hb, hml, hown, hts, hK, hN, rfl, hl0, hcc, hss⟩ := hC
  intro H locs la hP hD hS hl
  exact lv_astore_n hx hb hd hi hl hn hq (fun la hl => (kk H locs la hP hD hS hl))
theorem x_astore {i : Nat} {v : Nat} {ls' : List (Nat × Value)} (hC : x_cx x g Rm cc own n ws) (hd : decode cc pc = .ok (.astore i, 2)) (hn : i < n) (hq : (i, Value.ref v) :: ls.filter (fun q => !(q.1 == i) && !(q.1 + 1 == i && q.2.category == 2)) = ls') (kk : x_W x g n Q M (pc + 2) ls' (st)) : x_W x g n Q M pc ls (.ref v :: st) := by
  obtain ⟨p, l, e, R, s, m, args, below, meth, c, cells, slots⟩ := x
  obtain ⟨hx, hb, hml, hown, hts, hK, hN, rfl, hl0, hcc, hss⟩ := hC
  intro H locs la hP hD hS hl
  exact lv_astore hx hb hd hl hn hq (fun la hl => (kk H locs la hP hD hS hl))
theorem x_iinc {i k : Nat} {z : Int} {v v' : Int32} {ls' : List (Nat × Value)} (hC : x_cx x g Rm cc own n ws) (hd : decode cc pc = .ok (.iinc i z, 3)) (hk : ls[k]? = some (i, .int v)) (hv : v + Int32.ofInt z = v') (hn : i < n) (hq : (i, Value.int v') :: ls.filter (fun q => !(q.1 == i) && !(q.1 + 1 == i && q.2.category == 2)) = ls') (kk : x_W x g n Q M (pc + 3) ls' (st)) : x_W x g n Q M pc ls (st) := by
  obtain ⟨p, l, e, R, s, m, args, below, meth, c, cells, slots⟩ := x
  obtain ⟨hx, hb, hml, hown, hts, hK, hN, rfl, hl0, hcc, hss⟩ := hC
  intro H locs la hP hD hS hl
  exact lv_iinc hx hb hd hl hk hv hn hq (fun la hl => kk H locs la hP hD hS hl)
theorem x_sub {ls' : List (Nat × Value)} (is : List Nat) (h : lv_pick ls is = ls') (kk : x_W x g n Q M pc ls' st) : x_W x g n Q M pc ls st := by
  obtain ⟨p, l, e, R, s, m, args, below, meth, c, cells, slots⟩ := x
  intro H locs la hP hD hS hl
  exact kk H locs la hP hD hS (lv_sub hl is h)
theorem x_iconst {z : Int} {v : Int32} (hC : x_cx x g Rm cc own n ws) (hd : decode cc pc = .ok (.iconst z, 1)) (hv : Int32.ofInt z = v) (kk : x_W x g n Q M (pc + 1) ls (.int v :: st)) : x_W x g n Q M pc ls (st) := by
  obtain ⟨p, l, e, R, s, m, args, below, meth, c, cells, slots⟩ := x
  obtain ⟨hx, hb, hml, hown, hts, hK, hN, rfl, hl0, hcc, hss⟩ := hC
  intro H locs la hP hD hS hl
  exact lv_iconst hx hb hd hv (kk H locs la hP hD hS hl)
theorem x_bipush {z : Int} {v : Int32} (hC : x_cx x g Rm cc own n ws) (hd : decode cc pc = .ok (.bipush z, 2)) (hv : (Int8.ofInt z).toInt32 = v) (kk : x_W x g n Q M (pc + 2) ls (.int v :: st)) : x_W x g n Q M pc ls (st) := by
  obtain ⟨p, l, e, R, s, m, args, below, meth, c, cells, slots⟩ := x
  obtain ⟨hx, hb, hml, hown, hts, hK, hN, rfl, hl0, hcc, hss⟩ := hC
  intro H locs la hP hD hS hl
  exact lv_bipush hx hb hd hv (kk H locs la hP hD hS hl)
theorem x_sipush {z : Int} {v : Int32} (hC : x_cx x g Rm cc own n ws) (hd : decode cc pc = .ok (.sipush z, 3)) (hv : (Int16.ofInt z).toInt32 = v) (kk : x_W x g n Q M (pc + 3) ls (.int v :: st)) : x_W x g n Q M pc ls (st) := by
  obtain ⟨p, l, e, R, s, m, args, below, meth, c, cells, slots⟩ := x
  obtain ⟨hx, hb, hml, hown, hts, hK, hN, rfl, hl0, hcc, hss⟩ := hC
  intro H locs la hP hD hS hl
  exact lv_sipush hx hb hd hv (kk H locs la hP hD hS hl)
theorem x_lconst {z : Fin 2} {v : Int64} (hC : x_cx x g Rm cc own n ws) (hd : decode cc pc = .ok (.lconst z, 1)) (hv : Int64.ofNat (z : Nat) = v) (kk : x_W x g n Q M (pc + 1) ls (.long v :: st)) : x_W x g n Q M pc ls (st) := by
  obtain ⟨p, l, e, R, s, m, args, below, meth, c, cells, slots⟩ := x
  obtain ⟨hx, hb, hml, hown, hts, hK, hN, rfl, hl0, hcc, hss⟩ := hC
  intro H locs la hP hD hS hl
  exact lv_lconst hx hb hd hv (kk H locs la hP hD hS hl)
theorem x_ldc2 {i : Nat} {v : Int64} (hC : x_cx x g Rm cc own n ws) (hw : Cond.constantLong own i v ∈ ws) (hd : decode cc pc = .ok (.ldc2_w i, 3)) (kk : x_W x g n Q M (pc + 3) ls (.long v :: st)) : x_W x g n Q M pc ls (st) := by
  obtain ⟨p, l, e, R, s, m, args, below, meth, c, cells, slots⟩ := x
  obtain ⟨hx, hb, hml, hown, hts, hK, hN, rfl, hl0, hcc, hss⟩ := hC
  intro H locs la hP hD hS hl
  exact lv_ldc2 hx hb hown (hts _ hw) hd (kk H locs la hP hD hS hl)
theorem x_ldcw {i : Nat} {v : Int32} (hC : x_cx x g Rm cc own n ws) (hw : Cond.constant own i v ∈ ws) (hd : decode cc pc = .ok (.ldc_w i, 3)) (kk : x_W x g n Q M (pc + 3) ls (.int v :: st)) : x_W x g n Q M pc ls (st) := by
  obtain ⟨p, l, e, R, s, m, args, below, meth, c, cells, slots⟩ := x
  obtain ⟨hx, hb, hml, hown, hts, hK, hN, rfl, hl0, hcc, hss⟩ := hC
  intro H locs la hP hD hS hl
  exact lv_ldcw hx hb hown (hts _ hw) hd (kk H locs la hP hD hS hl)
theorem x_iadd {v u : Int32} (hC : x_cx x g Rm cc own n ws) (hd : decode cc pc = .ok (.iadd, 1)) (kk : x_W x g n Q M (pc + 1) ls (.int (v + u) :: st)) : x_W x g n Q M pc ls (.int u :: .int v :: st) := by
  obtain ⟨p, l, e, R, s, m, args, below, meth, c, cells, slots⟩ := x
  obtain ⟨hx, hb, hml, hown, hts, hK, hN, rfl, hl0, hcc, hss⟩ := hC
  intro H locs la hP hD hS hl
  exact lv_iadd hx hb hd (kk H locs la hP hD hS hl)
theorem x_isub {v u : Int32} (hC : x_cx x g Rm cc own n ws) (hd : decode cc pc = .ok (.isub, 1)) (kk : x_W x g n Q M (pc + 1) ls (.int (v - u) :: st)) : x_W x g n Q M pc ls (.int u :: .int v :: st) := by
  obtain ⟨p, l, e, R, s, m, args, below, meth, c, cells, slots⟩ := x
  obtain ⟨hx, hb, hml, hown, hts, hK, hN, rfl, hl0, hcc, hss⟩ := hC
  intro H locs la hP hD hS hl
  exact lv_isub hx hb hd (kk H locs la hP hD hS hl)
theorem x_imul {v u : Int32} (hC : x_cx x g Rm cc own n ws) (hd : decode cc pc = .ok (.imul, 1)) (kk : x_W x g n Q M (pc + 1) ls (.int (v * u) :: st)) : x_W x g n Q M pc ls (.int u :: .int v :: st) := by
  obtain ⟨p, l, e, R, s, m, args, below, meth, c, cells, slots⟩ := x
  obtain ⟨hx, hb, hml, hown, hts, hK, hN, rfl, hl0, hcc, hss⟩ := hC
  intro H locs la hP hD hS hl
  exact lv_imul hx hb hd (kk H locs la hP hD hS hl)
theorem x_iand {v u : Int32} (hC : x_cx x g Rm cc own n ws) (hd : decode cc pc = .ok (.iand, 1)) (kk : x_W x g n Q M (pc + 1) ls (.int (v &&& u) :: st)) : x_W x g n Q M pc ls (.int u :: .int v :: st) := by
  obtain ⟨p, l, e, R, s, m, args, below, meth, c, cells, slots⟩ := x
  obtain ⟨hx, hb, hml, hown, hts, hK, hN, rfl, hl0, hcc, hss⟩ := hC
  intro H locs la hP hD hS hl
  exact lv_iand hx hb hd (kk H locs la hP hD hS hl)
theorem x_ior {v u : Int32} (hC : x_cx x g Rm cc own n ws) (hd : decode cc pc = .ok (.ior, 1)) (kk : x_W x g n Q M (pc + 1) ls (.int (v ||| u) :: st)) : x_W x g n Q M pc ls (.int u :: .int v :: st) := by
  obtain ⟨p, l, e, R, s, m, args, below, meth, c, cells, slots⟩ := x
  obtain ⟨hx, hb, hml, hown, hts, hK, hN, rfl, hl0, hcc, hss⟩ := hC
  intro H locs la hP hD hS hl
  exact lv_ior hx hb hd (kk H locs la hP hD hS hl)
theorem x_ixor {v u : Int32} (hC : x_cx x g Rm cc own n ws) (hd : decode cc pc = .ok (.ixor, 1)) (kk : x_W x g n Q M (pc + 1) ls (.int (v ^^^ u) :: st)) : x_W x g n Q M pc ls (.int u :: .int v :: st) := by
  obtain ⟨p, l, e, R, s, m, args, below, meth, c, cells, slots⟩ := x
  obtain ⟨hx, hb, hml, hown, hts, hK, hN, rfl, hl0, hcc, hss⟩ := hC
  intro H locs la hP hD hS hl
  exact lv_ixor hx hb hd (kk H locs la hP hD hS hl)
theorem x_ishl {v u : Int32} (hC : x_cx x g Rm cc own n ws) (hd : decode cc pc = .ok (.ishl, 1)) (kk : x_W x g n Q M (pc + 1) ls (.int (v <<< (u &&& 31)) :: st)) : x_W x g n Q M pc ls (.int u :: .int v :: st) := by
  obtain ⟨p, l, e, R, s, m, args, below, meth, c, cells, slots⟩ := x
  obtain ⟨hx, hb, hml, hown, hts, hK, hN, rfl, hl0, hcc, hss⟩ := hC
  intro H locs la hP hD hS hl
  exact lv_ishl hx hb hd (kk H locs la hP hD hS hl)
theorem x_ishr {v u : Int32} (hC : x_cx x g Rm cc own n ws) (hd : decode cc pc = .ok (.ishr, 1)) (kk : x_W x g n Q M (pc + 1) ls (.int (v >>> (u &&& 31)) :: st)) : x_W x g n Q M pc ls (.int u :: .int v :: st) := by
  obtain ⟨p, l, e, R, s, m, args, below, meth, c, cells, slots⟩ := x
  obtain ⟨hx, hb, hml, hown, hts, hK, hN, rfl, hl0, hcc, hss⟩ := hC
  intro H locs la hP hD hS hl
  exact lv_ishr hx hb hd (kk H locs la hP hD hS hl)
theorem x_ladd {v u : Int64} (hC : x_cx x g Rm cc own n ws) (hd : decode cc pc = .ok (.ladd, 1)) (kk : x_W x g n Q M (pc + 1) ls (.long (v + u) :: st)) : x_W x g n Q M pc ls (.long u :: .long v :: st) := by
  obtain ⟨p, l, e, R, s, m, args, below, meth, c, cells, slots⟩ := x
  obtain ⟨hx, hb, hml, hown, hts, hK, hN, rfl, hl0, hcc, hss⟩ := hC
  intro H locs la hP hD hS hl
  exact lv_ladd hx hb hd (kk H locs la hP hD hS hl)
theorem x_lsub {v u : Int64} (hC : x_cx x g Rm cc own n ws) (hd : decode cc pc = .ok (.lsub, 1)) (kk : x_W x g n Q M (pc + 1) ls (.long (v - u) :: st)) : x_W x g n Q M pc ls (.long u :: .long v :: st) := by
  obtain ⟨p, l, e, R, s, m, args, below, meth, c, cells, slots⟩ := x
  obtain ⟨hx, hb, hml, hown, hts, hK, hN, rfl, hl0, hcc, hss⟩ := hC
  intro H locs la hP hD hS hl
  exact lv_lsub hx hb hd (kk H locs la hP hD hS hl)
theorem x_land {v u : Int64} (hC : x_cx x g Rm cc own n ws) (hd : decode cc pc = .ok (.land, 1)) (kk : x_W x g n Q M (pc + 1) ls (.long (v &&& u) :: st)) : x_W x g n Q M pc ls (.long u :: .long v :: st) := by
  obtain ⟨p, l, e, R, s, m, args, below, meth, c, cells, slots⟩ := x
  obtain ⟨hx, hb, hml, hown, hts, hK, hN, rfl, hl0, hcc, hss⟩ := hC
  intro H locs la hP hD hS hl
  exact lv_land hx hb hd (kk H locs la hP hD hS hl)
theorem x_lor {v u : Int64} (hC : x_cx x g Rm cc own n ws) (hd : decode cc pc = .ok (.lor, 1)) (kk : x_W x g n Q M (pc + 1) ls (.long (v ||| u) :: st)) : x_W x g n Q M pc ls (.long u :: .long v :: st) := by
  obtain ⟨p, l, e, R, s, m, args, below, meth, c, cells, slots⟩ := x
  obtain ⟨hx, hb, hml, hown, hts, hK, hN, rfl, hl0, hcc, hss⟩ := hC
  intro H locs la hP hD hS hl
  exact lv_lor hx hb hd (kk H locs la hP hD hS hl)
theorem x_lxor {v u : Int64} (hC : x_cx x g Rm cc own n ws) (hd : decode cc pc = .ok (.lxor, 1)) (kk : x_W x g n Q M (pc + 1) ls (.long (v ^^^ u) :: st)) : x_W x g n Q M pc ls (.long u :: .long v :: st) := by
  obtain ⟨p, l, e, R, s, m, args, below, meth, c, cells, slots⟩ := x
  obtain ⟨hx, hb, hml, hown, hts, hK, hN, rfl, hl0, hcc, hss⟩ := hC
  intro H locs la hP hD hS hl
  exact lv_lxor hx hb hd (kk H locs la hP hD hS hl)
theorem x_ineg {v : Int32} (hC : x_cx x g Rm cc own n ws) (hd : decode cc pc = .ok (.ineg, 1)) (kk : x_W x g n Q M (pc + 1) ls (.int (-v) :: st)) : x_W x g n Q M pc ls (.int v :: st) := by
  obtain ⟨p, l, e, R, s, m, args, below, meth, c, cells, slots⟩ := x
  obtain ⟨hx, hb, hml, hown, hts, hK, hN, rfl, hl0, hcc, hss⟩ := hC
  intro H locs la hP hD hS hl
  exact lv_ineg hx hb hd (kk H locs la hP hD hS hl)
theorem x_iushr {v u : Int32} (hC : x_cx x g Rm cc own n ws) (hd : decode cc pc = .ok (.iushr, 1)) (kk : x_W x g n Q M (pc + 1) ls (.int (v.toUInt32 >>> (u.toUInt32 &&& Int32.toUInt32 31)).toInt32 :: st)) : x_W x g n Q M pc ls (.int u :: .int v :: st) := by
  obtain ⟨p, l, e, R, s, m, args, below, meth, c, cells, slots⟩ := x
  obtain ⟨hx, hb, hml, hown, hts, hK, hN, rfl, hl0, hcc, hss⟩ := hC
  intro H locs la hP hD hS hl
  exact lv_iushr hx hb hd rfl (kk H locs la hP hD hS hl)
theorem x_lushr {v : Int64} {u : Int32} (hC : x_cx x g Rm cc own n ws) (hd : decode cc pc = .ok (.lushr, 1)) (kk : x_W x g n Q M (pc + 1) ls (.long (v.toUInt64 >>> (u.toInt64.toUInt64 &&& Int64.toUInt64 63)).toInt64 :: st)) : x_W x g n Q M pc ls (.int u :: .long v :: st) := by
  obtain ⟨p, l, e, R, s, m, args, below, meth, c, cells, slots⟩ := x
  obtain ⟨hx, hb, hml, hown, hts, hK, hN, rfl, hl0, hcc, hss⟩ := hC
  intro H locs la hP hD hS hl
  exact lv_lushr hx hb hd rfl (kk H locs la hP hD hS hl)
theorem x_lshl {v : Int64} {u : Int32} (hC : x_cx x g Rm cc own n ws) (hd : decode cc pc = .ok (.lshl, 1)) (kk : x_W x g n Q M (pc + 1) ls (.long (v <<< (u.toInt64 &&& 63)) :: st)) : x_W x g n Q M pc ls (.int u :: .long v :: st) := by
  obtain ⟨p, l, e, R, s, m, args, below, meth, c, cells, slots⟩ := x
  obtain ⟨hx, hb, hml, hown, hts, hK, hN, rfl, hl0, hcc, hss⟩ := hC
  intro H locs la hP hD hS hl
  exact lv_lshl hx hb hd rfl (kk H locs la hP hD hS hl)
theorem x_i2l {v : Int32} (hC : x_cx x g Rm cc own n ws) (hd : decode cc pc = .ok (.i2l, 1)) (kk : x_W x g n Q M (pc + 1) ls (.long v.toInt64 :: st)) : x_W x g n Q M pc ls (.int v :: st) := by
  obtain ⟨p, l, e, R, s, m, args, below, meth, c, cells, slots⟩ := x
  obtain ⟨hx, hb, hml, hown, hts, hK, hN, rfl, hl0, hcc, hss⟩ := hC
  intro H locs la hP hD hS hl
  exact lv_i2l hx hb hd rfl (kk H locs la hP hD hS hl)
theorem x_l2i {v : Int64} (hC : x_cx x g Rm cc own n ws) (hd : decode cc pc = .ok (.l2i, 1)) (kk : x_W x g n Q M (pc + 1) ls (.int v.toInt32 :: st)) : x_W x g n Q M pc ls (.long v :: st) := by
  obtain ⟨p, l, e, R, s, m, args, below, meth, c, cells, slots⟩ := x
  obtain ⟨hx, hb, hml, hown, hts, hK, hN, rfl, hl0, hcc, hss⟩ := hC
  intro H locs la hP hD hS hl
  exact lv_l2i hx hb hd rfl (kk H locs la hP hD hS hl)
theorem x_i2c {v : Int32} (hC : x_cx x g Rm cc own n ws) (hd : decode cc pc = .ok (.i2c, 1)) (kk : x_W x g n Q M (pc + 1) ls (.int (v.toUInt32 % 65536).toInt32 :: st)) : x_W x g n Q M pc ls (.int v :: st) := by
  obtain ⟨p, l, e, R, s, m, args, below, meth, c, cells, slots⟩ := x
  obtain ⟨hx, hb, hml, hown, hts, hK, hN, rfl, hl0, hcc, hss⟩ := hC
  intro H locs la hP hD hS hl
  exact lv_i2c hx hb hd rfl (kk H locs la hP hD hS hl)
theorem x_lcmp {v u : Int64} (hC : x_cx x g Rm cc own n ws) (hd : decode cc pc = .ok (.lcmp, 1)) (kk : x_W x g n Q M (pc + 1) ls (.int (lg_cmp v u) :: st)) : x_W x g n Q M pc ls (.long u :: .long v :: st) := by
  obtain ⟨p, l, e, R, s, m, args, below, meth, c, cells, slots⟩ := x
  obtain ⟨hx, hb, hml, hown, hts, hK, hN, rfl, hl0, hcc, hss⟩ := hC
  intro H locs la hP hD hS hl
  exact W.lcmp hx hb hd (kk H locs la hP hD hS hl)
theorem x_dup {v : Value} (hC : x_cx x g Rm cc own n ws) (hd : decode cc pc = .ok (.dup, 1)) (hv : v.category = 1) (kk : x_W x g n Q M (pc + 1) ls (v :: v :: st)) : x_W x g n Q M pc ls (v :: st) := by
  obtain ⟨p, l, e, R, s, m, args, below, meth, c, cells, slots⟩ := x
  obtain ⟨hx, hb, hml, hown, hts, hK, hN, rfl, hl0, hcc, hss⟩ := hC
  intro H locs la hP hD hS hl
  exact lv_dup hx hb hd hv (kk H locs la hP hD hS hl)
theorem x_dup2 {v u : Value} (hC : x_cx x g Rm cc own n ws) (hd : decode cc pc = .ok (.dup2, 1)) (hv : v.category = 1) (hu : u.category = 1) (kk : x_W x g n Q M (pc + 1) ls (v :: u :: v :: u :: st)) : x_W x g n Q M pc ls (v :: u :: st) := by
  obtain ⟨p, l, e, R, s, m, args, below, meth, c, cells, slots⟩ := x
  obtain ⟨hx, hb, hml, hown, hts, hK, hN, rfl, hl0, hcc, hss⟩ := hC
  intro H locs la hP hD hS hl
  exact lv_dup2_11 hx hb hd hv hu (kk H locs la hP hD hS hl)
theorem x_pop {v : Value} (hC : x_cx x g Rm cc own n ws) (hd : decode cc pc = .ok (.pop, 1)) (hv : v.category = 1) (kk : x_W x g n Q M (pc + 1) ls (st)) : x_W x g n Q M pc ls (v :: st) := by
  obtain ⟨p, l, e, R, s, m, args, below, meth, c, cells, slots⟩ := x
  obtain ⟨hx, hb, hml, hown, hts, hK, hN, rfl, hl0, hcc, hss⟩ := hC
  intro H locs la hP hD hS hl
  exact lv_pop hx hb hd hv (kk H locs la hP hD hS hl)
theorem x_goto {o : Int} {t : Nat} (hC : x_cx x g Rm cc own n ws) (hd : decode cc pc = .ok (.goto o, 3)) (ht : (pc : Int) + o = (t : Int)) (kk : x_W x g n Q M t ls (st)) : x_W x g n Q M pc ls (st) := by
  obtain ⟨p, l, e, R, s, m, args, below, meth, c, cells, slots⟩ := x
  obtain ⟨hx, hb, hml, hown, hts, hK, hN, rfl, hl0, hcc, hss⟩ := hC
  intro H locs la hP hD hS hl
  exact lv_goto hx hb hd ht (kk H locs la hP hD hS hl)
theorem x_if_eq {v : Int32} {o : Int} {t : Nat} (hC : x_cx x g Rm cc own n ws) (hd : decode cc pc = .ok (.ifCond .eq o, 3)) (ht : (pc : Int) + o = (t : Int)) (kt : v = 0 → x_W x g n Q M t ls st) (kf : ¬ (v = 0) → x_W x g n Q M (pc + 3) ls st) : x_W x g n Q M pc ls (.int v :: st) := by
  obtain ⟨p, l, e, R, s, m, args, below, meth, c, cells, slots⟩ := x
  obtain ⟨hx, hb, hml, hown, hts, hK, hN, rfl, hl0, hcc, hss⟩ := hC
  intro H locs la hP hD hS hl
  exact lv_if_eq hx hb hd ht (fun q => kt q H locs la hP hD hS hl) (fun q => kf q H locs la hP hD hS hl)
theorem x_if_ne {v : Int32} {o : Int} {t : Nat} (hC : x_cx x g Rm cc own n ws) (hd : decode cc pc = .ok (.ifCond .ne o, 3)) (ht : (pc : Int) + o = (t : Int)) (kt : ¬ v = 0 → x_W x g n Q M t ls st) (kf : v = 0 → x_W x g n Q M (pc + 3) ls st) : x_W x g n Q M pc ls (.int v :: st) := by
  obtain ⟨p, l, e, R, s, m, args, below, meth, c, cells, slots⟩ := x
  obtain ⟨hx, hb, hml, hown, hts, hK, hN, rfl, hl0, hcc, hss⟩ := hC
  intro H locs la hP hD hS hl
  exact lv_if_ne hx hb hd ht (fun q => kt q H locs la hP hD hS hl) (fun q => kf q H locs la hP hD hS hl)
theorem x_if_lt {v : Int32} {o : Int} {t : Nat} (hC : x_cx x g Rm cc own n ws) (hd : decode cc pc = .ok (.ifCond .lt o, 3)) (ht : (pc : Int) + o = (t : Int)) (kt : v < 0 → x_W x g n Q M t ls st) (kf : ¬ (v < 0) → x_W x g n Q M (pc + 3) ls st) : x_W x g n Q M pc ls (.int v :: st) := by
  obtain ⟨p, l, e, R, s, m, args, below, meth, c, cells, slots⟩ := x
  obtain ⟨hx, hb, hml, hown, hts, hK, hN, rfl, hl0, hcc, hss⟩ := hC
  intro H locs la hP hD hS hl
  exact lv_if_lt hx hb hd ht (fun q => kt q H locs la hP hD hS hl) (fun q => kf q H locs la hP hD hS hl)
theorem x_if_ge {v : Int32} {o : Int} {t : Nat} (hC : x_cx x g Rm cc own n ws) (hd : decode cc pc = .ok (.ifCond .ge o, 3)) (ht : (pc : Int) + o = (t : Int)) (kt : 0 ≤ v → x_W x g n Q M t ls st) (kf : ¬ (0 ≤ v) → x_W x g n Q M (pc + 3) ls st) : x_W x g n Q M pc ls (.int v :: st) := by
  obtain ⟨p, l, e, R, s, m, args, below, meth, c, cells, slots⟩ := x
  obtain ⟨hx, hb, hml, hown, hts, hK, hN, rfl, hl0, hcc, hss⟩ := hC
  intro H locs la hP hD hS hl
  exact lv_if_ge hx hb hd ht (fun q => kt q H locs la hP hD hS hl) (fun q => kf q H locs la hP hD hS hl)
theorem x_if_gt {v : Int32} {o : Int} {t : Nat} (hC : x_cx x g Rm cc own n ws) (hd : decode cc pc = .ok (.ifCond .gt o, 3)) (ht : (pc : Int) + o = (t : Int)) (kt : 0 < v → x_W x g n Q M t ls st) (kf : ¬ (0 < v) → x_W x g n Q M (pc + 3) ls st) : x_W x g n Q M pc ls (.int v :: st) := by
  obtain ⟨p, l, e, R, s, m, args, below, meth, c, cells, slots⟩ := x
  obtain ⟨hx, hb, hml, hown, hts, hK, hN, rfl, hl0, hcc, hss⟩ := hC
  intro H locs la hP hD hS hl
  exact lv_if_gt hx hb hd ht (fun q => kt q H locs la hP hD hS hl) (fun q => kf q H locs la hP hD hS hl)
theorem x_if_le {v : Int32} {o : Int} {t : Nat} (hC : x_cx x g Rm cc own n ws) (hd : decode cc pc = .ok (.ifCond .le o, 3)) (ht : (pc : Int) + o = (t : Int)) (kt : v ≤ 0 → x_W x g n Q M t ls st) (kf : ¬ (v ≤ 0) → x_W x g n Q M (pc + 3) ls st) : x_W x g n Q M pc ls (.int v :: st) := by
  obtain ⟨p, l, e, R, s, m, args, below, meth, c, cells, slots⟩ := x
  obtain ⟨hx, hb, hml, hown, hts, hK, hN, rfl, hl0, hcc, hss⟩ := hC
  intro H locs la hP hD hS hl
  exact lv_if_le hx hb hd ht (fun q => kt q H locs la hP hD hS hl) (fun q => kf q H locs la hP hD hS hl)
theorem x_icmp_eq {v u : Int32} {o : Int} {t : Nat} (hC : x_cx x g Rm cc own n ws) (hd : decode cc pc = .ok (.if_icmp .eq o, 3)) (ht : (pc : Int) + o = (t : Int)) (kt : v = u → x_W x g n Q M t ls st) (kf : ¬ (v = u) → x_W x g n Q M (pc + 3) ls st) : x_W x g n Q M pc ls (.int u :: .int v :: st) := by
  obtain ⟨p, l, e, R, s, m, args, below, meth, c, cells, slots⟩ := x
  obtain ⟨hx, hb, hml, hown, hts, hK, hN, rfl, hl0, hcc, hss⟩ := hC
  intro H locs la hP hD hS hl
  exact lv_icmp_eq hx hb hd ht (fun q => kt q H locs la hP hD hS hl) (fun q => kf q H locs la hP hD hS hl)
theorem x_icmp_ne {v u : Int32} {o : Int} {t : Nat} (hC : x_cx x g Rm cc own n ws) (hd : decode cc pc = .ok (.if_icmp .ne o, 3)) (ht : (pc : Int) + o = (t : Int)) (kt : ¬ v = u → x_W x g n Q M t ls st) (kf : v = u → x_W x g n Q M (pc + 3) ls st) : x_W x g n Q M pc ls (.int u :: .int v :: st) := by
  obtain ⟨p, l, e, R, s, m, args, below, meth, c, cells, slots⟩ := x
  obtain ⟨hx, hb, hml, hown, hts, hK, hN, rfl, hl0, hcc, hss⟩ := hC
  intro H locs la hP hD hS hl
  exact lv_icmp_ne hx hb hd ht (fun q => kt q H locs la hP hD hS hl) (fun q => kf q H locs la hP hD hS hl)
theorem x_icmp_lt {v u : Int32} {o : Int} {t : Nat} (hC : x_cx x g Rm cc own n ws) (hd : decode cc pc = .ok (.if_icmp .lt o, 3)) (ht : (pc : Int) + o = (t : Int)) (kt : v < u → x_W x g n Q M t ls st) (kf : ¬ (v < u) → x_W x g n Q M (pc + 3) ls st) : x_W x g n Q M pc ls (.int u :: .int v :: st) := by
  obtain ⟨p, l, e, R, s, m, args, below, meth, c, cells, slots⟩ := x
  obtain ⟨hx, hb, hml, hown, hts, hK, hN, rfl, hl0, hcc, hss⟩ := hC
  intro H locs la hP hD hS hl
  exact lv_icmp_lt hx hb hd ht (fun q => kt q H locs la hP hD hS hl) (fun q => kf q H locs la hP hD hS hl)
theorem x_icmp_ge {v u : Int32} {o : Int} {t : Nat} (hC : x_cx x g Rm cc own n ws) (hd : decode cc pc = .ok (.if_icmp .ge o, 3)) (ht : (pc : Int) + o = (t : Int)) (kt : u ≤ v → x_W x g n Q M t ls st) (kf : ¬ (u ≤ v) → x_W x g n Q M (pc + 3) ls st) : x_W x g n Q M pc ls (.int u :: .int v :: st) := by
  obtain ⟨p, l, e, R, s, m, args, below, meth, c, cells, slots⟩ := x
  obtain ⟨hx, hb, hml, hown, hts, hK, hN, rfl, hl0, hcc, hss⟩ := hC
  intro H locs la hP hD hS hl
  exact lv_icmp_ge hx hb hd ht (fun q => kt q H locs la hP hD hS hl) (fun q => kf q H locs la hP hD hS hl)
theorem x_icmp_gt {v u : Int32} {o : Int} {t : Nat} (hC : x_cx x g Rm cc own n ws) (hd : decode cc pc = .ok (.if_icmp .gt o, 3)) (ht : (pc : Int) + o = (t : Int)) (kt : u < v → x_W x g n Q M t ls st) (kf : ¬ (u < v) → x_W x g n Q M (pc + 3) ls st) : x_W x g n Q M pc ls (.int u :: .int v :: st) := by
  obtain ⟨p, l, e, R, s, m, args, below, meth, c, cells, slots⟩ := x
  obtain ⟨hx, hb, hml, hown, hts, hK, hN, rfl, hl0, hcc, hss⟩ := hC
  intro H locs la hP hD hS hl
  exact lv_icmp_gt hx hb hd ht (fun q => kt q H locs la hP hD hS hl) (fun q => kf q H locs la hP hD hS hl)
theorem x_icmp_le {v u : Int32} {o : Int} {t : Nat} (hC : x_cx x g Rm cc own n ws) (hd : decode cc pc = .ok (.if_icmp .le o, 3)) (ht : (pc : Int) + o = (t : Int)) (kt : v ≤ u → x_W x g n Q M t ls st) (kf : ¬ (v ≤ u) → x_W x g n Q M (pc + 3) ls st) : x_W x g n Q M pc ls (.int u :: .int v :: st) := by
  obtain ⟨p, l, e, R, s, m, args, below, meth, c, cells, slots⟩ := x
  obtain ⟨hx, hb, hml, hown, hts, hK, hN, rfl, hl0, hcc, hss⟩ := hC
  intro H locs la hP hD hS hl
  exact lv_icmp_le hx hb hd ht (fun q => kt q H locs la hP hD hS hl) (fun q => kf q H locs la hP hD hS hl)
def x_okf (ws : List Cond) (own : String) (idx ci k : Nat) : Bool := match vwCl[ci]? with
  | none => false
  | some q => decide (k < q.2.2) && (u_ws q.1 q.2.1 q.2.2).all (fun w => decide (w ∈ ws)) && decide (Cond.fieldLink own idx (q.2.1 k).1 (q.2.1 k).2.1 (q.2.1 k).2.2.1 ∈ ws)
theorem x_okf_spec {ws : List Cond} {own : String} {idx ci k : Nat} (h : x_okf ws own idx ci k = true) : ∃ q : vw_C, vwCl[ci]? = some q ∧ k < q.2.2 ∧ (∀ w ∈ u_ws q.1 q.2.1 q.2.2, w ∈ ws) ∧ Cond.fieldLink own idx (q.2.1 k).1 (q.2.1 k).2.1 (q.2.1 k).2.2.1 ∈ ws := by
  unfold x_okf at h
  split at h
  · cases h
  · rename_i q hq
    simp only [Bool.and_eq_true, decide_eq_true_eq, List.all_eq_true] at h
    exact ⟨q, hq, h.1.1, h.1.2, h.2⟩
def x_okp (ci k : Nat) : Bool := match vwCl[ci]? with
  | none => false
  | some q => decide ((q.2.1 k).2.2.2 = false) && decide (parseFieldDescriptor (q.2.1 k).2.2.1 = some .int)
theorem x_okp_spec {ci k : Nat} (h : x_okp ci k = true) {q : vw_C} (hq : vwCl[ci]? = some q) : (q.2.1 k).2.2.2 = false ∧ parseFieldDescriptor (q.2.1 k).2.2.1 = some .int := by
  unfold x_okp at h
  rw [hq] at h
  simpa only [Bool.and_eq_true, decide_eq_true_eq] using h
theorem x_clsok {ci : Nat} {q : vw_C} (h : vwCl[ci]? = some q) : ∃ ty0 : Nat → FieldType, (∀ k, k < q.2.2 → parseFieldDescriptor (q.2.1 k).2.2.1 = some (ty0 k)) ∧ (∀ a, a < q.2.2 → ∀ b, b < q.2.2 → a ≠ b → (q.2.1 a).2.1 ≠ (q.2.1 b).2.1) := by
  have hlt : ci < 10 := (List.getElem?_eq_some_iff.mp h).1
  match ci, hlt, h with
  | 0, _, h => cases h; exact ⟨tyX0, tyX0_ok, nmX0⟩
  | 1, _, h => cases h; exact ⟨tyX1, tyX1_ok, nmX1⟩
  | 2, _, h => cases h; exact ⟨tyX2, tyX2_ok, nmX2⟩
  | 3, _, h => cases h; exact ⟨tyX3, tyX3_ok, nmX3⟩
  | 4, _, h => cases h; exact ⟨tyX4, tyX4_ok, nmX4⟩
  | 5, _, h => cases h; exact ⟨tyX5, tyX5_ok, nmX5⟩
  | 6, _, h => cases h; exact ⟨tyX6, tyX6_ok, nmX6⟩
  | 7, _, h => cases h; exact ⟨tyX7, tyX7_ok, nmX7⟩
  | 8, _, h => cases h; exact ⟨tyX8, tyX8_ok, nmX8⟩
  | 9, _, h => cases h; exact ⟨tyX9, tyX9_ok, nmX9⟩
theorem x_geti {a ci k idx : Nat} {fs : List (Option Nat)} (hC : x_cx x g Rm cc own n ws) (ho : x_isO a ci fs) (hf : fs[k]? = some none) (hk : x_okf ws own idx ci k = true) (hd : decode cc pc = .ok (.getfield idx, 3)) (kk : x_W x g n Q M (pc + 3) ls (.int (M a k) :: st)) : x_W x g n Q M pc ls (.ref (x_a g a) :: st) := by
  obtain ⟨p, l, e, R, s, m, args, below, meth, c, cells, slots⟩ := x
  obtain ⟨hx, hb, hml, hown, hts, hK, hN, rfl, hl0, hcc, hss⟩ := hC
  intro H locs la hP hD hS hl
  obtain ⟨q, h1, h2, h3, h4⟩ := x_okf_spec hk
  exact va_get (v := .int (M a k)) hx hb hts h3 hown hK hP a (x_wd_obj ho) h1 k h2 (hts _ h4) (fun _ h => h) (by rw [List.getElem?_mapIdx, hf]; rfl) hd (kk H locs la hP hD hS hl)
theorem x_getr {a ci k idx r : Nat} {fs : List (Option Nat)} (hC : x_cx x g Rm cc own n ws) (ho : x_isO a ci fs) (hf : fs[k]? = some (some r)) (hk : x_okf ws own idx ci k = true) (hd : decode cc pc = .ok (.getfield idx, 3)) (kk : x_W x g n Q M (pc + 3) ls (.ref (x_a g r) :: st)) : x_W x g n Q M pc ls (.ref (x_a g a) :: st) := by
  obtain ⟨p, l, e, R, s, m, args, below, meth, c, cells, slots⟩ := x
  obtain ⟨hx, hb, hml, hown, hts, hK, hN, rfl, hl0, hcc, hss⟩ := hC
  intro H locs la hP hD hS hl
  obtain ⟨q, h1, h2, h3, h4⟩ := x_okf_spec hk
  exact va_get (v := .ref (x_a g r)) hx hb hts h3 hown hK hP a (x_wd_obj ho) h1 k h2 (hts _ h4) (fun _ h => h) (by rw [List.getElem?_mapIdx, hf]; rfl) hd (kk H locs la hP hD hS hl)
theorem x_puti {a ci k idx : Nat} {v : Int32} {fs : List (Option Nat)} (hC : x_cx x g Rm cc own n ws) (ho : x_isO a ci fs) (hf : fs[k]? = some none) (hk : x_okf ws own idx ci k = true) (hp : x_okp ci k = true) (hd : decode cc pc = .ok (.putfield idx, 3)) (kk : x_W x g n Q (x_up M a k v) (pc + 3) ls st) : x_W x g n Q M pc ls (.int v :: .ref (x_a g a) :: st) := by
  obtain ⟨p, l, e, R, s, m, args, below, meth, c, cells, slots⟩ := x
  obtain ⟨hx, hb, hml, hown, hts, hK, hN, rfl, hl0, hcc, hss⟩ := hC
  intro H locs la hP hD hS hl
  obtain ⟨q, h1, h2, h3, h4⟩ := x_okf_spec hk
  obtain ⟨p1, p2⟩ := x_okp_spec hp h1
  obtain ⟨ty0, t1, t2⟩ := x_clsok h1
  refine va_put (v := .int v) (ty := .int) hx hb hts h3 ty0 t1 t2 hown hK hP hD hS a (x_wd_obj ho) h1 k h2 (hts _ h4) (fun _ h => h) p1 p2 rfl rfl (by rw [List.length_mapIdx]; exact (List.getElem?_eq_some_iff.mp hf).1) hd (fun H1 locs1 hP1 hD1 hS1 => ?_)
  rw [x_set_obj ho hf] at hP1 hD1
  exact kk H1 locs1 la hP1 hD1 hS1 hl
theorem x_iald {a len : Nat} {i : Int32} (hC : x_cx x g Rm cc own n ws) (ha : x_isA a 0 len) (hi : vp_in i len) (hd : decode cc pc = .ok (.iaload, 1)) (kk : x_W x g n Q M (pc + 1) ls (.int (M a i.toNatClampNeg) :: st)) : x_W x g n Q M pc ls (.int i :: .ref (x_a g a) :: st) := by
  obtain ⟨p, l, e, R, s, m, args, below, meth, c, cells, slots⟩ := x
  obtain ⟨hx, hb, hml, hown, hts, hK, hN, rfl, hl0, hcc, hss⟩ := hC
  intro H locs la hP hD hS hl
  exact va_iald hx hb hK hP a 0 (x_wd_arr ha) rfl hi hd (kk H locs la hP hD hS hl)
theorem x_zald {a len : Nat} {i : Int32} (hC : x_cx x g Rm cc own n ws) (ha : x_isA a 1 len) (hi : vp_in i len) (hd : decode cc pc = .ok (.baload, 1)) (kk : x_W x g n Q M (pc + 1) ls (.int (M a i.toNatClampNeg) :: st)) : x_W x g n Q M pc ls (.int i :: .ref (x_a g a) :: st) := by
  obtain ⟨p, l, e, R, s, m, args, below, meth, c, cells, slots⟩ := x
  obtain ⟨hx, hb, hml, hown, hts, hK, hN, rfl, hl0, hcc, hss⟩ := hC
  intro H locs la hP hD hS hl
  exact va_zald hx hb hK hP a 1 (x_wd_arr ha) rfl hi hd (kk H locs la hP hD hS hl)
theorem x_cald {a len : Nat} {i : Int32} (hC : x_cx x g Rm cc own n ws) (ha : x_isA a 2 len) (hi : vp_in i len) (hd : decode cc pc = .ok (.caload, 1)) (kk : x_W x g n Q M (pc + 1) ls (.int (M a i.toNatClampNeg) :: st)) : x_W x g n Q M pc ls (.int i :: .ref (x_a g a) :: st) := by
  obtain ⟨p, l, e, R, s, m, args, below, meth, c, cells, slots⟩ := x
  obtain ⟨hx, hb, hml, hown, hts, hK, hN, rfl, hl0, hcc, hss⟩ := hC
  intro H locs la hP hD hS hl
  exact va_cald hx hb hK hP a 2 (x_wd_arr ha) rfl hi hd (kk H locs la hP hD hS hl)
theorem x_iast {a len : Nat} {i v : Int32} (hC : x_cx x g Rm cc own n ws) (ha : x_isA a 0 len) (hi : vp_in i len) (hd : decode cc pc = .ok (.iastore, 1)) (kk : x_W x g n Q (x_up M a i.toNatClampNeg v) (pc + 1) ls st) : x_W x g n Q M pc ls (.int v :: .int i :: .ref (x_a g a) :: st) := by
  obtain ⟨p, l, e, R, s, m, args, below, meth, c, cells, slots⟩ := x
  obtain ⟨hx, hb, hml, hown, hts, hK, hN, rfl, hl0, hcc, hss⟩ := hC
  intro H locs la hP hD hS hl
  refine va_iast hx hb hK hP hD hS a 0 (x_wd_arr ha) rfl hi hd (fun H1 locs1 hP1 hD1 hS1 => ?_)
  rw [x_set_arr ha] at hP1 hD1
  exact kk H1 locs1 la hP1 hD1 hS1 hl
theorem x_zast {a len : Nat} {i v : Int32} (hC : x_cx x g Rm cc own n ws) (ha : x_isA a 1 len) (hi : vp_in i len) (hd : decode cc pc = .ok (.bastore, 1)) (kk : x_W x g n Q (x_up M a i.toNatClampNeg (vp_nar .boolean v)) (pc + 1) ls st) : x_W x g n Q M pc ls (.int v :: .int i :: .ref (x_a g a) :: st) := by
  obtain ⟨p, l, e, R, s, m, args, below, meth, c, cells, slots⟩ := x
  obtain ⟨hx, hb, hml, hown, hts, hK, hN, rfl, hl0, hcc, hss⟩ := hC
  intro H locs la hP hD hS hl
  refine va_zast hx hb hK hP hD hS a 1 (x_wd_arr ha) rfl hi hd (fun H1 locs1 hP1 hD1 hS1 => ?_)
  rw [x_set_arr ha] at hP1 hD1
  exact kk H1 locs1 la hP1 hD1 hS1 hl
theorem x_cast {a len : Nat} {i v : Int32} (hC : x_cx x g Rm cc own n ws) (ha : x_isA a 2 len) (hi : vp_in i len) (hd : decode cc pc = .ok (.castore, 1)) (kk : x_W x g n Q (x_up M a i.toNatClampNeg (vp_nar .char v)) (pc + 1) ls st) : x_W x g n Q M pc ls (.int v :: .int i :: .ref (x_a g a) :: st) := by
  obtain ⟨p, l, e, R, s, m, args, below, meth, c, cells, slots⟩ := x
  obtain ⟨hx, hb, hml, hown, hts, hK, hN, rfl, hl0, hcc, hss⟩ := hC
  intro H locs la hP hD hS hl
  refine va_cast hx hb hK hP hD hS a 2 (x_wd_arr ha) rfl hi hd (fun H1 locs1 hP1 hD1 hS1 => ?_)
  rw [x_set_arr ha] at hP1 hD1
  exact kk H1 locs1 la hP1 hD1 hS1 hl
theorem x_alen {a len : Nat} (hC : x_cx x g Rm cc own n ws) (ha : x_isA a 0 len) (hd : decode cc pc = .ok (.arraylength, 1)) (kk : x_W x g n Q M (pc + 1) ls (.int (nI len) :: st)) : x_W x g n Q M pc ls (.ref (x_a g a) :: st) := by
  obtain ⟨p, l, e, R, s, m, args, below, meth, c, cells, slots⟩ := x
  obtain ⟨hx, hb, hml, hown, hts, hK, hN, rfl, hl0, hcc, hss⟩ := hC
  intro H locs la hP hD hS hl
  exact va_alen hx hb hK hP a 0 (x_wd_arr ha) (ty := .int) rfl (v := nI len) rfl hd (kk H locs la hP hD hS hl)
theorem x_aald {a len b : Nat} {i : Int32} (hC : x_cx x g Rm cc own n ws) (ha : x_isR a len b) (hi : vp_in i len) (hd : decode cc pc = .ok (.aaload, 1)) (kk : x_W x g n Q M (pc + 1) ls (.ref (x_a g (20 * (b + i.toNatClampNeg))) :: st)) : x_W x g n Q M pc ls (.int i :: .ref (x_a g a) :: st) := by
  obtain ⟨p, l, e, R, s, m, args, below, meth, c, cells, slots⟩ := x
  obtain ⟨hx, hb, hml, hown, hts, hK, hN, rfl, hl0, hcc, hss⟩ := hC
  intro H locs la hP hD hS hl
  exact va_aldq (C := RX0) hx hb hK hP a 3 (x_wd_ref ha) rfl hi hd (kk H locs la hP hD hS hl)
theorem x_mmax {idx : Nat} {v u : Int32} (hC : x_cx x g Rm cc own n ws) (h1 : Cond.methodLink own idx Lib.Math.max.name ∈ ws) (h2 : Cond.static Lib.Math.max.name ∈ ws) (h3 : Cond.initialized "java/lang/Math" ∈ ws) (h4 : Cond.code Lib.Math.max.name Lib.Math.max.code 2 (some .int) ∈ ws) (h5 : 1 ≤ Rm.frames) (h6 : (st.map fun v => v.category).sum + 13 ≤ Rm.locals) (hd : decode cc pc = .ok (.invokestatic idx, 3)) (kk : x_W x g n Q M (pc + 3) ls (.int (if v < u then u else v) :: st)) : x_W x g n Q M pc ls (.int u :: .int v :: st) := by
  obtain ⟨p, l, e, R, s, m, args, below, meth, c, cells, slots⟩ := x
  obtain ⟨hx, hb, hml, hown, hts, hK, hN, rfl, hl0, hcc, hss⟩ := hC
  intro H locs la hP hD hS hl
  exact va_mmax hx hb (hml.trans hl.1.symm) hown (hts _ h1) (hts _ h2) (hts _ h3) (hts _ h4) h5 h6 hcc hss hd (kk H locs la hP hD hS hl)
theorem x_mmin {idx : Nat} {v u : Int32} (hC : x_cx x g Rm cc own n ws) (h1 : Cond.methodLink own idx Lib.Math.min.name ∈ ws) (h2 : Cond.static Lib.Math.min.name ∈ ws) (h3 : Cond.initialized "java/lang/Math" ∈ ws) (h4 : Cond.code Lib.Math.min.name Lib.Math.min.code 2 (some .int) ∈ ws) (h5 : 1 ≤ Rm.frames) (h6 : (st.map fun v => v.category).sum + 13 ≤ Rm.locals) (hd : decode cc pc = .ok (.invokestatic idx, 3)) (kk : x_W x g n Q M (pc + 3) ls (.int (if u < v then u else v) :: st)) : x_W x g n Q M pc ls (.int u :: .int v :: st) := by
  obtain ⟨p, l, e, R, s, m, args, below, meth, c, cells, slots⟩ := x
  obtain ⟨hx, hb, hml, hown, hts, hK, hN, rfl, hl0, hcc, hss⟩ := hC
  intro H locs la hP hD hS hl
  exact va_mmin hx hb (hml.trans hl.1.symm) hown (hts _ h1) (hts _ h2) (hts _ h3) (hts _ h4) h5 h6 hcc hss hd (kk H locs la hP hD hS hl)
theorem x_copy {idx a0 a1 n0 n1 : Nat} {sp dp z : Int32} (hC : x_cx x g Rm cc own n ws) (hw1 : Cond.methodLink own idx arraycopyName ∈ ws) (hw2 : Cond.native arraycopyName ∈ ws) (hw3 : Cond.static arraycopyName ∈ ws) (hw4 : Cond.initialized "java/lang/System" ∈ ws) (ha0 : x_isA a0 0 n0) (ha1 : x_isA a1 0 n1) (h1 : ¬ sp < 0) (h2 : ¬ dp < 0) (h3 : ¬ z < 0) (h4 : sp.toNatClampNeg + z.toNatClampNeg ≤ n0) (h5 : dp.toNatClampNeg + z.toNatClampNeg ≤ n1)
    (h6 : 1 ≤ Rm.frames) (h7 : (st.map fun v => v.category).sum + (nativeFrameWords "java/lang/System" "arraycopy" 5 + 11) ≤ Rm.locals) (hd : decode cc pc = .ok (.invokestatic idx, 3)) (kk : x_W x g n Q (x_row M a1 (va_cpy (M a0) (M a1) sp.toNatClampNeg dp.toNatClampNeg z.toNatClampNeg)) (pc + 3) ls st) : x_W x g n Q M pc ls (.int z :: .int dp :: .ref (x_a g a1) :: .int sp :: .ref (x_a g a0) :: st) := by
  obtain ⟨p, l, e, R, s, m, args, below, meth, c, cells, slots⟩ := x
  obtain ⟨hx, hb, hml, hown, hts, hK, hN, rfl, hl0, hcc, hss⟩ := hC
  intro H locs la hP hD hS hl
  refine va_copyi hx hb (hml.trans hl.1.symm) hown (hts _ hw1) (hts _ hw2) (hts _ hw3) (hts _ hw4) hK hP hD hS a0 a1 0 0 (ty := .int) (x_wd_arr ha0) (x_wd_arr ha1) rfl rfl rfl h1 h2 h3 h4 h5 (fun _ _ => rfl) h6 h7 hd (fun H1 locs1 hP1 hD1 hS1 => ?_)
  rw [x_set_row ha1] at hP1 hD1
  exact kk H1 locs1 la hP1 hD1 hS1 hl
theorem x_topM (kk : ∀ N, N = M → x_W x g n Q N pc ls st) : x_W x g n Q M pc ls st := kk M rfl
theorem x_topi {v : Int32} (kk : ∀ u, u = v → x_W x g n Q M pc ls (.int u :: st)) : x_W x g n Q M pc ls (.int v :: st) := kk v rfl
theorem x_topl {v : Int64} (kk : ∀ u, u = v → x_W x g n Q M pc ls (.long u :: st)) : x_W x g n Q M pc ls (.long v :: st) := kk v rfl
theorem x_iret {v : Int32} {P : Int32 → xM → Prop} (hC : x_cx x g Rm cc own n ws) (hr : x_rt x (some .int)) (hd : decode cc pc = .ok (.ireturn, 1)) (h : P v M) : x_W x g n (x_Qi x g P) M pc ls [.int v] := by
  obtain ⟨p, l, e, R, s, m, args, below, meth, c, cells, slots⟩ := x
  obtain ⟨hx, hb, hml, hown, hts, hK, hN, rfl, hl0, hcc, hss⟩ := hC
  intro H locs la hP hD hS hl
  exact W.iret hx hb hr.1 (fun t ht hW => ⟨⟨v, M, rfl, h, by rw [ht]; exact hP, va_K.moved hW.alike hK, hD, x_nest_warm hW hN⟩, hS.F ht⟩) hS.2.2 hd (hlocks := hr.2)
theorem x_zret {v : Int32} {P : Int32 → xM → Prop} (hC : x_cx x g Rm cc own n ws) (hr : x_rt x (some .boolean)) (hd : decode cc pc = .ok (.ireturn, 1)) (hv : narrow .boolean (.int v) = .int v) (h : P v M) : x_W x g n (x_Qi x g P) M pc ls [.int v] := by
  obtain ⟨p, l, e, R, s, m, args, below, meth, c, cells, slots⟩ := x
  obtain ⟨hx, hb, hml, hown, hts, hK, hN, rfl, hl0, hcc, hss⟩ := hC
  intro H locs la hP hD hS hl
  exact W.zret hx hb hr.1 hv (fun t ht hW => ⟨⟨v, M, rfl, h, by rw [ht]; exact hP, va_K.moved hW.alike hK, hD, x_nest_warm hW hN⟩, hS.F ht⟩) hS.2.2 hd (hlocks := hr.2)
theorem x_vret {P : xM → Prop} (hC : x_cx x g Rm cc own n ws) (hr : x_rt x none) (hd : decode cc pc = .ok (.return_, 1)) (h : P M) : x_W x g n (x_Qv x g P) M pc ls [] := by
  obtain ⟨p, l, e, R, s, m, args, below, meth, c, cells, slots⟩ := x
  obtain ⟨hx, hb, hml, hown, hts, hK, hN, rfl, hl0, hcc, hss⟩ := hC
  intro H locs la hP hD hS hl
  exact W.vret hx hb hr.1 (fun t ht hW => ⟨⟨M, rfl, h, by rw [ht]; exact hP, va_K.moved hW.alike hK, hD, x_nest_warm hW hN⟩, hS.F ht⟩) hS.2.2 hd (hlocks := hr.2)
theorem x_blind {g : xG} {as : List Value} {M : xM} : FrameBlind (va_Pc as (x_wS g M)) := fun a U f mk q => ⟨q.1, q.2.1, va_K.moved (u := U) (U := U.calling f mk a) (Vm.Alike.refl U.vm) q.2.2.1, q.2.2.2.1, x_nest_same (u := U) rfl q.2.2.2.2⟩
theorem x_callVi {a ci : Nat} {q : vw_C} {fs : List (Option Nat)} {y : MethodName} {by' : ByteArray} {nl na idx : Nat} {ret : Option FieldType} {wy wy' : List Cond} {rm : Room} {As stk : List Value} {P : Int32 → xM → Prop} (hC : x_cx x g Rm cc own n ws) (ho : x_isO a ci fs) (hq : vwCl[ci]? = some q) (hM : x_MI g y wy rm (.ref (x_a g a) :: As) M P) (hG : GoodIn ws (wsV own idx q.1 y wy)) (hw : wy = Cond.code y by' nl ret :: wy') (hrc : rm.cells = 0) (hrs : rm.slots = 0) (hy : y.cls = q.1 ∧ y.cls ≠ "java/lang/invoke/MethodHandle" ∧ y.cls ≠ "java/lang/invoke/VarHandle" ∧ (parseMethodDescriptor y.desc).map (fun d => d.parameters.length) = some na) (hR : rm.frames + 1 ≤ Rm.frames ∧ 8 + (nl + 11) + rm.locals ≤ Rm.locals) (hn : As.length = na) (hst : (st.map fun v => v.category).sum ≤ 8) (hk : stk = As.reverse ++ .ref (x_a g a) :: st) (hd : decode cc pc = .ok (.invokevirtual idx, 3)) (kk : ∀ r N, P r N → x_W x g n Q N (pc + 3) ls (.int r :: st)) : x_W x g n Q M pc ls stk := by
  obtain ⟨p, l, e, R, s, m, args, below, meth, c, cells, slots⟩ := x
  obtain ⟨hx, hb, hml, hown, hts, hK, hN, rfl, hl0, hcc, hss⟩ := hC
  intro H locs la hP hD hS hl
  subst hk
  subst hl0
  refine va_calli (va_runV (As := As) (rest := st) ⟨hx, hb, hml, hown, hts⟩ hM (cwV na hts hG hw hrc hrs hy hR) ⟨x_blind, va_recv hK hP hq (x_wd_obj ho), fun U hU hW => ⟨rfl, by rw [hU]; exact hP, va_K.moved hW.alike hK, hD, x_nest_warm hW hN⟩⟩ rfl hn hl.1 rfl (lv_room hst) hd ⟨hcc, hss⟩) hS (fun q _ h => h) (fun q h => h) (fun r u t H1 locs1 ht hvm hp hB hz1 hk1 hS1 => kk r u hp H1 locs1 la (ht ▸ hB.1) hB.2.2.1 hS1 hl)
theorem x_callSi {y : MethodName} {by' : ByteArray} {nl na idx : Nat} {ret : Option FieldType} {wy wy' : List Cond} {rm : Room} {As stk : List Value} {P : Int32 → xM → Prop} (hC : x_cx x g Rm cc own n ws) (hM : x_MI g y wy rm As M P) (hG : GoodIn ws (va_wsS own idx y wy)) (hw : wy = Cond.code y by' nl ret :: wy') (hrc : rm.cells = 0) (hrs : rm.slots = 0) (hy : y.cls ≠ "java/lang/invoke/MethodHandle" ∧ y.cls ≠ "java/lang/invoke/VarHandle" ∧ (parseMethodDescriptor y.desc).map (fun d => d.parameters.length) = some na) (hR : rm.frames + 1 ≤ Rm.frames ∧ 8 + (nl + 11) + rm.locals ≤ Rm.locals) (hn : As.length = na) (hst : (st.map fun v => v.category).sum ≤ 8) (hk : stk = As.reverse ++ st) (hd : decode cc pc = .ok (.invokestatic idx, 3)) (kk : ∀ r N, P r N → x_W x g n Q N (pc + 3) ls (.int r :: st)) : x_W x g n Q M pc ls stk := by
  obtain ⟨p, l, e, R, s, m, args, below, meth, c, cells, slots⟩ := x
  obtain ⟨hx, hb, hml, hown, hts, hK, hN, rfl, hl0, hcc, hss⟩ := hC
  intro H locs la hP hD hS hl
  subst hk
  subst hl0
  refine va_calli (va_runS (As := As) (rest := st) ⟨hx, hb, hml, hown, hts⟩ hM (va_cwS na hts hG hw hrc hrs hy hR) ⟨x_blind, fun U hU hW => ⟨rfl, by rw [hU]; exact hP, va_K.moved hW.alike hK, hD, x_nest_warm hW hN⟩⟩ rfl hn hl.1 rfl (lv_room hst) hd ⟨hcc, hss⟩) hS (fun q _ h => h) (fun q h => h) (fun r u t H1 locs1 ht hvm hp hB hz1 hk1 hS1 => kk r u hp H1 locs1 la (ht ▸ hB.1) hB.2.2.1 hS1 hl)
theorem x_callNi {host : String} {y : MethodName} {by' : ByteArray} {nl na idx : Nat} {ret : Option FieldType} {wy wy' : List Cond} {rm : Room} {As stk : List Value} {P : Int32 → xM → Prop} (hC : x_cx x g Rm cc own n ws) (hM : x_MI g y wy rm As M P) (hG : GoodIn ws wy) (hw : wy = Cond.code y by' nl ret :: wy') (hrc : rm.cells = 0) (hrs : rm.slots = 0) (hnw : Cond.methodLinkNest own idx y host ∈ x_nest) (hini : Cond.initialized y.cls ∈ ws) (hsta : Cond.static y ∈ ws) (hy : y.cls ≠ "java/lang/invoke/MethodHandle" ∧ y.cls ≠ "java/lang/invoke/VarHandle" ∧ (parseMethodDescriptor y.desc).map (fun d => d.parameters.length) = some na) (hR : rm.frames + 1 ≤ Rm.frames ∧ 8 + (nl + 11) + rm.locals ≤ Rm.locals) (hn : As.length = na) (hst : (st.map fun v => v.category).sum ≤ 8) (hk : stk = As.reverse ++ st) (hd : decode cc pc = .ok (.invokestatic idx, 3)) (kk : ∀ r N, P r N → x_W x g n Q N (pc + 3) ls (.int r :: st)) : x_W x g n Q M pc ls stk := by
  obtain ⟨p, l, e, R, s, m, args, below, meth, c, cells, slots⟩ := x
  obtain ⟨hx, hb, hml, hown, hts, hK, hN, rfl, hl0, hcc, hss⟩ := hC
  intro H locs la hP hD hS hl
  subst hk
  subst hl0
  refine va_calli (va_runSN (As := As) (rest := st) (host := host) ⟨hx, hb, hml, hown, hts⟩ hM ⟨va_cnB na hts hG hw hrc hrs (hN _ hnw) (hts _ hini) hy hR, hts _ hsta, trivial⟩ ⟨x_blind, fun U hU hW => ⟨rfl, by rw [hU]; exact hP, va_K.moved hW.alike hK, hD, x_nest_warm hW hN⟩⟩ rfl hn hl.1 rfl (lv_room hst) hd ⟨hcc, hss⟩) hS (fun q _ h => h) (fun q h => h) (fun r u t H1 locs1 ht hvm hp hB hz1 hk1 hS1 => kk r u hp H1 locs1 la (ht ▸ hB.1) hB.2.2.1 hS1 hl)
theorem x_callVv {a ci : Nat} {q : vw_C} {fs : List (Option Nat)} {y : MethodName} {by' : ByteArray} {nl na idx : Nat} {ret : Option FieldType} {wy wy' : List Cond} {rm : Room} {As stk : List Value} {P : xM → Prop} (hC : x_cx x g Rm cc own n ws) (ho : x_isO a ci fs) (hq : vwCl[ci]? = some q) (hM : x_MV g y wy rm (.ref (x_a g a) :: As) M P) (hG : GoodIn ws (wsV own idx q.1 y wy)) (hw : wy = Cond.code y by' nl ret :: wy') (hrc : rm.cells = 0) (hrs : rm.slots = 0) (hy : y.cls = q.1 ∧ y.cls ≠ "java/lang/invoke/MethodHandle" ∧ y.cls ≠ "java/lang/invoke/VarHandle" ∧ (parseMethodDescriptor y.desc).map (fun d => d.parameters.length) = some na) (hR : rm.frames + 1 ≤ Rm.frames ∧ 8 + (nl + 11) + rm.locals ≤ Rm.locals) (hn : As.length = na) (hst : (st.map fun v => v.category).sum ≤ 8) (hk : stk = As.reverse ++ .ref (x_a g a) :: st) (hd : decode cc pc = .ok (.invokevirtual idx, 3)) (kk : ∀ N, P N → x_W x g n Q N (pc + 3) ls st) : x_W x g n Q M pc ls stk := by
  obtain ⟨p, l, e, R, s, m, args, below, meth, c, cells, slots⟩ := x
  obtain ⟨hx, hb, hml, hown, hts, hK, hN, rfl, hl0, hcc, hss⟩ := hC
  intro H locs la hP hD hS hl
  subst hk
  subst hl0
  refine va_callv (va_runV (As := As) (rest := st) ⟨hx, hb, hml, hown, hts⟩ hM (cwV na hts hG hw hrc hrs hy hR) ⟨x_blind, va_recv hK hP hq (x_wd_obj ho), fun U hU hW => ⟨rfl, by rw [hU]; exact hP, va_K.moved hW.alike hK, hD, x_nest_warm hW hN⟩⟩ rfl hn hl.1 rfl (lv_room hst) hd ⟨hcc, hss⟩) hS (fun q _ h => h) (fun q h => h) (fun u t H1 locs1 ht hvm hp hB hz1 hk1 hS1 => kk u hp H1 locs1 la (ht ▸ hB.1) hB.2.2.1 hS1 hl)
theorem x_callSv {y : MethodName} {by' : ByteArray} {nl na idx : Nat} {ret : Option FieldType} {wy wy' : List Cond} {rm : Room} {As stk : List Value} {P : xM → Prop} (hC : x_cx x g Rm cc own n ws) (hM : x_MV g y wy rm As M P) (hG : GoodIn ws (va_wsS own idx y wy)) (hw : wy = Cond.code y by' nl ret :: wy') (hrc : rm.cells = 0) (hrs : rm.slots = 0) (hy : y.cls ≠ "java/lang/invoke/MethodHandle" ∧ y.cls ≠ "java/lang/invoke/VarHandle" ∧ (parseMethodDescriptor y.desc).map (fun d => d.parameters.length) = some na) (hR : rm.frames + 1 ≤ Rm.frames ∧ 8 + (nl + 11) + rm.locals ≤ Rm.locals) (hn : As.length = na) (hst : (st.map fun v => v.category).sum ≤ 8) (hk : stk = As.reverse ++ st) (hd : decode cc pc = .ok (.invokestatic idx, 3)) (kk : ∀ N, P N → x_W x g n Q N (pc + 3) ls st) : x_W x g n Q M pc ls stk := by
  obtain ⟨p, l, e, R, s, m, args, below, meth, c, cells, slots⟩ := x
  obtain ⟨hx, hb, hml, hown, hts, hK, hN, rfl, hl0, hcc, hss⟩ := hC
  intro H locs la hP hD hS hl
  subst hk
  subst hl0
  refine va_callv (va_runS (As := As) (rest := st) ⟨hx, hb, hml, hown, hts⟩ hM (va_cwS na hts hG hw hrc hrs hy hR) ⟨x_blind, fun U hU hW => ⟨rfl, by rw [hU]; exact hP, va_K.moved hW.alike hK, hD, x_nest_warm hW hN⟩⟩ rfl hn hl.1 rfl (lv_room hst) hd ⟨hcc, hss⟩) hS (fun q _ h => h) (fun q h => h) (fun u t H1 locs1 ht hvm hp hB hz1 hk1 hS1 => kk u hp H1 locs1 la (ht ▸ hB.1) hB.2.2.1 hS1 hl)
theorem x_callNv {host : String} {y : MethodName} {by' : ByteArray} {nl na idx : Nat} {ret : Option FieldType} {wy wy' : List Cond} {rm : Room} {As stk : List Value} {P : xM → Prop} (hC : x_cx x g Rm cc own n ws) (hM : x_MV g y wy rm As M P) (hG : GoodIn ws wy) (hw : wy = Cond.code y by' nl ret :: wy') (hrc : rm.cells = 0) (hrs : rm.slots = 0) (hnw : Cond.methodLinkNest own idx y host ∈ x_nest) (hini : Cond.initialized y.cls ∈ ws) (hsta : Cond.static y ∈ ws) (hy : y.cls ≠ "java/lang/invoke/MethodHandle" ∧ y.cls ≠ "java/lang/invoke/VarHandle" ∧ (parseMethodDescriptor y.desc).map (fun d => d.parameters.length) = some na) (hR : rm.frames + 1 ≤ Rm.frames ∧ 8 + (nl + 11) + rm.locals ≤ Rm.locals) (hn : As.length = na) (hst : (st.map fun v => v.category).sum ≤ 8) (hk : stk = As.reverse ++ st) (hd : decode cc pc = .ok (.invokestatic idx, 3)) (kk : ∀ N, P N → x_W x g n Q N (pc + 3) ls st) : x_W x g n Q M pc ls stk := by
  obtain ⟨p, l, e, R, s, m, args, below, meth, c, cells, slots⟩ := x
  obtain ⟨hx, hb, hml, hown, hts, hK, hN, rfl, hl0, hcc, hss⟩ := hC
  intro H locs la hP hD hS hl
  subst hk
  subst hl0
  refine va_callv (va_runSN (As := As) (rest := st) (host := host) ⟨hx, hb, hml, hown, hts⟩ hM ⟨va_cnB na hts hG hw hrc hrs (hN _ hnw) (hts _ hini) hy hR, hts _ hsta, trivial⟩ ⟨x_blind, fun U hU hW => ⟨rfl, by rw [hU]; exact hP, va_K.moved hW.alike hK, hD, x_nest_warm hW hN⟩⟩ rfl hn hl.1 rfl (lv_room hst) hd ⟨hcc, hss⟩) hS (fun q _ h => h) (fun q h => h) (fun u t H1 locs1 ht hvm hp hB hz1 hk1 hS1 => kk u hp H1 locs1 la (ht ▸ hB.1) hB.2.2.1 hS1 hl)
theorem x_tsOut {v : Int32} {d lo hi : Int} {offs : Array Int} {len t : Nat} (hC : x_cx x g Rm cc own n ws) (hd : decode cc pc = .ok (.tableswitch d lo hi offs, len)) (h : v.toInt < lo ∨ hi < v.toInt) (ht : (pc : Int) + d = (t : Int)) (kk : x_W x g n Q M t ls st) : x_W x g n Q M pc ls (.int v :: st) := by
  obtain ⟨p, l, e, R, s, m, args, below, meth, c, cells, slots⟩ := x
  obtain ⟨hx, hb, hml, hown, hts, hK, hN, rfl, hl0, hcc, hss⟩ := hC
  intro H locs la hP hD hS hl
  exact lv_tableOut hx hb hd h ht (kk H locs la hP hD hS hl)
theorem x_tsIn {v : Int32} {d lo hi : Int} {offs : Array Int} {len t : Nat} {o : Int} (hC : x_cx x g Rm cc own n ws) (hd : decode cc pc = .ok (.tableswitch d lo hi offs, len)) (h1 : ¬ v.toInt < lo) (h2 : ¬ hi < v.toInt) (ho : offs[(v.toInt - lo).toNat]? = some o) (ht : (pc : Int) + o = (t : Int)) (kk : x_W x g n Q M t ls st) : x_W x g n Q M pc ls (.int v :: st) := by
  obtain ⟨p, l, e, R, s, m, args, below, meth, c, cells, slots⟩ := x
  obtain ⟨hx, hb, hml, hown, hts, hK, hN, rfl, hl0, hcc, hss⟩ := hC
  intro H locs la hP hD hS hl
  exact lv_tableIn hx hb hd h1 h2 ho ht (kk H locs la hP hD hS hl)
theorem x_ldc {i : Nat} {v : Int32} (hC : x_cx x g Rm cc own n ws) (hw : Cond.constant own i v ∈ ws) (hd : decode cc pc = .ok (.ldc i, 2)) (kk : x_W x g n Q M (pc + 2) ls (.int v :: st)) : x_W x g n Q M pc ls (st) := by
  obtain ⟨p, l, e, R, s, m, args, below, meth, c, cells, slots⟩ := x
  obtain ⟨hx, hb, hml, hown, hts, hK, hN, rfl, hl0, hcc, hss⟩ := hC
  intro H locs la hP hD hS hl
  exact lv_ldc hx hb hown (hts _ hw) hd (kk H locs la hP hD hS hl)
theorem x_idiv {v u : Int32} (hC : x_cx x g Rm cc own n ws) (hne : ¬ u = 0) (hd : decode cc pc = .ok (.idiv, 1)) (kk : x_W x g n Q M (pc + 1) ls (.int (v / u) :: st)) : x_W x g n Q M pc ls (.int u :: .int v :: st) := by
  obtain ⟨p, l, e, R, s, m, args, below, meth, c, cells, slots⟩ := x
  obtain ⟨hx, hb, hml, hown, hts, hK, hN, rfl, hl0, hcc, hss⟩ := hC
  intro H locs la hP hD hS hl
  exact lv_idiv hx hb hd hne (kk H locs la hP hD hS hl)
theorem x_irem {v u : Int32} (hC : x_cx x g Rm cc own n ws) (hne : ¬ u = 0) (hd : decode cc pc = .ok (.irem, 1)) (kk : x_W x g n Q M (pc + 1) ls (.int (v - v / u * u) :: st)) : x_W x g n Q M pc ls (.int u :: .int v :: st) := by
  obtain ⟨p, l, e, R, s, m, args, below, meth, c, cells, slots⟩ := x
  obtain ⟨hx, hb, hml, hown, hts, hK, hN, rfl, hl0, hcc, hss⟩ := hC
  intro H locs la hP hD hS hl
  exact lv_irem hx hb hd hne (kk H locs la hP hD hS hl)
theorem x_dup_x2 {va vb vc : Value} (hC : x_cx x g Rm cc own n ws) (hd : decode cc pc = .ok (.dup_x2, 1)) (h1 : va.category = 1) (h2 : vb.category = 1) (h3 : vc.category = 1) (kk : x_W x g n Q M (pc + 1) ls (va :: vb :: vc :: va :: st)) : x_W x g n Q M pc ls (va :: vb :: vc :: st) := by
  obtain ⟨p, l, e, R, s, m, args, below, meth, c, cells, slots⟩ := x
  obtain ⟨hx, hb, hml, hown, hts, hK, hN, rfl, hl0, hcc, hss⟩ := hC
  intro H locs la hP hD hS hl
  exact lv_dup_x2 hx hb hd h1 h2 h3 (kk H locs la hP hD hS hl)
