/-! walks of constructors: the world is a list that grows -/
def y_W (x : xX) (g : xG) (n : Nat) (Q : State → Prop) (w : va_W) (ce sl : Nat) (pc : Nat) (ls : List (Nat × Value)) (st : List Value) : Prop := match x with
  | (p, l, e, R, s, m, args, below, meth, c, cells, slots) => ∀ (H : Heap) (locs : List Loc) (la : Array Slot), va_P (x_d g) vwCl w H → va_D (x_A g) w → va_S (x_A g) s.heap H locs → lv_has la n ls → W p l e R s m args below meth c H locs ce sl Q (F0 m pc la st)
/-- what a constructor's walk knows beside x_cx: what is new is its own -/
def y_new (x : xX) (g : xG) : Prop := match x with
  | (p, l, e, R, s, m, args, below, meth, c, cells, slots) => (∀ q : Nat, s.heap.size ≤ q → x_A g q) ∧ va_AO RX0 s
def y_nm (x : xX) : Prop := match x with
  | (p, l, e, R, s, m, args, below, meth, c, cells, slots) => meth.name = "<init>"
variable {x : xX} {g : xG} {Rm : Room} {cc : ByteArray} {own : String} {n : Nat} {ws : List Cond} {Q : State → Prop} {w : va_W} {ce sl : Nat} {pc : Nat} {ls : List (Nat × Value)} {st : List Value}
theorem y_iload_n {k : Fin 4} {i q : Nat} {v : Int32} (hC : x_cx x g Rm cc own n ws) (hd : decode cc pc = .ok (.iload_n k, 1)) (hi : (k : Nat) = i) (hq : ls[q]? = some (i, .int v)) (kk : y_W x g n Q w ce sl (pc + 1) ls (.int v :: st)) : y_W x g n Q w ce sl pc ls (st) := by
  obtain ⟨p, l, e, R, s, m, args, below, meth, c, cells, slots⟩ := x
  obtain ⟨hx, hb, hml, hown, hts, hK, hN, rfl, hl0, hcc, hss⟩ := hC
  intro H locs la hP hD hS hl
  exact lv_iload_n hx hb hd hi (lv_at hl q hq) (kk H locs la hP hD hS hl)
theorem y_aload_n {k : Fin 4} {i q : Nat} {v : Nat} (hC : x_cx x g Rm cc own n ws) (hd : decode cc pc = .ok (.aload_n k, 1)) (hi : (k : Nat) = i) (hq : ls[q]? = some (i, .ref v)) (kk : y_W x g n Q w ce sl (pc + 1) ls (.ref v :: st)) : y_W x g n Q w ce sl pc ls (st) := by
  obtain ⟨p, l, e, R, s, m, args, below, meth, c, cells, slots⟩ := x
  obtain ⟨hx, hb, hml, hown, hts, hK, hN, rfl, hl0, hcc, hss⟩ := hC
  intro H locs la hP hD hS hl
  exact lv_aload_n hx hb hd hi (lv_at hl q hq) (kk H locs la hP hD hS hl)
theorem y_istore_n {k : Fin 4} {i : Nat} {v : Int32} {ls' : List (Nat × Value)} (hC : x_cx x g Rm cc own n ws) (hd : decode cc pc = .ok (.istore_n k, 1)) (hi : (k : Nat) = i) (hn : i < n) (hq : (i, Value.int v) :: ls.filter (fun q => !(q.1 == i) && !(q.1 + 1 == i && q.2.category == 2)) = ls') (kk : y_W x g n Q w ce sl (pc + 1) ls' (st)) : y_W x g n Q w ce sl pc ls (.int v :: st) := by
  obtain ⟨p, l, e, R, s, m, args, below, meth, c, cells, slots⟩ := x
  obtain ⟨hx, hb, hml, hown, hts, hK, hN, rfl, hl0, hcc, hss⟩ := hC
  intro H locs la hP hD hS hl
  exact lv_istore_n hx hb hd hi hl hn hq (fun la hl => (kk H locs la hP hD hS hl))
theorem y_astore_n {k : Fin 4} {i : Nat} {v : Nat} {ls' : List (Nat × Value)} (hC : x_cx x g Rm cc own n ws) (hd : decode cc pc = .ok (.astore_n k, 1)) (hi : (k : Nat) = i) (hn : i < n) (hq : (i, Value.ref v) :: ls.filter (fun q => !(q.1 == i) && !(q.1 + 1 == i && q.2.category == 2)) = ls') (kk : y_W x g n Q w ce sl (pc + 1) ls' (st)) : y_W x g n Q w ce sl pc ls (.ref v :: st) := by
  obtain ⟨p, l, e, R, s, m, args, below, meth, c, cells, slots⟩ := x
  obtain ⟨hx, hb, hml, hown, hts, hK, hN, rfl, hl0, hcc, hss⟩ := hC
  intro H locs la hP hD hS hl
  exact lv_astore_n hx hb hd hi hl hn hq (fun la hl => (kk H locs la hP hD hS hl))
theorem y_iinc {i k : Nat} {z : Int} {v v' : Int32} {ls' : List (Nat × Value)} (hC : x_cx x g Rm cc own n ws) (hd : decode cc pc = .ok (.iinc i z, 3)) (hk : ls[k]? = some (i, .int v)) (hv : v + Int32.ofInt z = v') (hn : i < n) (hq : (i, Value.int v') :: ls.filter (fun q => !(q.1 == i) && !(q.1 + 1 == i && q.2.category == 2)) = ls') (kk : y_W x g n Q w ce sl (pc + 3) ls' (st)) : y_W x g n Q w ce sl pc ls (st) := by
  obtain ⟨p, l, e, R, s, m, args, below, meth, c, cells, slots⟩ := x
  obtain ⟨hx, hb, hml, hown, hts, hK, hN, rfl, hl0, hcc, hss⟩ := hC
  intro H locs la hP hD hS hl
  exact lv_iinc hx hb hd hl hk hv hn hq (fun la hl => kk H locs la hP hD hS hl)
theorem y_iconst {z : Int} {v : Int32} (hC : x_cx x g Rm cc own n ws) (hd : decode cc pc = .ok (.iconst z, 1)) (hv : Int32.ofInt z = v) (kk : y_W x g n Q w ce sl (pc + 1) ls (.int v :: st)) : y_W x g n Q w ce sl pc ls (st) := by
  obtain ⟨p, l, e, R, s, m, args, below, meth, c, cells, slots⟩ := x
  obtain ⟨hx, hb, hml, hown, hts, hK, hN, rfl, hl0, hcc, hss⟩ := hC
  intro H locs la hP hD hS hl
  exact lv_iconst hx hb hd hv (kk H locs la hP hD hS hl)
theorem y_bipush {z : Int} {v : Int32} (hC : x_cx x g Rm cc own n ws) (hd : decode cc pc = .ok (.bipush z, 2)) (hv : (Int8.ofInt z).toInt32 = v) (kk : y_W x g n Q w ce sl (pc + 2) ls (.int v :: st)) : y_W x g n Q w ce sl pc ls (st) := by
  obtain ⟨p, l, e, R, s, m, args, below, meth, c, cells, slots⟩ := x
  obtain ⟨hx, hb, hml, hown, hts, hK, hN, rfl, hl0, hcc, hss⟩ := hC
  intro H locs la hP hD hS hl
  exact lv_bipush hx hb hd hv (kk H locs la hP hD hS hl)
theorem y_sipush {z : Int} {v : Int32} (hC : x_cx x g Rm cc own n ws) (hd : decode cc pc = .ok (.sipush z, 3)) (hv : (Int16.ofInt z).toInt32 = v) (kk : y_W x g n Q w ce sl (pc + 3) ls (.int v :: st)) : y_W x g n Q w ce sl pc ls (st) := by
  obtain ⟨p, l, e, R, s, m, args, below, meth, c, cells, slots⟩ := x
  obtain ⟨hx, hb, hml, hown, hts, hK, hN, rfl, hl0, hcc, hss⟩ := hC
  intro H locs la hP hD hS hl
  exact lv_sipush hx hb hd hv (kk H locs la hP hD hS hl)
theorem y_dup {v : Value} (hC : x_cx x g Rm cc own n ws) (hd : decode cc pc = .ok (.dup, 1)) (hv : v.category = 1) (kk : y_W x g n Q w ce sl (pc + 1) ls (v :: v :: st)) : y_W x g n Q w ce sl pc ls (v :: st) := by
  obtain ⟨p, l, e, R, s, m, args, below, meth, c, cells, slots⟩ := x
  obtain ⟨hx, hb, hml, hown, hts, hK, hN, rfl, hl0, hcc, hss⟩ := hC
  intro H locs la hP hD hS hl
  exact lv_dup hx hb hd hv (kk H locs la hP hD hS hl)
theorem y_goto {o : Int} {t : Nat} (hC : x_cx x g Rm cc own n ws) (hd : decode cc pc = .ok (.goto o, 3)) (ht : (pc : Int) + o = (t : Int)) (kk : y_W x g n Q w ce sl t ls (st)) : y_W x g n Q w ce sl pc ls (st) := by
  obtain ⟨p, l, e, R, s, m, args, below, meth, c, cells, slots⟩ := x
  obtain ⟨hx, hb, hml, hown, hts, hK, hN, rfl, hl0, hcc, hss⟩ := hC
  intro H locs la hP hD hS hl
  exact lv_goto hx hb hd ht (kk H locs la hP hD hS hl)
theorem y_icmp_ge {v u : Int32} {o : Int} {t : Nat} (hC : x_cx x g Rm cc own n ws) (hd : decode cc pc = .ok (.if_icmp .ge o, 3)) (ht : (pc : Int) + o = (t : Int)) (kt : u ≤ v → y_W x g n Q w ce sl t ls st) (kf : ¬ (u ≤ v) → y_W x g n Q w ce sl (pc + 3) ls st) : y_W x g n Q w ce sl pc ls (.int u :: .int v :: st) := by
  obtain ⟨p, l, e, R, s, m, args, below, meth, c, cells, slots⟩ := x
  obtain ⟨hx, hb, hml, hown, hts, hK, hN, rfl, hl0, hcc, hss⟩ := hC
  intro H locs la hP hD hS hl
  exact lv_icmp_ge hx hb hd ht (fun q => kt q H locs la hP hD hS hl) (fun q => kf q H locs la hP hD hS hl)
theorem y_objInit {idx a : Nat} (hC : x_cx x g Rm cc own n ws) (h1 : Cond.methodLink own idx objectInit ∈ ws) (h2 : Cond.instanceMethod objectInit ∈ ws) (h3 : Cond.code objectInit ⟨#[0xb1]⟩ 1 none ∈ ws) (hR : 1 ≤ Rm.frames ∧ 20 ≤ Rm.locals) (hst : (st.map fun v => v.category).sum ≤ 8) (hd : decode cc pc = .ok (.invokespecial idx, 3)) (kk : y_W x g n Q w ce sl (pc + 3) ls st) : y_W x g n Q w ce sl pc ls (.ref a :: st) := by
  obtain ⟨p, l, e, R, s, m, args, below, meth, c, cells, slots⟩ := x
  obtain ⟨hx, hb, hml, hown, hts, hK, hN, rfl, hl0, hcc, hss⟩ := hC
  intro H locs la hP hD hS hl
  refine W.objInit hx hb hown (hts _ h1) (hts _ h2) (hts _ h3) rfl (by rw [hml]; exact hl.1) rfl hd hR.1 (by have := lv_room (m := m) (pc := pc) (ls := la) (rest := .ref a :: st) hst; have := hR.2; omega) ?_
  refine W.eq (g2 := F0 m (pc + 3) la st) rfl ?_
  exact kk H locs la hP hD hS hl
theorem y_arrId {g : xG} {s : State} {cA : ClassId} {t : Nat} {ty : FieldType} (h0 : (x_tys (x_k g))[t]? = some (x_k g t, ty)) (hK : va_K (x_d g) vwCl (x_tys (x_k g) ++ [(cA, ty)]) s) (hty : ty = .int ∨ ty = .boolean ∨ ty = .char) : cA = x_k g t := by
  have a1 := (hK.2 t (x_k g t, ty) (by rw [List.getElem?_append_left (List.getElem?_eq_some_iff.mp h0).1]; exact h0)).2
  have a2 := (hK.2 4 (cA, ty) rfl).2
  rcases hty with rfl | rfl | rfl
  · have b1 : s.vm.findClass ("[" ++ FieldType.int.toString) = some (x_k g t) := a1
    have b2 : s.vm.findClass ("[" ++ FieldType.int.toString) = some cA := a2
    exact Option.some.inj (b2.symm.trans b1)
  · have b1 : s.vm.findClass ("[" ++ FieldType.boolean.toString) = some (x_k g t) := a1
    have b2 : s.vm.findClass ("[" ++ FieldType.boolean.toString) = some cA := a2
    exact Option.some.inj (b2.symm.trans b1)
  · have b1 : s.vm.findClass ("[" ++ FieldType.char.toString) = some (x_k g t) := a1
    have b2 : s.vm.findClass ("[" ++ FieldType.char.toString) = some cA := a2
    exact Option.some.inj (b2.symm.trans b1)
/-- a new array of numbers -/
theorem y_newa {at' : ArrayType} {t N : Nat} {v : Int32} {ty : FieldType} (hC : x_cx x g Rm cc own n ws) (hY : y_new x g) (hw : Cond.arrayClass ty ∈ ws) (hty : newarray.typeOf at' = ty) (ht : (x_tys (x_k g))[t]? = some (x_k g t, ty)) (h3 : ty = .int ∨ ty = .boolean ∨ ty = .char) (hv : v = nI N) (hN : N < 5000) (hce : ce + 1 ≤ Rm.cells) (hsl : sl + N ≤ Rm.slots) (hd : decode cc pc = .ok (.newarray at', 2)) (kk : ∀ q : Nat, y_W x g n Q (w ++ [(q, .inl (x_k g t, N, .inl (fun _ => 0)))]) (ce + 1) (sl + N) (pc + 2) ls (.ref q :: st)) : y_W x g n Q w ce sl pc ls (.int v :: st) := by
  obtain ⟨p, l, e, R, s, m, args, below, meth, c, cells, slots⟩ := x
  obtain ⟨hx, hb, hml, hown, hts, hK, hN', rfl, hl0, hcc, hss⟩ := hC
  intro H locs la hP hD hS hl
  subst hv
  refine va_newa (atype := at') (ty := ty) (N' := N) (a0 := (N, .inl (fun _ => 0))) hx hb (by rw [hty]; exact hts _ hw) hty hK hP hD hS hY.1 ?_ (x_neg hN) (x_cl hN) ?_ hce hsl hd (fun q cA H1 hK1 hP1 hD1 hS1 => ?_)
  · intro cA
    rcases h3 with rfl | rfl | rfl <;> rfl
  · rcases h3 with rfl | rfl | rfl
    · show N * 4 ≤ _
      omega
    · show N * 1 ≤ _
      omega
    · show N * 2 ≤ _
      omega
  · have e := y_arrId ht hK1 h3
    subst e
    exact kk q H1 locs la hP1 hD1 hS1 hl
/-- a field that gets its value in the constructor -/
theorem y_putF {a ci k idx q0 : Nat} {fs : List Value} {q : vw_C} {ty : FieldType} {v : Value} (hC : x_cx x g Rm cc own n ws) (hM : y_nm x) (h0 : w[q0]? = some (a, .inr (ci, fs))) (h1 : vwCl[ci]? = some q) (hk : x_okf ws own idx ci k = true) (hfin : (q.2.1 k).2.2.2 = true) (hdecl : (q.2.1 k).1 = own) (hty : parseFieldDescriptor (q.2.1 k).2.2.1 = some ty) (hn : narrow ty v = v) (hfit : fits ty v = true) (hl : k < fs.length) (hd : decode cc pc = .ok (.putfield idx, 3)) (kk : y_W x g n Q (w.set q0 (a, .inr (ci, fs.set k v))) ce sl (pc + 3) ls st) : y_W x g n Q w ce sl pc ls (v :: .ref a :: st) := by
  obtain ⟨p, l, e, R, s, m, args, below, meth, c, cells, slots⟩ := x
  obtain ⟨hx, hb, hml, hown, hts, hK, hN', rfl, hl0, hcc, hss⟩ := hC
  intro H locs la hP hD hS hl'
  obtain ⟨q', h1', h2, h3, h4⟩ := x_okf_spec hk
  cases h1.symm.trans h1'
  obtain ⟨ty0, hty0, hnm⟩ := x_clsok h1
  exact va_putF (ty := ty) hx hb hts h3 ty0 hty0 hnm hown hK hP hD hS q0 h0 h1 k h2 (hts _ h4) (fun _ h => h) hfin hM hdecl hty hn hfit hl hd (fun H1 locs1 hP1 hD1 hS1 => kk H1 locs1 la hP1 hD1 hS1 hl')
/-- a constructor's contract: from the object without its parts to a world -/
def y_MV (g : xG) (y : MethodName) (ws : List Cond) (rm : Room) (ci : Nat) (fs : List Value) (ce sl : Nat) (Wd : Nat → va_W → Prop) : Prop := ∀ (h0 sz : Nat), Met (x_l g) y ws rm (va_Pc [.ref h0] (fun U => U.heap.size = sz ∧ va_P (x_d g) vwCl [(h0, .inr (ci, fs))] U.heap ∧ va_K (x_d g) vwCl (x_tys (x_k g)) U ∧ va_D (fun _ => True) [(h0, .inr (ci, fs))] ∧ (∀ w ∈ x_nest, va_Nw w U) ∧ va_AO RX0 U)) (va_Qv (fun u : va_W => Wd h0 u) (fun u U => va_P (x_d g) vwCl u U.heap ∧ va_K (x_d g) vwCl (x_tys (x_k g)) U ∧ va_D (va_A [(h0, .inr (ci, fs))] sz) u) (va_A [(h0, .inr (ci, fs))] sz)) ce sl (va_A [(h0, .inr (ci, fs))] sz)
def y_Q (x : xX) (g : xG) (Wd : va_W → Prop) (ce sl : Nat) : State → Prop := match x with
  | (p, l, e, R, s, m, args, below, meth, c, cells, slots) => MQ below (va_Qv (fun u : va_W => Wd u) (fun u U => va_P (x_d g) vwCl u U.heap ∧ va_K (x_d g) vwCl (x_tys (x_k g)) U ∧ va_D (x_A g) u) (x_A g)) args s ce sl (x_A g)
abbrev y_g (g : xG) (h0 sz ci : Nat) (fs : List Value) : xG := (x_l g, x_d g, x_k g, x_a g, va_A [(h0, .inr (ci, fs))] sz)
theorem y_start {g : xG} {y : MethodName} {ws ws' : List Cond} {rm : Room} {ci : Nat} {fs : List Value} {ce sl : Nat} {Wd : Nat → va_W → Prop} {cc : ByteArray} {n : Nat} {own : String} (hy : plainName y.cls = true) (hw : ws = Cond.code y cc n none :: ws') (ho : y.cls = own) (hn : y.name = "<init>") (hl : 1 ≤ n)
    (body : ∀ (h0 sz : Nat) (x : xX), x_cx x (y_g g h0 sz ci fs) rm cc own n ws → x_rt x none → y_new x (y_g g h0 sz ci fs) → y_nm x → y_W x (y_g g h0 sz ci fs) n (y_Q x (y_g g h0 sz ci fs) (Wd h0) ce sl) [(h0, .inr (ci, fs))] 0 0 0 [(0, .ref h0)] []) : y_MV g y ws rm ci fs ce sl Wd := by
  intro h0 sz
  refine Met.ofW (cc := cc) (maxL := n) (ret := none) hy hw ?_
  intro p e s m args below meth c s₁ B hml hv
  obtain ⟨rfl, hsz, hP, hK, hD, hN, hO⟩ := hv
  have hfc : s.vm.findClass own = some m.cls := ho ▸ findClass_of_methodNamed B.named
  have hin : meth.name = "<init>" := (name_of_methodNamed B.named B.method).1.trans hn
  subst hsz
  have hb := body h0 s.heap.size (p, x_l g, e, rm, s, m, ([Value.ref h0] : List Value).toArray, below, meth, c, 0, 0) ⟨B.exec, B.bytes, hml, hfc, atoms_spec (ws := ws) B.pre, hK, hN, rfl, rfl, Nat.zero_le _, Nat.zero_le _⟩ ⟨B.returns, B.notSynchronized⟩ ⟨fun q hq => Or.inr hq, hO⟩ hin
  rw [lg_entry_eq]
  exact hb s.heap [] _ hP hD.self va_S.rf (lv_entry [.ref h0] hl)
theorem y_eq {w' : va_W} (h : w = w') (kk : y_W x g n Q w' ce sl pc ls st) : y_W x g n Q w ce sl pc ls st := by
  rw [h]
  exact kk
theorem y_vret {Wd : va_W → Prop} (hC : x_cx x g Rm cc own n ws) (hr : x_rt x none) (hd : decode cc pc = .ok (.return_, 1)) (h : Wd w) : y_W x g n (y_Q x g Wd ce sl) w ce sl pc ls [] := by
  obtain ⟨p, l, e, R, s, m, args, below, meth, c, cells, slots⟩ := x
  obtain ⟨hx, hb, hml, hown, hts, hK, hN, rfl, hl0, hcc, hss⟩ := hC
  intro H locs la hP hD hS hl
  exact W.vret hx hb hr.1 (fun t ht hW => ⟨⟨w, rfl, h, by rw [ht]; exact hP, va_K.moved hW.alike hK, hD⟩, hS.F ht⟩) hS.2.2 hd (hlocks := hr.2)
