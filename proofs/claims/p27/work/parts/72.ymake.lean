/-! constructors that make parts -/
variable {x : xX} {g : xG} {Rm : Room} {cc : ByteArray} {own : String} {n : Nat} {ws : List Cond} {Q : State → Prop} {w : va_W} {ce sl : Nat} {pc : Nat} {ls : List (Nat × Value)} {st : List Value}
theorem y_newO {ci N idx : Nat} {C : String} {T : u_T} {fs : List Value} (hC : x_cx x g Rm cc own n ws) (hY : y_new x g) (hc : vwCl[ci]? = some (C, T, N)) (hu : ∀ w ∈ u_ws C T N, w ∈ ws) (ty : Nat → FieldType) (hty : ∀ k, k < N → parseFieldDescriptor (T k).2.2.1 = some (ty k)) (h1 : Cond.classLink own idx C ∈ ws) (h2 : Cond.instantiable C N ∈ ws) (h3 : Cond.initialized C ∈ ws) (hfs : ∀ j, j < N → defaultValue (ty j) = vp_V fs j) (hce : ce + 1 ≤ Rm.cells) (hsl : sl + N ≤ Rm.slots) (hd : decode cc pc = .ok (.new idx, 3)) (kk : ∀ q : Nat, y_W x g n Q (w ++ [(q, .inr (ci, fs))]) (ce + 1) (sl + N) (pc + 3) ls (.ref q :: st)) : y_W x g n Q w ce sl pc ls st := by
  obtain ⟨p, l, e, R, s, m, args, below, meth, c, cells, slots⟩ := x
  obtain ⟨hx, hb, hml, hown, hts, hK, hN, rfl, hl0, hcc, hss⟩ := hC
  intro H locs la hP hD hS hl
  exact va_new hx hb hts hu ty hty hown (hts _ h1) (hts _ h2) (hts _ h3) hK hP hD hS hY.1 hc hfs hce hsl hd (fun q H1 hP1 hD1 hS1 => kk q H1 locs la hP1 hD1 hS1 hl)
theorem y_callN {host : String} {y : MethodName} {by' : ByteArray} {nl idx ci ce' sl' q : Nat} {wy wy' : List Cond} {rm : Room} {fs : List Value} {Wd : Nat → va_W → Prop} {wr : va_W} (hC : x_cx x g Rm cc own n ws) (hY : y_new x g) (hM : y_MV g y wy rm ci fs ce' sl' Wd) (hG : GoodIn ws wy) (hw : wy = Cond.code y by' nl none :: wy') (hrc : rm.cells = ce') (hrs : rm.slots = sl') (hnw : Cond.methodLinkNest own idx y host ∈ x_nest) (hini : Cond.initialized y.cls ∈ ws) (hinst : Cond.instanceMethod y ∈ ws) (hyn : y.name = "<init>") (hy : y.cls ≠ "java/lang/invoke/MethodHandle" ∧ y.cls ≠ "java/lang/invoke/VarHandle" ∧ (parseMethodDescriptor y.desc).map (fun d => d.parameters.length) = some 0) (hR : rm.frames + 1 ≤ Rm.frames ∧ 8 + (nl + 11) + rm.locals ≤ Rm.locals) (hf : ce + ce' ≤ Rm.cells ∧ sl + sl' ≤ Rm.slots) (hst : (st.map fun v => v.category).sum ≤ 8) (hwe : w = wr ++ [(q, .inr (ci, fs))]) (hnd : va_nd (List.range wr.length) = true) (hd : decode cc pc = .ok (.invokespecial idx, 3)) (kk : ∀ u : va_W, Wd q u → y_W x g n Q (wr ++ u) (ce + ce') (sl + sl') (pc + 3) ls st) : y_W x g n Q w ce sl pc ls (.ref q :: st) := by
  obtain ⟨p, l, e, R, s, m, args, below, meth, c, cells, slots⟩ := x
  obtain ⟨hx, hb, hml, hown, hts, hK, hN, rfl, hl0, hcc, hss⟩ := hC
  intro H locs la hP hD hS hl
  subst hl0
  subst hwe
  have at0 : (wr ++ [(q, (Sum.inr (ci, fs) : va_E))])[wr.length]? = some (q, .inr (ci, fs)) := by simp
  have hPc : va_P (x_d g) vwCl [(q, .inr (ci, fs))] H := hP.sub (ws' := [(q, .inr (ci, fs))]) [wr.length] (by simp)
  have hDc : va_D (fun _ => True) [(q, (Sum.inr (ci, fs) : va_E))] := ⟨fun i j a b h1 h2 _ => by
    have z1 : i < 1 := (List.getElem?_eq_some_iff.mp h1).1
    have z2 : j < 1 := (List.getElem?_eq_some_iff.mp h2).1
    omega, fun _ _ _ => trivial⟩
  have hFc := va_free (wc := [(q, .inr (ci, fs))]) hD hS hY.1 [wr.length] (by simp)
  refine va_callv (va_runIN (As := []) (rest := st) (host := host) ⟨hx, hb, hml, hown, hts⟩ (hM q H.size) ⟨va_cnB 0 hts hG hw hrc hrs (hN _ hnw) (hts _ hini) hy hR, hyn, hts _ hinst⟩ ⟨fun a U g mk z => by obtain ⟨q0, q1, qP, qK, qD, qN, qO⟩ := z; exact ⟨q0, q1, qP, va_K.moved (u := U) (U := U.calling g mk a) (Vm.Alike.refl U.vm) qK, qD, x_nest_same (u := U) rfl qN, va_AO.moved (u := U) (U := U.calling g mk a) (Vm.Alike.refl U.vm) qO⟩, fun U hU hW => ⟨rfl, by rw [hU], by rw [hU]; exact hPc, va_K.moved hW.alike hK, hDc, x_nest_warm hW hN, va_AO.moved hW.alike hY.2⟩⟩ rfl rfl hl.1 rfl (lv_room hst) hd hf) hS (fun z _ h => hFc z h) hFc (fun u t H1 locs1 ht hvm hw2 hB hz1 hk1 hS1 => ?_)
  obtain ⟨hP1, hK1, hD1⟩ := hB
  rw [ht] at hP1
  have hRm : (List.range wr.length).map (fun i => (wr ++ [(q, (Sum.inr (ci, fs) : va_E))])[i]?) = wr.map some := by
    apply List.ext_getElem?
    intro i
    rw [List.getElem?_map, List.getElem?_map]
    by_cases h : i < wr.length
    · rw [List.getElem?_range h, Option.map_some, List.getElem?_append_left h, List.getElem?_eq_getElem h]
      rfl
    · rw [List.getElem?_eq_none (by simp; omega), List.getElem?_eq_none (by omega)]
      rfl
  have hdis : ∀ i ∈ List.range wr.length, i ∉ [wr.length] := by
    intro i hi hi2
    rw [List.mem_singleton] at hi2
    rw [List.mem_range] at hi
    omega
  obtain ⟨hP2, hD2⟩ := va_join (wr := wr) (w1 := u) hP hD [wr.length] (List.range wr.length) (by simp) hRm hnd hdis hk1 hFc hP1 hD1
  exact kk u hw2 H1 locs1 la hP2 hD2 hS1 hl
theorem y_callI {y : MethodName} {by' : ByteArray} {nl idx ci ce' sl' q : Nat} {wy wy' : List Cond} {rm : Room} {fs : List Value} {Wd : Nat → va_W → Prop} {wr : va_W} (hC : x_cx x g Rm cc own n ws) (hY : y_new x g) (hM : y_MV g y wy rm ci fs ce' sl' Wd) (hG : GoodIn ws wy) (hw : wy = Cond.code y by' nl none :: wy') (hrc : rm.cells = ce') (hrs : rm.slots = sl') (hnw : Cond.methodLink own idx y ∈ ws) (hini : Cond.initialized y.cls ∈ ws) (hinst : Cond.instanceMethod y ∈ ws) (hyn : y.name = "<init>") (hy : y.cls ≠ "java/lang/invoke/MethodHandle" ∧ y.cls ≠ "java/lang/invoke/VarHandle" ∧ (parseMethodDescriptor y.desc).map (fun d => d.parameters.length) = some 0) (hR : rm.frames + 1 ≤ Rm.frames ∧ 8 + (nl + 11) + rm.locals ≤ Rm.locals) (hf : ce + ce' ≤ Rm.cells ∧ sl + sl' ≤ Rm.slots) (hst : (st.map fun v => v.category).sum ≤ 8) (hwe : w = wr ++ [(q, .inr (ci, fs))]) (hnd : va_nd (List.range wr.length) = true) (hd : decode cc pc = .ok (.invokespecial idx, 3)) (kk : ∀ u : va_W, Wd q u → y_W x g n Q (wr ++ u) (ce + ce') (sl + sl') (pc + 3) ls st) : y_W x g n Q w ce sl pc ls (.ref q :: st) := by
  obtain ⟨p, l, e, R, s, m, args, below, meth, c, cells, slots⟩ := x
  obtain ⟨hx, hb, hml, hown, hts, hK, hN, rfl, hl0, hcc, hss⟩ := hC
  intro H locs la hP hD hS hl
  subst hl0
  subst hwe
  have at0 : (wr ++ [(q, (Sum.inr (ci, fs) : va_E))])[wr.length]? = some (q, .inr (ci, fs)) := by simp
  have hPc : va_P (x_d g) vwCl [(q, .inr (ci, fs))] H := hP.sub (ws' := [(q, .inr (ci, fs))]) [wr.length] (by simp)
  have hDc : va_D (fun _ => True) [(q, (Sum.inr (ci, fs) : va_E))] := ⟨fun i j a b h1 h2 _ => by
    have z1 : i < 1 := (List.getElem?_eq_some_iff.mp h1).1
    have z2 : j < 1 := (List.getElem?_eq_some_iff.mp h2).1
    omega, fun _ _ _ => trivial⟩
  have hFc := va_free (wc := [(q, .inr (ci, fs))]) hD hS hY.1 [wr.length] (by simp)
  refine va_callv (va_runI (As := []) (rest := st) ⟨hx, hb, hml, hown, hts⟩ (hM q H.size) (cwI 0 hts hG hw hrc hrs (hts _ hini) (hts _ hnw) (hts _ hinst) hyn hy hR) ⟨fun a U g mk z => by obtain ⟨q0, q1, qP, qK, qD, qN, qO⟩ := z; exact ⟨q0, q1, qP, va_K.moved (u := U) (U := U.calling g mk a) (Vm.Alike.refl U.vm) qK, qD, x_nest_same (u := U) rfl qN, va_AO.moved (u := U) (U := U.calling g mk a) (Vm.Alike.refl U.vm) qO⟩, fun U hU hW => ⟨rfl, by rw [hU], by rw [hU]; exact hPc, va_K.moved hW.alike hK, hDc, x_nest_warm hW hN, va_AO.moved hW.alike hY.2⟩⟩ rfl rfl hl.1 rfl (lv_room hst) hd hf) hS (fun z _ h => hFc z h) hFc (fun u t H1 locs1 ht hvm hw2 hB hz1 hk1 hS1 => ?_)
  obtain ⟨hP1, hK1, hD1⟩ := hB
  rw [ht] at hP1
  have hRm : (List.range wr.length).map (fun i => (wr ++ [(q, (Sum.inr (ci, fs) : va_E))])[i]?) = wr.map some := by
    apply List.ext_getElem?
    intro i
    rw [List.getElem?_map, List.getElem?_map]
    by_cases h : i < wr.length
    · rw [List.getElem?_range h, Option.map_some, List.getElem?_append_left h, List.getElem?_eq_getElem h]
      rfl
    · rw [List.getElem?_eq_none (by simp; omega), List.getElem?_eq_none (by omega)]
      rfl
  have hdis : ∀ i ∈ List.range wr.length, i ∉ [wr.length] := by
    intro i hi hi2
    rw [List.mem_singleton] at hi2
    rw [List.mem_range] at hi
    omega
  obtain ⟨hP2, hD2⟩ := va_join (wr := wr) (w1 := u) hP hD [wr.length] (List.range wr.length) (by simp) hRm hnd hdis hk1 hFc hP1 hD1
  exact kk u hw2 H1 locs1 la hP2 hD2 hS1 hl
theorem y_anew {idx N : Nat} {v : Int32} (hC : x_cx x g Rm cc own n ws) (hY : y_new x g) (hw : Cond.classLink own idx RX0 ∈ ws) (hv : v = nI N) (hN : N < 5000) (hce : ce + 1 ≤ Rm.cells) (hsl : sl + N ≤ Rm.slots) (hd : decode cc pc = .ok (.anewarray idx, 3)) (kk : ∀ q : Nat, y_W x g n Q (w ++ [(q, .inl (x_k g 3, N, .inr (.inr (.inr (.inr (fun _ => none))))))]) (ce + 1) (sl + N) (pc + 3) ls (.ref q :: st)) : y_W x g n Q w ce sl pc ls (.int v :: st) := by
  obtain ⟨p, l, e, R, s, m, args, below, meth, c, cells, slots⟩ := x
  obtain ⟨hx, hb, hml, hown, hts, hK, hN', rfl, hl0, hcc, hss⟩ := hC
  intro H locs la hP hD hS hl
  subst hv
  have hc : (nI N).toNatClampNeg = N := x_cl hN
  refine va_newq hx hb hown (hts _ hw) hY.2 hK hP hD hS hY.1 (x_neg hN) hc (by omega) hce hsl hd (fun q cA H1 hK1 hP1 hD1 hS1 => ?_)
  have a1 : va_RA s (x_k g 3) (.object RX0) := (hK1.2 3 (x_k g 3, .object RX0) rfl).2
  have a2 : va_RA s cA (.object RX0) := (hK1.2 4 (cA, .object RX0) rfl).2
  obtain ⟨_, _, _, _, _, b1⟩ := a1
  obtain ⟨_, _, _, _, _, b2⟩ := a2
  have e := Option.some.inj (b2.symm.trans b1)
  subst e
  exact kk q H1 locs la hP1 hD1 hS1 hl
theorem y_astq {a q0 qk N v : Nat} {i : Int32} {vs : List Value} {f : Nat → Option Nat} (hC : x_cx x g Rm cc own n ws) (ha : w[q0]? = some (a, .inl (x_k g 3, N, .inr (.inr (.inr (.inr f)))))) (hv : w[qk]? = some (v, .inr (0, vs))) (hin : vp_in i N) (hd : decode cc pc = .ok (.aastore, 1)) (kk : y_W x g n Q (w.set q0 (a, .inl (x_k g 3, N, .inr (.inr (.inr (.inr (va_up f i.toNatClampNeg (some v)))))))) ce sl (pc + 1) ls st) : y_W x g n Q w ce sl pc ls (.ref v :: .int i :: .ref a :: st) := by
  obtain ⟨p, l, e, R, s, m, args, below, meth, c, cells, slots⟩ := x
  obtain ⟨hx, hb, hml, hown, hts, hK, hN', rfl, hl0, hcc, hss⟩ := hC
  intro H locs la hP hD hS hl
  exact va_astq (r := (RX0, TX0, 6)) hx hb hK hP hD hS q0 3 qk 0 ha rfl hv rfl hin hd (fun H1 locs1 hP1 hD1 hS1 => kk H1 locs1 la hP1 hD1 hS1 hl)
theorem y_get {a ci k idx q0 : Nat} {fs : List Value} {q : vw_C} {v : Value} (hC : x_cx x g Rm cc own n ws) (h0 : w[q0]? = some (a, .inr (ci, fs))) (h1 : vwCl[ci]? = some q) (hk : x_okf ws own idx ci k = true) (hv : fs[k]? = some v) (hd : decode cc pc = .ok (.getfield idx, 3)) (kk : y_W x g n Q w ce sl (pc + 3) ls (v :: st)) : y_W x g n Q w ce sl pc ls (.ref a :: st) := by
  obtain ⟨p, l, e, R, s, m, args, below, meth, c, cells, slots⟩ := x
  obtain ⟨hx, hb, hml, hown, hts, hK, hN, rfl, hl0, hcc, hss⟩ := hC
  intro H locs la hP hD hS hl
  obtain ⟨q', h1', h2, h3, h4⟩ := x_okf_spec hk
  cases h1.symm.trans h1'
  exact va_get (v := v) hx hb hts h3 hown hK hP q0 h0 h1 k h2 (hts _ h4) (fun _ h => h) hv hd (kk H locs la hP hD hS hl)
theorem y_iast {a q0 N : Nat} {i v : Int32} {f : Nat → Int32} (hC : x_cx x g Rm cc own n ws) (h0 : w[q0]? = some (a, .inl (x_k g 0, N, .inl f))) (hi : vp_in i N) (hd : decode cc pc = .ok (.iastore, 1)) (kk : y_W x g n Q (w.set q0 (a, .inl (x_k g 0, N, .inl (upd f i.toNatClampNeg v)))) ce sl (pc + 1) ls st) : y_W x g n Q w ce sl pc ls (.int v :: .int i :: .ref a :: st) := by
  obtain ⟨p, l, e, R, s, m, args, below, meth, c, cells, slots⟩ := x
  obtain ⟨hx, hb, hml, hown, hts, hK, hN, rfl, hl0, hcc, hss⟩ := hC
  intro H locs la hP hD hS hl
  exact va_iast hx hb hK hP hD hS q0 0 h0 rfl hi hd (fun H1 locs1 hP1 hD1 hS1 => kk H1 locs1 la hP1 hD1 hS1 hl)
theorem y_upd0 (k : Nat) : upd (fun _ => (0 : Int32)) k 0 = fun _ => 0 := by
  funext j
  simp [upd]
