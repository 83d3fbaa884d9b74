/-! THE WORLD: 205 cells by number: an evening e (0 the class's own, 1..6 the history's, 7, 8 the slots') is 20 * e + j; 180 SingerQueue, 181 History, 185 Pad, 187 PadReader, 191 Preview, and their arrays; 193 .. 204 the law's own arrays q si so wi pa be q2 si2 so2 wi2 pa2 be2. What a call can change are numbers alone: M a k is field or place k of the cell a. -/
abbrev xM : Type := Nat → Nat → Int32
def x_up (M : xM) (a k : Nat) (v : Int32) : xM := fun b j => if b = a ∧ j = k then v else M b j
def x_row (M : xM) (a : Nat) (f : Nat → Int32) : xM := fun b => if b = a then f else M b
def xE_obj : Nat → Option (Nat × List (Option Nat))
  | 0 => some (0, [some 1, some 6, some 11, some 15, none, none])
  | 1 => some (6, [none, none, none, some 2, some 3, some 4, some 5])
  | 6 => some (7, [none, some 7, some 8, some 9, some 10])
  | 11 => some (8, [none, some 12, some 13, some 14])
  | 15 => some (4, [none, some 16, some 17, some 18, some 19])
  | _ => none
def xE_len : Nat → Option Nat
  | 2 => some 12
  | 3 => some 12
  | 4 => some 12
  | 5 => some 12
  | 7 => some 16
  | 8 => some 16
  | 9 => some 16
  | 10 => some 16
  | 12 => some 20
  | 13 => some 20
  | 14 => some 20
  | 16 => some 12
  | 17 => some 12
  | 18 => some 12
  | 19 => some 12
  | _ => none
def xR_obj : Nat → Option (Nat × List (Option Nat))
  | 0 => some (9, [some 0, some 181, some 183, some 184, some 185, some 187, some 191])
  | 1 => some (1, [some 182, none, none])
  | 5 => some (2, [some 186, none])
  | 7 => some (3, [some 188, some 189, some 190, none, none])
  | 11 => some (5, [some 192, none, none])
  | _ => none
def xR_arr : Nat → Option (Nat × Nat)
  | 4 => some (1, 2)
  | 6 => some (2, 60)
  | 8 => some (0, 15)
  | 9 => some (0, 15)
  | 10 => some (0, 15)
  | 12 => some (0, 12)
  | 13 => some (0, 8)
  | 14 => some (0, 48)
  | 15 => some (0, 64)
  | 16 => some (0, 20)
  | 17 => some (0, 12)
  | 18 => some (0, 12)
  | 19 => some (0, 8)
  | 20 => some (0, 48)
  | 21 => some (0, 64)
  | 22 => some (0, 20)
  | 23 => some (0, 12)
  | 24 => some (0, 12)
  | _ => none
def x_obj (a : Nat) : Option (Nat × List (Option Nat)) :=
  if a < 180 then (xE_obj (a % 20)).map (fun q => (q.1, q.2.map (fun r => r.map (fun j => 20 * (a / 20) + j)))) else xR_obj (a - 180)
def x_arr (a : Nat) : Option (Nat × Nat) := if a < 180 then (xE_len (a % 20)).map (fun n => (0, n)) else xR_arr (a - 180)
def x_ref (a : Nat) : Option (Nat × Nat) := if a = 182 then some (6, 1) else if a = 183 then some (2, 7) else none
def x_fv (ad : Nat → Nat) (f : Nat → Int32) (k : Nat) (o : Option Nat) : Value := match o with
  | none => .int (f k)
  | some r => .ref (ad r)
def x_cell (kc : Nat → ClassId) (ad : Nat → Nat) (M : xM) (a : Nat) : va_E := match x_obj a with
  | some q => .inr (q.1, q.2.mapIdx (x_fv ad (M a)))
  | none => match x_arr a with
    | some q => .inl (kc q.1, q.2, .inl (M a))
    | none => match x_ref a with
      | some q => .inl (kc 3, q.1, .inr (.inr (.inr (.inr (fun j => some (ad (20 * (q.2 + j))))))))
      | none => .inr (0, [])
def x_wd (kc : Nat → ClassId) (ad : Nat → Nat) (M : xM) : va_W := (List.range 205).map (fun a => (ad a, x_cell kc ad M a))
def x_isO (a ci : Nat) (fs : List (Option Nat)) : Prop := a < 205 ∧ x_obj a = some (ci, fs)
def x_isA (a t n : Nat) : Prop := a < 205 ∧ x_obj a = none ∧ x_arr a = some (t, n)
def x_isR (a n b : Nat) : Prop := a < 205 ∧ x_obj a = none ∧ x_arr a = none ∧ x_ref a = some (n, b)
theorem x_objE {e j : Nat} {ci : Nat} {fs : List (Option Nat)} (he : e < 9) (hj : j < 20) (h : xE_obj j = some (ci, fs)) : x_isO (20 * e + j) ci (fs.map (fun r => r.map (fun i => 20 * e + i))) := by
  refine ⟨by omega, ?_⟩
  have h1 : (20 * e + j) % 20 = j := by omega
  have h2 : (20 * e + j) / 20 = e := by omega
  unfold x_obj
  rw [if_pos (by omega), h1, h2, h]
  rfl
theorem x_arrE {e j n : Nat} (he : e < 9) (hj : j < 20) (h : xE_obj j = none) (h2 : xE_len j = some n) : x_isA (20 * e + j) 0 n := by
  have e1 : (20 * e + j) % 20 = j := by omega
  refine ⟨by omega, ?_, ?_⟩
  · unfold x_obj
    rw [if_pos (by omega), e1, h]
    rfl
  · unfold x_arr
    rw [if_pos (by omega), e1, h2]
    rfl
theorem x_cell_obj {kc : Nat → ClassId} {ad : Nat → Nat} {M : xM} {a ci : Nat} {fs : List (Option Nat)} (h : x_isO a ci fs) : x_cell kc ad M a = .inr (ci, fs.mapIdx (x_fv ad (M a))) := by
  unfold x_cell
  rw [h.2]
theorem x_cell_arr {kc : Nat → ClassId} {ad : Nat → Nat} {M : xM} {a t n : Nat} (h : x_isA a t n) : x_cell kc ad M a = .inl (kc t, n, .inl (M a)) := by
  unfold x_cell
  rw [h.2.1, h.2.2]
theorem x_cell_ref {kc : Nat → ClassId} {ad : Nat → Nat} {M : xM} {a n b : Nat} (h : x_isR a n b) : x_cell kc ad M a = .inl (kc 3, n, .inr (.inr (.inr (.inr (fun j => some (ad (20 * (b + j)))))))) := by
  unfold x_cell
  rw [h.2.1, h.2.2.1, h.2.2.2]
theorem x_cell_cong {kc : Nat → ClassId} {ad : Nat → Nat} {M M' : xM} {a : Nat} (h : M' a = M a) : x_cell kc ad M' a = x_cell kc ad M a := by
  unfold x_cell
  rw [h]
theorem x_wd_at {kc : Nat → ClassId} {ad : Nat → Nat} {M : xM} {a : Nat} (h : a < 205) : (x_wd kc ad M)[a]? = some (ad a, x_cell kc ad M a) := by
  simp [x_wd, h]
theorem x_wd_obj {kc : Nat → ClassId} {ad : Nat → Nat} {M : xM} {a ci : Nat} {fs : List (Option Nat)} (h : x_isO a ci fs) : (x_wd kc ad M)[a]? = some (ad a, .inr (ci, fs.mapIdx (x_fv ad (M a)))) := by
  rw [x_wd_at h.1, x_cell_obj h]
theorem x_wd_arr {kc : Nat → ClassId} {ad : Nat → Nat} {M : xM} {a t n : Nat} (h : x_isA a t n) : (x_wd kc ad M)[a]? = some (ad a, .inl (kc t, n, .inl (M a))) := by
  rw [x_wd_at h.1, x_cell_arr h]
theorem x_wd_ref {kc : Nat → ClassId} {ad : Nat → Nat} {M : xM} {a n b : Nat} (h : x_isR a n b) : (x_wd kc ad M)[a]? = some (ad a, .inl (kc 3, n, .inr (.inr (.inr (.inr (fun j => some (ad (20 * (b + j))))))))) := by
  rw [x_wd_at h.1, x_cell_ref h]
theorem x_wd_set {kc : Nat → ClassId} {ad : Nat → Nat} {M M' : xM} {a : Nat} {e : va_E} (ha : a < 205) (he : x_cell kc ad M' a = e) (ho : ∀ b, b ≠ a → M' b = M b) : (x_wd kc ad M).set a (ad a, e) = x_wd kc ad M' := by
  apply List.ext_getElem?
  intro i
  rw [List.getElem?_set]
  by_cases h : a = i
  · subst h
    rw [if_pos rfl, if_pos (by simp [x_wd, ha]), x_wd_at ha, he]
  · rw [if_neg h]
    by_cases hi : i < 205
    · rw [x_wd_at hi, x_wd_at hi, x_cell_cong (ho i (Ne.symm h))]
    · simp [x_wd, hi]
theorem x_up_other {M : xM} {a k : Nat} {v : Int32} {b : Nat} (h : b ≠ a) : x_up M a k v b = M b := by
  funext j
  simp [x_up, h]
theorem x_up_same {M : xM} {a k : Nat} {v : Int32} : x_up M a k v a = upd (M a) k v := by
  funext j
  simp [x_up, upd]
theorem x_row_other {M : xM} {a : Nat} {f : Nat → Int32} {b : Nat} (h : b ≠ a) : x_row M a f b = M b := by
  simp [x_row, h]
theorem x_row_same {M : xM} {a : Nat} {f : Nat → Int32} : x_row M a f a = f := by
  simp [x_row]
theorem x_set_obj {kc : Nat → ClassId} {ad : Nat → Nat} {M : xM} {a ci k : Nat} {fs : List (Option Nat)} {v : Int32} (h : x_isO a ci fs) (hk : fs[k]? = some none) : (x_wd kc ad M).set a (ad a, .inr (ci, (fs.mapIdx (x_fv ad (M a))).set k (.int v))) = x_wd kc ad (x_up M a k v) := by
  refine x_wd_set h.1 ?_ (fun b hb => x_up_other hb)
  rw [x_cell_obj h]
  refine congrArg (fun z => Sum.inr (ci, z)) ?_
  apply List.ext_getElem?
  intro i
  rw [List.getElem?_set, List.getElem?_mapIdx, List.getElem?_mapIdx]
  by_cases hi : k = i
  · subst hi
    rw [if_pos rfl, hk]
    have hl : k < fs.length := (List.getElem?_eq_some_iff.mp hk).1
    simp [x_fv, x_up, hl]
  · rw [if_neg hi]
    cases hq : fs[i]? with
    | none => rfl
    | some o => cases o with
      | none => simp [x_fv, x_up, Ne.symm hi]
      | some r => simp [x_fv]
theorem x_set_arr {kc : Nat → ClassId} {ad : Nat → Nat} {M : xM} {a t n k : Nat} {v : Int32} (h : x_isA a t n) : (x_wd kc ad M).set a (ad a, .inl (kc t, n, .inl (upd (M a) k v))) = x_wd kc ad (x_up M a k v) := by
  refine x_wd_set h.1 ?_ (fun b hb => x_up_other hb)
  rw [x_cell_arr h, x_up_same]
theorem x_set_row {kc : Nat → ClassId} {ad : Nat → Nat} {M : xM} {a t n : Nat} {f : Nat → Int32} (h : x_isA a t n) : (x_wd kc ad M).set a (ad a, .inl (kc t, n, .inl f)) = x_wd kc ad (x_row M a f) := by
  refine x_wd_set h.1 ?_ (fun b hb => x_row_other hb)
  rw [x_cell_arr h, x_row_same]
/-! what a walk knows -/
abbrev xG : Type := Launch × va_G × (Nat → ClassId) × (Nat → Nat) × (Nat → Prop)
abbrev x_l (g : xG) : Launch := g.1
abbrev x_d (g : xG) : va_G := g.2.1
abbrev x_k (g : xG) : Nat → ClassId := g.2.2.1
abbrev x_a (g : xG) : Nat → Nat := g.2.2.2.1
abbrev x_A (g : xG) : Nat → Prop := g.2.2.2.2
abbrev x_w (g : xG) (M : xM) : va_W := x_wd (x_k g) (x_a g) M
def x_tys (kc : Nat → ClassId) : List (ClassId × FieldType) := [(kc 0, .int), (kc 1, .boolean), (kc 2, .char), (kc 3, .object RX0)]
def x_nest : List Cond := [.methodLinkNest RX0 11 yX6_init RX9, .methodLinkNest RX0 20 yX7_init RX9, .methodLinkNest RX0 27 yX8_init RX9, .methodLinkNest RX0 34 yX4_init RX9, .methodLinkNest RX0 81 yX9_isIn RX9, .methodLinkNest RX1 17 yX0_init RX9, .methodLinkNest RX4 34 yX9_copyRow RX9, .methodLinkNest RX5 28 yX9_copyRow RX9, .methodLinkNest RX5 66 yX9_isIn RX9, .methodLinkNest RX6 28 yX9_isBetween RX9, .methodLinkNest RX6 35 yX9_isIn RX9, .methodLinkNest RX6 46 yX9_copyRow RX9, .methodLinkNest RX7 28 yX9_isBetween RX9, .methodLinkNest RX7 36 yX9_copyRow RX9, .methodLinkNest RX8 25 yX9_isBetween RX9, .methodLinkNest RX8 33 yX9_isIn RX9, .methodLinkNest RX8 56 yX9_copyRow RX9, .methodLinkNest RX9 11 yX0_init RX9, .methodLinkNest RX9 33 yX2_init RX9, .methodLinkNest RX9 40 yX3_init RX9, .methodLinkNest RX9 47 yX5_init RX9]
theorem x_nest_in : ∀ w ∈ x_nest, w ∈ lw_tbl := by decide +kernel
theorem x_nest_tab : ∀ w ∈ x_nest, w.onTables = true := by decide +kernel
def x_wS (g : xG) (M : xM) (U : State) : Prop := va_P (x_d g) vwCl (x_w g M) U.heap ∧ va_K (x_d g) vwCl (x_tys (x_k g)) U ∧ va_D (x_A g) (x_w g M) ∧ ∀ w ∈ x_nest, va_Nw w U
theorem x_nest_same {u U : State} (h : u.vm = U.vm) (hN : ∀ w ∈ x_nest, va_Nw w u) : ∀ w ∈ x_nest, va_Nw w U := fun w hw => va_Nw.same (x_nest_tab w hw) h (hN w hw)
theorem x_nest_warm {s U : State} (hW : s.WarmedH U.vm) (hN : ∀ w ∈ x_nest, va_Nw w s) : ∀ w ∈ x_nest, va_Nw w U := by
  intro w hw
  have h := hN w hw
  simp only [x_nest, List.mem_cons, List.not_mem_nil, or_false] at hw
  rcases hw with rfl | rfl | rfl | rfl | rfl | rfl | rfl | rfl | rfl | rfl | rfl | rfl | rfl | rfl | rfl | rfl | rfl | rfl | rfl | rfl | rfl | rfl | rfl <;> exact va_Nw.warmM hW h
def x_MI (g : xG) (y : MethodName) (ws : List Cond) (rm : Room) (as : List Value) (M : xM) (P : Int32 → xM → Prop) : Prop := Met (x_l g) y ws rm (va_Pc as (x_wS g M)) (va_Qi P (x_wS g) (x_A g)) 0 0 (x_A g)
def x_MV (g : xG) (y : MethodName) (ws : List Cond) (rm : Room) (as : List Value) (M : xM) (P : xM → Prop) : Prop := Met (x_l g) y ws rm (va_Pc as (x_wS g M)) (va_Qv P (x_wS g) (x_A g)) 0 0 (x_A g)
theorem x_Met_imp {l : Launch} {y : MethodName} {ws : List Cond} {rm : Room} {Pc : Array Value → State → Prop} {Q Q' : Array Value → State → Outcome → State → Prop} {mc ms : Nat} {free : Addr → Prop} (h : Met l y ws rm Pc Q mc ms free) (hq : ∀ a s o t, Q a s o t → Q' a s o t) : Met l y ws rm Pc Q' mc ms free := by
  intro p e ha hc hk s m args below hf happ hP hK
  obtain ⟨n, o, h1, h2, h3, h4⟩ := h p e ha hc hk s m args below hf happ hP hK
  exact ⟨n, o, h1, h2, h3, hq _ _ _ _ h4.1, h4.2⟩
theorem x_MI_mono {g : xG} {y : MethodName} {ws : List Cond} {rm : Room} {as : List Value} {M : xM} {P P' : Int32 → xM → Prop} (h : x_MI g y ws rm as M P) (hp : ∀ r N, P r N → P' r N) : x_MI g y ws rm as M P' :=
  x_Met_imp h fun _ _ _ _ q => ⟨by obtain ⟨⟨r, u, h1, h2, h3⟩, -⟩ := q; exact ⟨r, u, h1, hp r u h2, h3⟩, q.2⟩
theorem x_MV_mono {g : xG} {y : MethodName} {ws : List Cond} {rm : Room} {as : List Value} {M : xM} {P P' : xM → Prop} (h : x_MV g y ws rm as M P) (hp : ∀ N, P N → P' N) : x_MV g y ws rm as M P' :=
  x_Met_imp h fun _ _ _ _ q => ⟨by obtain ⟨⟨u, h1, h2, h3⟩, -⟩ := q; exact ⟨u, h1, hp u h2, h3⟩, q.2⟩
/-- a walk's own: program, launch .. and how many cells and slots were made ahead of it -/
abbrev xX : Type := Program × Launch × Env × Room × State × MethodId × Array Value × List Frame × Method × Code × Nat × Nat
def x_W (x : xX) (g : xG) (n : Nat) (Q : State → Prop) (M : xM) (pc : Nat) (ls : List (Nat × Value)) (st : List Value) : Prop := match x with
  | (p, l, e, R, s, m, args, below, meth, c, cells, slots) => ∀ (H : Heap) (locs : List Loc) (la : Array Slot), va_P (x_d g) vwCl (x_w g M) H → va_D (x_A g) (x_w g M) → va_S (x_A g) s.heap H locs → lv_has la n ls → W p l e R s m args below meth c H locs cells slots Q (F0 m pc la st)
def x_cx (x : xX) (g : xG) (Rm : Room) (cc : ByteArray) (own : String) (n : Nat) (ws : List Cond) : Prop := match x with
  | (p, l, e, R, s, m, args, below, meth, c, cells, slots) => p.tables.exec = Jvm.exec ∧ c.code = cc ∧ c.maxLocals = n ∧ s.vm.findClass own = some m.cls ∧ (∀ w ∈ ws, w.before args s = true) ∧ va_K (x_d g) vwCl (x_tys (x_k g)) s ∧ (∀ w ∈ x_nest, va_Nw w s) ∧ R = Rm ∧ l = x_l g ∧ cells ≤ R.cells ∧ slots ≤ R.slots
def x_rt (x : xX) (ret : Option FieldType) : Prop := match x with
  | (p, l, e, R, s, m, args, below, meth, c, cells, slots) => meth.sig.returnType = ret ∧ meth.locks = false
def x_Qi (x : xX) (g : xG) (P : Int32 → xM → Prop) : State → Prop := match x with
  | (p, l, e, R, s, m, args, below, meth, c, cells, slots) => MQ below (va_Qi P (x_wS g) (x_A g)) args s cells slots (x_A g)
def x_Qv (x : xX) (g : xG) (P : xM → Prop) : State → Prop := match x with
  | (p, l, e, R, s, m, args, below, meth, c, cells, slots) => MQ below (va_Qv P (x_wS g) (x_A g)) args s cells slots (x_A g)
theorem x_startI {g : xG} {y : MethodName} {ws ws' : List Cond} {rm : Room} {as : List Value} {M : xM} {P : Int32 → xM → Prop} {cc : ByteArray} {n : Nat} {ret : Option FieldType} {own : String} (hy : plainName y.cls = true) (hw : ws = Cond.code y cc n ret :: ws') (ho : y.cls = own) (hl : (lg_sl as).length ≤ n)
    (body : ∀ x, x_cx x g rm cc own n ws → x_rt x ret → x_W x g n (x_Qi x g P) M 0 (lv_args 0 as) []) : x_MI g y ws rm as M P := by
  refine Met.ofW (cc := cc) (maxL := n) (ret := ret) hy hw ?_
  intro p e s m args below meth c s₁ B hml hv
  obtain ⟨rfl, hP, hK, hD, hN⟩ := hv
  have hfc : s.vm.findClass own = some m.cls := ho ▸ findClass_of_methodNamed B.named
  have hb := body (p, x_l g, e, rm, s, m, as.toArray, below, meth, c, 0, 0) ⟨B.exec, B.bytes, hml, hfc, atoms_spec (ws := ws) B.pre, hK, hN, rfl, rfl, Nat.zero_le _, Nat.zero_le _⟩ ⟨B.returns, B.notSynchronized⟩
  rw [lg_entry_eq]
  exact hb s.heap [] _ hP hD va_S.rf (lv_entry as hl)
theorem x_startV {g : xG} {y : MethodName} {ws ws' : List Cond} {rm : Room} {as : List Value} {M : xM} {P : xM → Prop} {cc : ByteArray} {n : Nat} {ret : Option FieldType} {own : String} (hy : plainName y.cls = true) (hw : ws = Cond.code y cc n ret :: ws') (ho : y.cls = own) (hl : (lg_sl as).length ≤ n)
    (body : ∀ x, x_cx x g rm cc own n ws → x_rt x ret → x_W x g n (x_Qv x g P) M 0 (lv_args 0 as) []) : x_MV g y ws rm as M P := by
  refine Met.ofW (cc := cc) (maxL := n) (ret := ret) hy hw ?_
  intro p e s m args below meth c s₁ B hml hv
  obtain ⟨rfl, hP, hK, hD, hN⟩ := hv
  have hfc : s.vm.findClass own = some m.cls := ho ▸ findClass_of_methodNamed B.named
  have hb := body (p, x_l g, e, rm, s, m, as.toArray, below, meth, c, 0, 0) ⟨B.exec, B.bytes, hml, hfc, atoms_spec (ws := ws) B.pre, hK, hN, rfl, rfl, Nat.zero_le _, Nat.zero_le _⟩ ⟨B.returns, B.notSynchronized⟩
  rw [lg_entry_eq]
  exact hb s.heap [] _ hP hD va_S.rf (lv_entry as hl)
