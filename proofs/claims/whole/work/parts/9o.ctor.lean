/-! constructors: a world that grows -/
abbrev TY : Type := List (ClassId × FieldType)
def isMN (w : Cond) : Bool := match w with
  | .methodLinkNest .. => true
  | _ => false
def lw_nm : List Cond := lw_tbl.filter isMN
theorem mnn_1 {w : Cond} (i : Nat) (h : tables_1_1[i]? = some w) (hg : isMN w = true) : w ∈ lw_nm := List.mem_filter.mpr ⟨List.mem_append_right _ (List.mem_append_left _ (List.mem_of_getElem? h)), hg⟩
def NWm (U : State) : Prop := (∀ w ∈ lw_nm, va_Nw w U) ∧ va_AO "InstrumentFiles$Method" U
theorem NWm.same {u U : State} (h : u.vm = U.vm) (hN : NWm u) : NWm U := ⟨fun w hw => by
  have hw2 := (List.mem_filter.mp hw).2
  cases w <;> first | (cases hw2; done) | exact va_Nw.same rfl h (hN.1 _ hw), va_AO.moved (h ▸ Vm.Alike.refl u.vm) hN.2⟩
theorem NWm.warm {s U : State} (h : s.WarmedH U.vm) (hN : NWm s) : NWm U := ⟨fun w hw => by
  have hw2 := (List.mem_filter.mp hw).2
  cases w <;> first | (cases hw2; done) | exact va_Nw.warmM h (hN.1 _ hw), va_AO.moved h.alike hN.2⟩
def CPre (D : va_G) (k h0 sz : Nat) (f0 : List Value) (U : State) : Prop := U.heap.size = sz ∧ va_P D clsL [(h0, .inr (k, f0))] U.heap ∧ va_K D clsL [] U ∧ NWm U
def CEnd (D : va_G) (A : Nat → Prop) (u : va_W × TY) (t : State) : Prop := va_P D clsL u.1 t.heap ∧ va_K D clsL u.2 t ∧ va_D A u.1
def cA0 (k h0 sz : Nat) (f0 : List Value) : Nat → Prop := va_A [(h0, .inr (k, f0))] sz
/-- a constructor's contract: from a fresh object, the world that Post tells -/
def MetN (y : MethodName) (cc : ByteArray) (nL fr lo mc ms k : Nat) (f0 : List Value) (Post : Nat → va_W → TY → Prop) : Prop :=
  ∀ (l : Launch) (D : va_G) (h0 sz : Nat), Met l y (wsS0 y cc nL none) { frames := fr, cells := mc, slots := ms, locals := lo } (va_Pc [.ref h0] (CPre D k h0 sz f0)) (va_Qv (fun u : va_W × TY => Post h0 u.1 u.2) (CEnd D (cA0 k h0 sz f0)) (cA0 k h0 sz f0)) mc ms (cA0 k h0 sz f0)
def CNw (p : Program) (s : State) (m : MethodId) (args : Array Value) (c : Code) (A : Nat → Prop) (cc : ByteArray) (own : String) (nL : Nat) : Prop :=
  p.tables.exec = Jvm.exec ∧ c.code = cc ∧ c.maxLocals = nL ∧ s.vm.findClass own = some m.cls ∧ (∀ w ∈ lw_gd, w.before args s = true) ∧ NWm s ∧ (∀ q, s.heap.size ≤ q → A q)
def WC (p : Program) (l : Launch) (e : Env) (R : Room) (s : State) (m : MethodId) (args : Array Value) (below : List Frame) (meth : Method) (c : Code) (D : va_G) (A : Nat → Prop) (nL cells slots : Nat) (Q : State → Prop) (pc : Nat) (lv : List (Nat × Value)) (st : List Value) (ws : va_W) (tys : TY) : Prop :=
  ∀ (H : Heap) (locs : List Loc) (ls : Array Slot), va_K D clsL tys s → va_P D clsL ws H → va_D A ws → va_S A s.heap H locs → lv_has ls nL lv → W p l e R s m args below meth c H locs cells slots Q (F0 m pc ls st)
theorem va_D_one {A : Nat → Prop} {q : Nat × va_E} (h : A q.1) : va_D A [q] := by
  refine ⟨fun i j a b hi hj _ => ?_, fun k x hk => ?_⟩
  · have h1 := (List.getElem?_eq_some_iff.mp hi).1
    have h2 := (List.getElem?_eq_some_iff.mp hj).1
    simp only [List.length_cons, List.length_nil] at h1 h2
    omega
  · have h1 := (List.getElem?_eq_some_iff.mp hk).1
    simp only [List.length_cons, List.length_nil] at h1
    rw [show k = 0 by omega] at hk
    cases hk
    exact h
theorem va_nd_of : ∀ {L : List Nat}, L.Nodup → va_nd L = true
  | [], _ => rfl
  | a :: t, h => by
    rw [List.nodup_cons] at h
    show (decide (a ∉ t) && va_nd t) = true
    rw [va_nd_of h.2, Bool.and_true]
    exact decide_eq_true h.1
theorem lk_range {w : va_W} {c : va_W} : (List.range w.length).map (fun i => (w ++ c)[i]?) = w.map some := by
  apply List.ext_getElem?
  intro j
  rw [List.getElem?_map, List.getElem?_map]
  by_cases hj : j < w.length
  · rw [List.getElem?_range hj]
    show some ((w ++ c)[j]?) = _
    rw [List.getElem?_append_left hj, List.getElem?_eq_getElem hj]; rfl
  · rw [List.getElem?_eq_none (by simp; omega), List.getElem?_eq_none (by omega)]; rfl
section WCK
variable {p : Program} {l : Launch} {e : Env} {R : Room} {s : State} {m : MethodId} {args : Array Value} {below : List Frame} {meth : Method} {c : Code} {D : va_G} {A : Nat → Prop} {cells slots : Nat} {Q : State → Prop} {cc : ByteArray} {own : String} {nL : Nat}
variable {pc nxt tgt : Nat} {lv : List (Nat × Value)} {st : List Value} {ws : va_W} {tys : TY} {x : Nat × va_E} {rest : va_W} {off : Int} {idx : Nat}
theorem MetN.of {y : MethodName} {fr lo mc ms k : Nat} {f0 : List Value} {Post : Nat → va_W → TY → Prop} (hy : plainName y.cls = true) (hin : y.name = "<init>") (hn : 1 ≤ nL)
    (body : ∀ (p : Program) (l : Launch) (e : Env) (s : State) (m : MethodId) (args : Array Value) (below : List Frame) (meth : Method) (c : Code) (D : va_G) (h0 : Nat), CNw p s m args c (cA0 k h0 s.heap.size f0) cc y.cls nL → meth.name = "<init>" → meth.sig.returnType = none → meth.locks = false →
      WC p l e { frames := fr, cells := mc, slots := ms, locals := lo } s m args below meth c D (cA0 k h0 s.heap.size f0) nL 0 0 (MQ below (va_Qv (fun u : va_W × TY => Post h0 u.1 u.2) (CEnd D (cA0 k h0 s.heap.size f0)) (cA0 k h0 s.heap.size f0)) args s mc ms (cA0 k h0 s.heap.size f0)) 0 [(0, .ref h0)] [] [(h0, .inr (k, f0))] []) : MetN y cc nL fr lo mc ms k f0 Post := by
  intro l D h0 sz
  refine Met.ofW (cc := cc) (maxL := nL) (ret := none) hy rfl ?_
  intro p e s m args below meth c s₁ B hml hv
  obtain ⟨rfl, hsz, hP, hK, hN⟩ := hv
  have hts := atoms_spec (ws := wsS0 y cc nL none) B.pre
  have hname : meth.name = "<init>" := (name_of_methodNamed B.named B.method).1.trans hin
  subst hsz
  have hX : CNw p s m ([.ref h0] : List Value).toArray c (cA0 k h0 s.heap.size f0) cc y.cls nL := ⟨B.exec, B.bytes, hml, findClass_of_methodNamed B.named, fun w hw => hts w (List.mem_cons_of_mem _ hw), hN, fun q h => Or.inr h⟩
  have hlen : (lg_sl ([.ref h0] : List Value)).length ≤ nL := hn
  have hl := lv_entry ([.ref h0] : List Value) hlen
  rw [lg_entry_eq]
  generalize (lg_sl ([.ref h0] : List Value) ++ List.replicate (nL - (lg_sl ([.ref h0] : List Value)).length) Slot.unset).toArray = ls at hl ⊢
  exact body p l e s m _ below meth c D h0 hX hname B.returns B.notSynchronized s.heap [] ls hK hP (va_D_one (Or.inl ⟨0, _, rfl⟩)) va_S.rf hl
theorem wc_vret {k h0 mc ms : Nat} {f0 : List Value} {Post : Nat → va_W → TY → Prop} (X : CNw p s m args c (cA0 k h0 s.heap.size f0) cc own nL) (hr : meth.sig.returnType = none) (hlocks : meth.locks = false) (hdg : DC cc pc .return_ 1 nxt) (hF : Post h0 ws tys) :
    WC p l e R s m args below meth c D (cA0 k h0 s.heap.size f0) nL mc ms (MQ below (va_Qv (fun u : va_W × TY => Post h0 u.1 u.2) (CEnd D (cA0 k h0 s.heap.size f0)) (cA0 k h0 s.heap.size f0)) args s mc ms (cA0 k h0 s.heap.size f0)) pc lv [] ws tys :=
  fun H locs ls hK hP hD hS hl => W.vret X.1 X.2.1 hr (fun t ht hW => ⟨⟨(ws, tys), rfl, hF, by rw [ht]; exact hP, va_K.moved hW.alike hK, hD⟩, hS.F ht⟩) hS.2.2 hdg.1 (hlocks := hlocks)
theorem wc_aload_n (X : CNw p s m args c A cc own nL) {i : Nat} {k : Fin 4} {q j : Nat} (hdg : DC cc pc (.aload_n k) 1 nxt) (hi : (k : Nat) = i) (hl0 : lv[j]? = some (i, .ref q)) (K : WC p l e R s m args below meth c D A nL cells slots Q nxt lv (.ref q :: st) ws tys) : WC p l e R s m args below meth c D A nL cells slots Q pc lv st ws tys := by
  obtain ⟨h1, rfl⟩ := hdg
  exact fun H locs ls hK hP hD hS hl => lv_aload_n X.1 X.2.1 h1 hi (lv_at hl j hl0) (K H locs ls hK hP hD hS hl)
theorem wc_iload_n (X : CNw p s m args c A cc own nL) {i : Nat} {k : Fin 4} {z : Int32} {j : Nat} (hdg : DC cc pc (.iload_n k) 1 nxt) (hi : (k : Nat) = i) (hl0 : lv[j]? = some (i, .int z)) (K : WC p l e R s m args below meth c D A nL cells slots Q nxt lv (.int z :: st) ws tys) : WC p l e R s m args below meth c D A nL cells slots Q pc lv st ws tys := by
  obtain ⟨h1, rfl⟩ := hdg
  exact fun H locs ls hK hP hD hS hl => lv_iload_n X.1 X.2.1 h1 hi (lv_at hl j hl0) (K H locs ls hK hP hD hS hl)
theorem wc_iconst (X : CNw p s m args c A cc own nL) {n : Int} (hdg : DC cc pc (.iconst n) 1 nxt) {v : Int32} (hv : Int32.ofInt n = v) (K : WC p l e R s m args below meth c D A nL cells slots Q nxt lv (.int v :: st) ws tys) : WC p l e R s m args below meth c D A nL cells slots Q pc lv st ws tys := by
  obtain ⟨h1, rfl⟩ := hdg
  exact fun H locs ls hK hP hD hS hl => lv_iconst X.1 X.2.1 h1 hv (K H locs ls hK hP hD hS hl)
theorem wc_bipush (X : CNw p s m args c A cc own nL) {n : Int} (hdg : DC cc pc (.bipush n) 2 nxt) {v : Int32} (hv : (Int8.ofInt n).toInt32 = v) (K : WC p l e R s m args below meth c D A nL cells slots Q nxt lv (.int v :: st) ws tys) : WC p l e R s m args below meth c D A nL cells slots Q pc lv st ws tys := by
  obtain ⟨h1, rfl⟩ := hdg
  exact fun H locs ls hK hP hD hS hl => lv_bipush X.1 X.2.1 h1 hv (K H locs ls hK hP hD hS hl)
theorem wc_sipush (X : CNw p s m args c A cc own nL) {n : Int} (hdg : DC cc pc (.sipush n) 3 nxt) {v : Int32} (hv : (Int16.ofInt n).toInt32 = v) (K : WC p l e R s m args below meth c D A nL cells slots Q nxt lv (.int v :: st) ws tys) : WC p l e R s m args below meth c D A nL cells slots Q pc lv st ws tys := by
  obtain ⟨h1, rfl⟩ := hdg
  exact fun H locs ls hK hP hD hS hl => lv_sipush X.1 X.2.1 h1 hv (K H locs ls hK hP hD hS hl)
theorem wc_dup (X : CNw p s m args c A cc own nL) {q : Nat} (hdg : DC cc pc .dup 1 nxt) (K : WC p l e R s m args below meth c D A nL cells slots Q nxt lv (.ref q :: .ref q :: st) ws tys) : WC p l e R s m args below meth c D A nL cells slots Q pc lv (.ref q :: st) ws tys := by
  obtain ⟨h1, rfl⟩ := hdg
  exact fun H locs ls hK hP hD hS hl => lv_dup X.1 X.2.1 h1 rfl (K H locs ls hK hP hD hS hl)
theorem wc_obj (X : CNw p s m args c A cc own nL) {q : Nat} (hlk : Cond.methodLink own idx objectInit ∈ lw_gd) (hi : Cond.instanceMethod objectInit ∈ lw_gd) (hc : Cond.code objectInit ⟨#[0xb1]⟩ 1 none ∈ lw_gd) (hdg : DC cc pc (.invokespecial idx) 3 nxt) (hR : 1 ≤ R.frames ∧ 12 ≤ R.locals) (K : WC p l e R s m args below meth c D A nL cells slots Q nxt lv [] ws tys) : WC p l e R s m args below meth c D A nL cells slots Q pc lv [.ref q] ws tys := by
  obtain ⟨h1, rfl⟩ := hdg
  intro H locs ls hK hP hD hS hl
  refine W.objInit X.1 X.2.1 X.2.2.2.1 (X.2.2.2.2.1 _ hlk) (X.2.2.2.2.1 _ hi) (X.2.2.2.2.1 _ hc) rfl (by rw [X.2.2.1]; exact hl.1) rfl h1 hR.1 hR.2 ?_
  exact K H locs ls hK hP hD hS hl
theorem wc_newa (X : CNw p s m args c A cc own nL) {atype : ArrayType} {ty : FieldType} {n : Int32} {N' : Nat} {a0 : vp_A} (harr : Cond.arrayClass ty ∈ lw_gd) (hty : newarray.typeOf atype = ty) (ha : ∀ cA : ClassId, vp_cell cA a0 = arrV cA N' (fun _ => defaultValue ty)) (hn : ¬ n < 0) (hN : n.toNatClampNeg = N') (hbytes : N' * componentBytes ty ≤ 536870912) (hR : cells + 1 ≤ R.cells ∧ slots + N' ≤ R.slots) (hdg : DC cc pc (.newarray atype) 2 nxt)
    (K : ∀ (q : Nat) (cA : ClassId), WC p l e R s m args below meth c D A nL (cells + 1) (slots + N') Q nxt lv (.ref q :: st) (x :: (rest ++ [(q, .inl (cA, a0))])) (tys ++ [(cA, ty)])) : WC p l e R s m args below meth c D A nL cells slots Q pc lv (.int n :: st) (x :: rest) tys := by
  obtain ⟨h1, rfl⟩ := hdg
  intro H locs ls hK hP hD hS hl
  subst hty
  exact va_newa X.1 X.2.1 (X.2.2.2.2.1 _ harr) rfl hK hP hD hS X.2.2.2.2.2.2 ha hn hN hbytes hR.1 hR.2 h1 (fun q cA H1 hK1 hP1 hD1 hS1 => K q cA H1 locs ls hK1 hP1 hD1 hS1 hl)
theorem wc_newq (X : CNw p s m args c A cc own nL) {n : Int32} {N' : Nat} (hcl : Cond.classLink own idx "InstrumentFiles$Method" ∈ lw_gd) (hn : ¬ n < 0) (hN : n.toNatClampNeg = N') (hbytes : N' * 4 ≤ 536870912) (hR : cells + 1 ≤ R.cells ∧ slots + N' ≤ R.slots) (hdg : DC cc pc (.anewarray idx) 3 nxt)
    (K : ∀ (q : Nat) (cA : ClassId), WC p l e R s m args below meth c D A nL (cells + 1) (slots + N') Q nxt lv (.ref q :: st) (x :: (rest ++ [(q, .inl (cA, N', .inr (.inr (.inr (.inr (fun _ => none))))))])) (tys ++ [(cA, .object "InstrumentFiles$Method")])) : WC p l e R s m args below meth c D A nL cells slots Q pc lv (.int n :: st) (x :: rest) tys := by
  obtain ⟨h1, rfl⟩ := hdg
  intro H locs ls hK hP hD hS hl
  exact va_newq X.1 X.2.1 X.2.2.2.1 (X.2.2.2.2.1 _ hcl) X.2.2.2.2.2.1.2 hK hP hD hS X.2.2.2.2.2.2 hn hN hbytes hR.1 hR.2 h1 (fun q cA H1 hK1 hP1 hD1 hS1 => K q cA H1 locs ls hK1 hP1 hD1 hS1 hl)
theorem wc_put (X : CNw p s m args c A cc own nL) (hm : meth.name = "<init>") {C : String} {T : u_T} {N k sl h0 : Nat} {ty0 : Nat → FieldType} {fs : List Value} {ty : FieldType} {v : Value} (hc : clsL[k]? = some (C, T, N)) (hty : ∀ j, j < N → parseFieldDescriptor (T j).2.2.1 = some (ty0 j)) (hnm : ∀ a, a < N → ∀ b, b < N → a ≠ b → (T a).2.1 ≠ (T b).2.1) (hk : sl < N) (hlk : Cond.fieldLink own idx (T sl).1 (T sl).2.1 (T sl).2.2.1 ∈ lw_gd) (hfin : (T sl).2.2.2 = true) (hdecl : (T sl).1 = own) (hd : parseFieldDescriptor (T sl).2.2.1 = some ty) (hn : narrow ty v = v) (hfit : fits ty v = true) (hl0 : sl < fs.length) (hdg : DC cc pc (.putfield idx) 3 nxt)
    (K : WC p l e R s m args below meth c D A nL cells slots Q nxt lv st ((h0, .inr (k, fs.set sl v)) :: rest) tys) : WC p l e R s m args below meth c D A nL cells slots Q pc lv (v :: .ref h0 :: st) ((h0, .inr (k, fs)) :: rest) tys := by
  obtain ⟨h1, rfl⟩ := hdg
  intro H locs ls hK hP hD hS hl
  exact va_putF X.1 X.2.1 X.2.2.2.2.1 (cls_in (C, T, N) (List.mem_of_getElem? hc)) ty0 hty hnm X.2.2.2.1 hK hP hD hS 0 rfl hc sl hk (X.2.2.2.2.1 _ hlk) (fun _ z => z) hfin hm hdecl hd hn hfit hl0 h1 (fun H1 locs1 hP1 hD1 hS1 => K H1 locs1 ls hK hP1 hD1 hS1 hl)
theorem wc_get (X : CNw p s m args c A cc own nL) {C : String} {T : u_T} {N k sl h0 : Nat} {fs : List Value} {v : Value} (hc : clsL[k]? = some (C, T, N)) (hk : sl < N) (hlk : Cond.fieldLink own idx (T sl).1 (T sl).2.1 (T sl).2.2.1 ∈ lw_gd) (hv : fs[sl]? = some v) (hdg : DC cc pc (.getfield idx) 3 nxt)
    (K : WC p l e R s m args below meth c D A nL cells slots Q nxt lv (v :: st) ((h0, .inr (k, fs)) :: rest) tys) : WC p l e R s m args below meth c D A nL cells slots Q pc lv (.ref h0 :: st) ((h0, .inr (k, fs)) :: rest) tys := by
  obtain ⟨h1, rfl⟩ := hdg
  intro H locs ls hK hP hD hS hl
  exact va_get X.1 X.2.1 X.2.2.2.2.1 (cls_in (C, T, N) (List.mem_of_getElem? hc)) X.2.2.2.1 hK hP 0 rfl hc sl hk (X.2.2.2.2.1 _ hlk) (fun _ z => z) hv h1 (K H locs ls hK hP hD hS hl)
theorem wc_new (X : CNw p s m args c A cc own nL) {C : String} {T : u_T} {N k : Nat} {ty0 : Nat → FieldType} {fs : List Value} (hc : clsL[k]? = some (C, T, N)) (hty : ∀ j, j < N → parseFieldDescriptor (T j).2.2.1 = some (ty0 j)) (hcl : Cond.classLink own idx C ∈ lw_gd) (hinst : Cond.instantiable C N ∈ lw_gd) (hini : Cond.initialized C ∈ lw_gd) (hfs : ∀ j, j < N → defaultValue (ty0 j) = vp_V fs j) (hR : cells + 1 ≤ R.cells ∧ slots + N ≤ R.slots) (hdg : DC cc pc (.new idx) 3 nxt)
    (K : ∀ (q : Nat), WC p l e R s m args below meth c D A nL (cells + 1) (slots + N) Q nxt lv (.ref q :: st) (ws ++ [(q, .inr (k, fs))]) tys) : WC p l e R s m args below meth c D A nL cells slots Q pc lv st ws tys := by
  obtain ⟨h1, rfl⟩ := hdg
  intro H locs ls hK hP hD hS hl
  exact va_new X.1 X.2.1 X.2.2.2.2.1 (cls_in (C, T, N) (List.mem_of_getElem? hc)) ty0 hty X.2.2.2.1 (X.2.2.2.2.1 _ hcl) (X.2.2.2.2.1 _ hinst) (X.2.2.2.2.1 _ hini) hK hP hD hS X.2.2.2.2.2.2 hc hfs hR.1 hR.2 h1 (fun q H1 hP1 hD1 hS1 => K q H1 locs ls hK hP1 hD1 hS1 hl)
theorem c_blind {k q sz : Nat} {fc : List Value} : FrameBlind (va_Pc [.ref q] (CPre D k q sz fc)) := fun a U g mk h => by
  obtain ⟨h0, h1, h2, h3, h4⟩ := h
  exact ⟨h0, h1, h2, va_K.moved (u := U) (U := U.calling g mk a) (Vm.Alike.refl U.vm) h3, NWm.same (u := U) (U := U.calling g mk a) rfl h4⟩
/-- what a constructor's call leaves -/
theorem wc_after {q kc mc ms : Nat} {fc : List Value} {a : Array Value} {Post : Nat → va_W → TY → Prop} {H : Heap} {locs : List Loc} {ls : Array Slot} {st0 : List Value} (X : CNw p s m args c A cc own nL) (hK : va_K D clsL tys s) (hP : va_P D clsL (ws ++ [(q, .inr (kc, fc))]) H) (hD : va_D A (ws ++ [(q, .inr (kc, fc))])) (hS : va_S A s.heap H locs) (hl : lv_has ls nL lv)
    (hr : va_Run p l e R s m args below meth c H locs cells slots mc ms (F0 m pc ls st0) st (va_Qv (fun u : va_W × TY => Post q u.1 u.2) (CEnd D (cA0 kc q H.size fc)) (cA0 kc q H.size fc) a) (cA0 kc q H.size fc))
    (K : ∀ (u : va_W) (tyu : TY), Post q u tyu → WC p l e R s m args below meth c D A nL (cells + mc) (slots + ms) Q (pc + 3) lv st (ws ++ u) (tys ++ tyu)) : W p l e R s m args below meth c H locs cells slots Q (F0 m pc ls st0) := by
  have hC : ([ws.length] : List Nat).map (fun i => (ws ++ [(q, (.inr (kc, fc) : va_E))])[i]?) = ([(q, .inr (kc, fc))] : va_W).map some := by simp
  have hFc := va_free hD hS X.2.2.2.2.2.2 [ws.length] hC
  refine va_callv hr hS (fun q _ h => hFc q h) hFc (fun u t H1 locs ht hvm hw hB hz1 hk1 hS => ?_)
  obtain ⟨hP1, hK1, hD1⟩ := hB
  rw [ht] at hP1
  have hK1 := va_K.moved hvm.symm hK1
  obtain ⟨hP2, hD2⟩ := va_join hP hD [ws.length] (List.range ws.length) hC lk_range (va_nd_of List.nodup_range) (fun i hi hj => by
    rw [List.mem_singleton] at hj
    rw [List.mem_range] at hi
    omega) hk1 hFc hP1 hD1
  exact K u.1 u.2 hw H1 locs ls (hK.app hK1) hP2 hD2 hS hl
theorem c_pre {q kc : Nat} {fc : List Value} {H : Heap} (X : CNw p s m args c A cc own nL) (hK : va_K D clsL tys s) (hP : va_P D clsL (ws ++ [(q, .inr (kc, fc))]) H) : PreS s H (va_Pc [.ref q] (CPre D kc q H.size fc)) [.ref q] :=
  ⟨c_blind, fun U hU hW => ⟨rfl, by rw [hU], by rw [hU]; exact hP.sub [ws.length] (by simp), va_K.moved hW.alike (hK.sub [] rfl), X.2.2.2.2.2.1.warm hW⟩⟩
theorem wc_callN (X : CNw p s m args c A cc own nL) {y : MethodName} {ccy : ByteArray} {nLy fr lo mc ms q kc : Nat} {fc : List Value} {host : String} {Post : Nat → va_W → TY → Prop} (hM : MetN y ccy nLy fr lo mc ms kc fc Post) (hlk : Cond.methodLinkNest own idx y host ∈ lw_nm) (hini : Cond.initialized y.cls ∈ lw_gd) (hcode : Cond.code y ccy nLy none ∈ lw_gd) (hinst : Cond.instanceMethod y ∈ lw_gd) (hy1 : y.name = "<init>") (hd : y.cls ≠ "java/lang/invoke/MethodHandle" ∧ y.cls ≠ "java/lang/invoke/VarHandle" ∧ (parseMethodDescriptor y.desc).map (fun d => d.parameters.length) = some 0) (hW : (st.map fun v => v.category).sum ≤ 8) (hR : fr + 1 ≤ R.frames ∧ 8 + (nLy + 11) + lo ≤ R.locals) (hf : cells + mc ≤ R.cells ∧ slots + ms ≤ R.slots) (hdg : DC cc pc (.invokespecial idx) 3 nxt)
    (K : ∀ (u : va_W) (tyu : TY), Post q u tyu → WC p l e R s m args below meth c D A nL (cells + mc) (slots + ms) Q nxt lv st (ws ++ u) (tys ++ tyu)) : WC p l e R s m args below meth c D A nL cells slots Q pc lv (.ref q :: st) (ws ++ [(q, .inr (kc, fc))]) tys := by
  obtain ⟨h1, rfl⟩ := hdg
  intro H locs ls hK hP hD hS hl
  exact wc_after X hK hP hD hS hl (va_runIN (As := []) (rest := st) ⟨X.1, X.2.1, X.2.2.1, X.2.2.2.1, X.2.2.2.2.1⟩ (hM l D q H.size) ⟨va_cnB 0 X.2.2.2.2.1 (goodIn_gd (wsS0_in hcode)) rfl rfl rfl (X.2.2.2.2.2.1.1 _ hlk) (X.2.2.2.2.1 _ hini) hd hR, hy1, X.2.2.2.2.1 _ hinst⟩ (c_pre X hK hP) rfl rfl hl.1 rfl (lv_room hW) h1 hf) K
theorem wc_callI (X : CNw p s m args c A cc own nL) {y : MethodName} {ccy : ByteArray} {nLy fr lo mc ms q kc : Nat} {fc : List Value} {Post : Nat → va_W → TY → Prop} (hM : MetN y ccy nLy fr lo mc ms kc fc Post) (hlk : Cond.methodLink own idx y ∈ lw_gd) (hini : Cond.initialized y.cls ∈ lw_gd) (hcode : Cond.code y ccy nLy none ∈ lw_gd) (hinst : Cond.instanceMethod y ∈ lw_gd) (hy1 : y.name = "<init>") (hd : y.cls ≠ "java/lang/invoke/MethodHandle" ∧ y.cls ≠ "java/lang/invoke/VarHandle" ∧ (parseMethodDescriptor y.desc).map (fun d => d.parameters.length) = some 0) (hW : (st.map fun v => v.category).sum ≤ 8) (hR : fr + 1 ≤ R.frames ∧ 8 + (nLy + 11) + lo ≤ R.locals) (hf : cells + mc ≤ R.cells ∧ slots + ms ≤ R.slots) (hdg : DC cc pc (.invokespecial idx) 3 nxt)
    (K : ∀ (u : va_W) (tyu : TY), Post q u tyu → WC p l e R s m args below meth c D A nL (cells + mc) (slots + ms) Q nxt lv st (ws ++ u) (tys ++ tyu)) : WC p l e R s m args below meth c D A nL cells slots Q pc lv (.ref q :: st) (ws ++ [(q, .inr (kc, fc))]) tys := by
  obtain ⟨h1, rfl⟩ := hdg
  intro H locs ls hK hP hD hS hl
  exact wc_after X hK hP hD hS hl (va_runI (As := []) (rest := st) ⟨X.1, X.2.1, X.2.2.1, X.2.2.2.1, X.2.2.2.2.1⟩ (hM l D q H.size) (cwI 0 X.2.2.2.2.1 (goodIn_gd (wsS0_in hcode)) rfl rfl rfl (X.2.2.2.2.1 _ hini) (X.2.2.2.2.1 _ hlk) (X.2.2.2.2.1 _ hinst) hy1 hd hR) (c_pre X hK hP) rfl rfl hl.1 rfl (lv_room hW) h1 hf) K
end WCK
