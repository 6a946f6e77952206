/-! the world as one value: contents by kind, number and place; references by kind and number -/
abbrev MV : Type := Value ⊕ (Nat × Nat)
abbrev MS : Type := (Nat → Nat → Nat → Int32) × (Nat → Nat → Nat → Int64) × (Nat → Nat → Nat → UInt64)
def wI (S : MS) (k i j : Nat) (v : Int32) : MS := (fun a b c => if a = k ∧ b = i ∧ c = j then v else S.1 a b c, S.2)
def wL (S : MS) (k i j : Nat) (v : Int64) : MS := (S.1, fun a b c => if a = k ∧ b = i ∧ c = j then v else S.2.1 a b c, S.2.2)
def wD (S : MS) (k i j : Nat) (v : UInt64) : MS := (S.1, S.2.1, fun a b c => if a = k ∧ b = i ∧ c = j then v else S.2.2 a b c)
/-- array classes, addresses, the kit's class data, addresses of the static rows -/
abbrev GG : Type := (Nat → Nat → ClassId) × (Nat → Nat → Nat) × va_G × (Nat → Nat)
def tr (G : GG) (v : MV) : Value := match v with
  | .inl x => x
  | .inr q => .ref (G.2.1 q.1 q.2)
def fv (G : GG) (S : MS) (k i s : Nat) : Value := match (fTy k s).1 with
  | 0 => .int (S.1 k i s)
  | 1 => .long (S.2.1 k i s)
  | 2 => .ref (G.2.1 (fTy k s).2 i)
  | _ => .int (S.1 k i s)
def acel (G : GG) (S : MS) (k i : Nat) : vp_A := match (aTy k).1 with
  | 0 => ((aTy k).2, .inl (S.1 k i))
  | 1 => ((aTy k).2, .inl (S.1 k i))
  | 2 => ((aTy k).2, .inr (.inl (S.2.1 k i)))
  | 3 => ((aTy k).2, .inr (.inr (.inr (.inl (S.2.2 k i)))))
  | _ => ((aTy k).2, .inr (.inr (.inr (.inr (fun j => some (G.2.1 4 j))))))
def cel (G : GG) (S : MS) (k i : Nat) : va_E := if k < 9 then .inr (k, (List.range (nF k)).map (fv G S k i)) else .inl (G.1 k i, acel G S k i)
def wld (G : GG) (S : MS) : va_W := objs.map (fun o => (G.2.1 o.1 o.2, cel G S o.1 o.2))
def aFT (k : Nat) : FieldType := match (aTy k).1 with
  | 0 => .int
  | 1 => .boolean
  | 2 => .long
  | 3 => .double
  | _ => .object "InstrumentFiles$Method"
def tyl (G : GG) : List (ClassId × FieldType) := arrs.map (fun o => (G.1 o.1 o.2, aFT o.1))
/-- the cells of the world -/
def AD (G : GG) : Nat → Prop := fun q => ∃ o ∈ objs, q = G.2.1 o.1 o.2
theorem wld_get {G : GG} {S : MS} {q k i : Nat} (h : objs[q]? = some (k, i)) : (wld G S)[q]? = some (G.2.1 k i, cel G S k i) := by
  rw [wld, List.getElem?_map, h]; rfl
theorem wld_has {k i : Nat} (h : (k, i) ∈ objs) : ∃ q : Nat, objs[q]? = some (k, i) := List.getElem?_of_mem h
theorem objs_one {q r : Nat} {o : Nat × Nat} (h : objs[q]? = some o) (h2 : objs[r]? = some o) : q = r := by
  obtain ⟨l1, e1⟩ := List.getElem?_eq_some_iff.mp h
  obtain ⟨l2, e2⟩ := List.getElem?_eq_some_iff.mp h2
  exact (List.getElem_inj objs_nd).mp (e1.trans e2.symm)
theorem wld_set {G : GG} {S S' : MS} {q k i : Nat} {e : va_E} (h : objs[q]? = some (k, i)) (he : cel G S' k i = e) (ho : ∀ a b, (a, b) ≠ (k, i) → cel G S' a b = cel G S a b) : (wld G S).set q (G.2.1 k i, e) = wld G S' := by
  apply List.ext_getElem?
  intro j
  by_cases hj : j = q
  · subst hj
    rw [List.getElem?_set_self (by rw [wld, List.length_map]; exact (List.getElem?_eq_some_iff.mp h).1), wld_get h, he]
  · rw [List.getElem?_set_ne (Ne.symm hj), wld, wld, List.getElem?_map, List.getElem?_map]
    cases hq : objs[j]? with
    | none => rfl
    | some o =>
      have hne : (o.1, o.2) ≠ (k, i) := fun z => hj (objs_one hq (h.trans (congrArg some z.symm)))
      show some (G.2.1 o.1 o.2, cel G S o.1 o.2) = some (G.2.1 o.1 o.2, cel G S' o.1 o.2)
      rw [ho o.1 o.2 hne]
theorem arr_mem {k i : Nat} (h : (k, i) ∈ objs) (hk : ¬ k < 9) : (k, i) ∈ arrs := List.mem_filter.mpr ⟨h, by simpa using Nat.not_lt.mp hk⟩
theorem tyl_get {G : GG} {k i : Nat} (h : (k, i) ∈ objs) (hk : ¬ k < 9) : ∃ t0 : Nat, (tyl G)[t0]? = some (G.1 k i, aFT k) := by
  obtain ⟨t0, h0⟩ := List.getElem?_of_mem (arr_mem h hk)
  exact ⟨t0, by rw [tyl, List.getElem?_map, h0]; rfl⟩
theorem va_D_AD {G : GG} {S S' : MS} {A : Nat → Prop} (h : va_D A (wld G S)) : va_D A (wld G S') := by
  have key : ∀ (i : Nat) (p : Nat × va_E), (wld G S')[i]? = some p → ∃ p', (wld G S)[i]? = some p' ∧ p'.1 = p.1 := by
    intro i p hp
    rw [wld, List.getElem?_map] at hp
    cases ho : objs[i]? with
    | none => rw [ho] at hp; cases hp
    | some o => rw [ho] at hp; cases hp; exact ⟨_, wld_get (k := o.1) (i := o.2) ho, rfl⟩
  refine ⟨fun i j p q hi hj e => ?_, fun k q hk => ?_⟩
  · obtain ⟨p', h1, h2⟩ := key i p hi
    obtain ⟨q', h3, h4⟩ := key j q hj
    exact h.1 i j p' q' h1 h3 (h2.trans (e.trans h4.symm))
  · obtain ⟨q', h1, h2⟩ := key k q hk
    rw [← h2]; exact h.2 k q' h1
theorem va_D_self {G : GG} {S : MS} {A : Nat → Prop} (h : va_D A (wld G S)) : va_D (AD G) (wld G S) := ⟨h.1, fun k q hk => by
  rw [wld, List.getElem?_map] at hk
  cases ho : objs[k]? with
  | none => rw [ho] at hk; cases hk
  | some o => rw [ho] at hk; cases hk; exact ⟨o, List.mem_of_getElem? ho, rfl⟩⟩
theorem va_D_up {G : GG} {S : MS} {A : Nat → Prop} (h : va_D (AD G) (wld G S)) (hA : ∀ q, AD G q → A q) : va_D A (wld G S) := ⟨h.1, fun k q hk => hA _ (h.2 k q hk)⟩
theorem va_P_adr {G : GG} {S : MS} {H : Heap} {o : Nat × Nat} (hP : va_P G.2.2.1 clsL (wld G S) H) (ho : o ∈ objs) : G.2.1 o.1 o.2 < H.size := by
  obtain ⟨q, hq⟩ := wld_has (k := o.1) (i := o.2) ho
  exact (hP q _ (wld_get hq)).lt
/-! the static rows -/
def stn (k : Nat) : String := match k with
  | 0 => "TAKEN"
  | 1 => "TAKEN_KIND"
  | _ => "PUSHED_KIND"
def stv (k : Nat) : List Int32 := match k with
  | 0 => [0, 0, 0, 0, 1, 1, 1, 2, 2, 2, 2, 2, 2, 2, 2, 1, 1, 2, 2, 0, 1, 0, 1, 1, 1]
  | 1 => [0, 0, 0, 0, 0, 0, 0, 1, 1, 1, 1, 2, 2, 2, 2, 1, 2, 1, 2, 0, 1, 0, 0, 1, 2]
  | _ => [0, 1, 2, 0, 0, 0, 0, 1, 1, 1, 1, 2, 2, 2, 2, 2, 1, 1, 1, 0, 0, 0, 0, 2, 2]
def STA (G : GG) (A : Nat → Prop) (U : State) (H : Heap) : Prop := ∀ k, k < 3 → va_Z "InstrumentFiles$Ops" (stn k) "[I" (.ref (G.2.2.2 k)) A U H ∧ va_T .int (G.2.2.2 k) 25 (fun j => .int ((stv k).getD j 0)) A U H
theorem STA.moved {G : GG} {A : Nat → Prop} {u U : State} {H : Heap} (hvm : u.vm.Alike U.vm) (h : STA G A u H) : STA G A U H := fun k hk => ⟨va_Z.moved hvm (h k hk).1, va_T.moved hvm (h k hk).2⟩
theorem STA.kept {G : GG} {A : Nat → Prop} {U : State} {H H1 : Heap} (h : STA G A U H) (hq : ∀ a : Nat, a < H.size → ¬ A a → H1[a]? = H[a]?) : STA G A U H1 := fun k hk => ⟨va_Z.kept (h k hk).1 hq, va_T.kept (h k hk).2 hq⟩
theorem STA.narrow {G : GG} {A B : Nat → Prop} {U : State} {H : Heap} (h : STA G A U H) (hAB : ∀ q, B q → A q) : STA G B U H := fun k hk => ⟨va_Z.narrow (h k hk).1 hAB, va_T.narrow (h k hk).2 hAB⟩
/-- the words of nest mates -/
def NW (U : State) : Prop := ∀ w ∈ lw_ns, va_Nw w U
theorem NW.same {u U : State} (h : u.vm = U.vm) (hN : NW u) : NW U := fun w hw => by
  have hw2 := (List.mem_filter.mp hw).2
  cases w <;> first | (cases hw2; done) | exact va_Nw.same rfl h (hN _ hw)
theorem NW.warm {s U : State} (h : s.WarmedH U.vm) (hN : NW s) : NW U := fun w hw => by
  have hw2 := (List.mem_filter.mp hw).2
  cases w <;> first | (cases hw2; done) | exact va_Nw.warmF h (hN _ hw)
/-- what holds of a state between calls -/
def PRE (G : GG) (S : MS) (U : State) : Prop := va_P G.2.2.1 clsL (wld G S) U.heap ∧ va_K G.2.2.1 clsL (tyl G) U ∧ va_D (AD G) (wld G S) ∧ STA G (AD G) U U.heap ∧ NW U
theorem PRE.at {G : GG} {S : MS} {u U : State} (hvm : u.vm = U.vm) (hh : U.heap = u.heap) (h : PRE G S u) : PRE G S U := ⟨by rw [hh]; exact h.1, va_K.moved (hvm ▸ Vm.Alike.refl u.vm) h.2.1, h.2.2.1, by rw [hh]; exact h.2.2.2.1.moved (hvm ▸ Vm.Alike.refl u.vm), h.2.2.2.2.same hvm⟩
/-- a method's end: its answer and the world's new contents are as Fin says; nothing else has changed -/
def QcS (G : GG) (Fin : Option MV → MS → Prop) : Array Value → State → Outcome → State → Prop := fun _ st oc t => (∃ (v : Option MV) (S' : MS), oc = .returned (v.map (tr G)) ∧ Fin v S' ∧ PRE G S' t) ∧ st.heap.size ≤ t.heap.size ∧ ∀ q : Nat, q < st.heap.size → ¬ AD G q → t.heap[q]? = st.heap[q]?
def rmS (fr lo : Nat) : Room := { frames := fr, cells := 0, slots := 0, locals := lo }
def wsS0 (y : MethodName) (cc : ByteArray) (nL : Nat) (ret : Option FieldType) : List Cond := .code y cc nL ret :: lw_gd
/-- the contract: from contents S the method returns, and Fin holds of its answer and the new contents -/
def MetS (y : MethodName) (cc : ByteArray) (nL : Nat) (ret : Option FieldType) (fr lo : Nat) (av : List MV) (S : MS) (Fin : Option MV → MS → Prop) : Prop :=
  ∀ (l : Launch) (G : GG), Met l y (wsS0 y cc nL ret) (rmS fr lo) (va_Pc (av.map (tr G)) (PRE G S)) (QcS G Fin) 0 0 (AD G)
/-- what stays the same all through a method's walk -/
def CX (p : Program) (s : State) (m : MethodId) (args : Array Value) (meth : Method) (c : Code) (G : GG) (A : Nat → Prop) (cc : ByteArray) (own : String) (nL : Nat) (ret : Option FieldType) : Prop :=
  p.tables.exec = Jvm.exec ∧ c.code = cc ∧ c.maxLocals = nL ∧ s.vm.findClass own = some m.cls ∧ (∀ w ∈ lw_gd, w.before args s = true) ∧ va_K G.2.2.1 clsL (tyl G) s ∧ (∀ q, AD G q → A q) ∧ (STA G A s s.heap ∧ NW s) ∧ meth.sig.returnType = ret ∧ meth.locks = false
def asl (G : GG) : Nat → List (Option MV) → List (Nat × Value)
  | _, [] => []
  | n, none :: t => asl G (n + 1) t
  | n, some v :: t => (n, tr G v) :: asl G (n + 1) t
def WS (p : Program) (l : Launch) (e : Env) (R : Room) (s : State) (m : MethodId) (args : Array Value) (below : List Frame) (meth : Method) (c : Code) (G : GG) (A : Nat → Prop) (nL cells slots : Nat) (Q : State → Prop) (pc : Nat) (lv : List (Option MV)) (st : List MV) (S : MS) : Prop :=
  ∀ (H : Heap) (locs : List Loc) (ls : Array Slot), va_P G.2.2.1 clsL (wld G S) H → va_D A (wld G S) → va_S A s.heap H locs → lv_has ls nL (asl G 0 lv) → W p l e R s m args below meth c H locs cells slots Q (F0 m pc ls (st.map (tr G)))
