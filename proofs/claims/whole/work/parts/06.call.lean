/-! ends, entries and calls, over the world as one value -/
theorem goodIn_gd {ws : List Cond} (h : ∀ w ∈ ws, w ∈ lw_gd) : GoodIn lw_gd ws := fun w hw => ⟨h w hw, gd_good (h w hw)⟩
theorem wsS0_in {y : MethodName} {cc : ByteArray} {nL : Nat} {ret : Option FieldType} (h : Cond.code y cc nL ret ∈ lw_gd) : ∀ w ∈ wsS0 y cc nL ret, w ∈ lw_gd := fun w hw => by
  rcases List.mem_cons.mp hw with rfl | h2
  · exact h
  · exact h2
/-- the first locals of a method -/
def elv : List MV → List (Option MV)
  | [] => []
  | v :: t => if mcat v = 2 then some v :: none :: elv t else some v :: elv t
theorem asl_none {G : GG} : ∀ (k n : Nat), asl G n (List.replicate k none) = []
  | 0, _ => rfl
  | k + 1, n => by
    rw [List.replicate_succ]
    exact asl_none k (n + 1)
theorem asl_app {G : GG} : ∀ (a b : List (Option MV)) (n : Nat), asl G n (a ++ b) = asl G n a ++ asl G (n + a.length) b
  | [], b, n => rfl
  | none :: t, b, n => by
    show asl G (n + 1) (t ++ b) = asl G (n + 1) t ++ _
    rw [asl_app t b (n + 1), List.length_cons, show n + 1 + t.length = n + (t.length + 1) by omega]
  | some v :: t, b, n => by
    show _ :: asl G (n + 1) (t ++ b) = _ :: asl G (n + 1) t ++ _
    rw [asl_app t b (n + 1), List.length_cons, show n + 1 + t.length = n + (t.length + 1) by omega]; rfl
theorem asl_elv {G : GG} : ∀ (av : List MV) (n : Nat), asl G n (elv av) = lv_args n (av.map (tr G))
  | [], _ => rfl
  | v :: t, n => by
    have hc := tr_cat G v
    show asl G n (if mcat v = 2 then some v :: none :: elv t else some v :: elv t) = (n, tr G v) :: lv_args (if (tr G v).category = 2 then n + 2 else n + 1) (t.map (tr G))
    rw [hc]
    by_cases h : mcat v = 2
    · rw [if_pos h, if_pos h]
      show _ :: asl G (n + 1 + 1) (elv t) = _
      rw [asl_elv t (n + 1 + 1)]
    · rw [if_neg h, if_neg h]
      show _ :: asl G (n + 1) (elv t) = _
      rw [asl_elv t (n + 1)]
theorem elv_len {G : GG} : ∀ (av : List MV), (lg_sl (av.map (tr G))).length = (elv av).length
  | [] => rfl
  | v :: t => by
    have hc := tr_cat G v
    have h2 := elv_len (G := G) t
    show (lg_sl (tr G v :: t.map (tr G))).length = (if mcat v = 2 then some v :: none :: elv t else some v :: elv t).length
    rw [show lg_sl (tr G v :: t.map (tr G)) = (if (tr G v).category = 2 then [Slot.val (tr G v), .second] else [.val (tr G v)]) ++ lg_sl (t.map (tr G)) from rfl, hc]
    by_cases h : mcat v = 2
    · rw [if_pos h, if_pos h, List.length_append, h2]
      simp only [List.length_cons, List.length_nil]; omega
    · rw [if_neg h, if_neg h, List.length_append, h2]
      simp only [List.length_cons, List.length_nil]; omega
section WSK
variable {p : Program} {l : Launch} {e : Env} {R : Room} {s : State} {m : MethodId} {args : Array Value} {below : List Frame} {meth : Method} {c : Code} {G : GG} {A : Nat → Prop} {cells slots : Nat} {Q : State → Prop} {cc : ByteArray} {own : String} {nL : Nat} {ret : Option FieldType}
variable {pc nxt tgt : Nat} {lv : List (Option MV)} {st : List MV} {S : MS} {off : Int} {k i sl tg tk idx : Nat} {ty : FieldType} {fin : Bool}
/-- a method's contract out of its walk -/
theorem MetS.of {y : MethodName} {fr lo : Nat} {av : List MV} {lv0 : List (Option MV)} {Fin : Option MV → MS → Prop} (hy : plainName y.cls = true) (hlv : elv av ++ List.replicate (nL - (elv av).length) none = lv0) (hn : (elv av).length ≤ nL)
    (body : ∀ (p : Program) (l : Launch) (e : Env) (s : State) (m : MethodId) (args : Array Value) (below : List Frame) (meth : Method) (c : Code) (G : GG), CX p s m args meth c G (AD G) cc y.cls nL ret → WS p l e (rmS fr lo) s m args below meth c G (AD G) nL 0 0 (MQ below (QcS G Fin) args s 0 0 (AD G)) 0 lv0 [] S) : MetS y cc nL ret fr lo av S Fin := by
  intro l G
  refine Met.ofW (cc := cc) (maxL := nL) (ret := ret) hy rfl ?_
  intro p e s m args below meth c s₁ B hml hv
  obtain ⟨rfl, hP, hK, hD, hT, hN⟩ := hv
  have hts := atoms_spec (ws := wsS0 y cc nL ret) B.pre
  have hX : CX p s m (av.map (tr G)).toArray meth c G (AD G) cc y.cls nL ret := ⟨B.exec, B.bytes, hml, findClass_of_methodNamed B.named, fun w hw => hts w (List.mem_cons_of_mem _ hw), hK, fun _ h => h, ⟨hT, hN⟩, B.returns, B.notSynchronized⟩
  have hlen : (lg_sl (av.map (tr G))).length ≤ nL := by rw [elv_len]; exact hn
  have hl := lv_entry (av.map (tr G)) hlen
  rw [lg_entry_eq]
  generalize (lg_sl (av.map (tr G)) ++ List.replicate (nL - (lg_sl (av.map (tr G))).length) Slot.unset).toArray = ls at hl ⊢
  subst hlv
  refine body p l e s m _ below meth c G hX s.heap [] ls hP hD va_S.rf ?_
  rw [asl_app, asl_none, List.append_nil, asl_elv]
  exact hl
theorem pre_end {t : State} {H : Heap} {locs : List Loc} (X : CX p s m args meth c G (AD G) cc own nL ret) (hP : va_P G.2.2.1 clsL (wld G S) H) (hD : va_D (AD G) (wld G S)) (hS : va_S (AD G) s.heap H locs) (ht : t.heap = H) (hW : s.WarmedH t.vm) : PRE G S t :=
  ⟨by rw [ht]; exact hP, va_K.moved hW.alike X.2.2.2.2.2.1, hD, by rw [ht]; exact (X.2.2.2.2.2.2.2.1.1.kept (fun q h1 h2 => hS.2.1 q h1 h2)).moved hW.alike, X.2.2.2.2.2.2.2.1.2.warm hW⟩
theorem qc_end {t : State} {H : Heap} {locs : List Loc} {Fin : Option MV → MS → Prop} {v : Option MV} {a : Array Value} (X : CX p s m args meth c G (AD G) cc own nL ret) (hP : va_P G.2.2.1 clsL (wld G S) H) (hD : va_D (AD G) (wld G S)) (hS : va_S (AD G) s.heap H locs) (ht : t.heap = H) (hW : s.WarmedH t.vm) (hF : Fin v S) : QcS G Fin a s (.returned (v.map (tr G))) t :=
  ⟨⟨v, S, rfl, hF, pre_end X hP hD hS ht hW⟩, by rw [ht]; exact hS.1, fun q h1 h2 => by rw [ht]; exact hS.2.1 q h1 h2⟩
theorem ws_iret {Fin : Option MV → MS → Prop} {x : Int32} (X : CX p s m args meth c G (AD G) cc own nL (some .int)) (hdg : DC cc pc .ireturn 1 nxt) (hF : Fin (some (.inl (.int x))) S) : WS p l e R s m args below meth c G (AD G) nL cells slots (MQ below (QcS G Fin) args s cells slots (AD G)) pc lv [.inl (.int x)] S :=
  fun H locs ls hP hD hS hl => W.iret (v := x) X.1 X.2.1 X.2.2.2.2.2.2.2.2.1 (fun t ht hW => qc_end (v := some (.inl (.int x))) X hP hD hS ht hW hF) hS.2.2 hdg.1 (hlocks := X.2.2.2.2.2.2.2.2.2)
theorem ws_zret {Fin : Option MV → MS → Prop} {x : Int32} (X : CX p s m args meth c G (AD G) cc own nL (some .boolean)) (hn : narrow .boolean (.int x) = .int x) (hdg : DC cc pc .ireturn 1 nxt) (hF : Fin (some (.inl (.int x))) S) : WS p l e R s m args below meth c G (AD G) nL cells slots (MQ below (QcS G Fin) args s cells slots (AD G)) pc lv [.inl (.int x)] S :=
  fun H locs ls hP hD hS hl => W.zret (v := x) X.1 X.2.1 X.2.2.2.2.2.2.2.2.1 hn (fun t ht hW => qc_end (v := some (.inl (.int x))) X hP hD hS ht hW hF) hS.2.2 hdg.1 (hlocks := X.2.2.2.2.2.2.2.2.2)
theorem ws_lret {Fin : Option MV → MS → Prop} {x : Int64} (X : CX p s m args meth c G (AD G) cc own nL (some .long)) (hdg : DC cc pc .lreturn 1 nxt) (hF : Fin (some (.inl (.long x))) S) : WS p l e R s m args below meth c G (AD G) nL cells slots (MQ below (QcS G Fin) args s cells slots (AD G)) pc lv [.inl (.long x)] S :=
  fun H locs ls hP hD hS hl => W.lret (v := x) X.1 X.2.1 X.2.2.2.2.2.2.2.2.1 (fun t ht hW => qc_end (v := some (.inl (.long x))) X hP hD hS ht hW hF) hS.2.2 hdg.1 (hlocks := X.2.2.2.2.2.2.2.2.2)
theorem ws_dret {Fin : Option MV → MS → Prop} {x : UInt64} (X : CX p s m args meth c G (AD G) cc own nL (some .double)) (hdg : DC cc pc .dreturn 1 nxt) (hF : Fin (some (.inl (.double x))) S) : WS p l e R s m args below meth c G (AD G) nL cells slots (MQ below (QcS G Fin) args s cells slots (AD G)) pc lv [.inl (.double x)] S :=
  fun H locs ls hP hD hS hl => W.dret (v := x) X.1 X.2.1 X.2.2.2.2.2.2.2.2.1 (fun t ht hW => qc_end (v := some (.inl (.double x))) X hP hD hS ht hW hF) hS.2.2 hdg.1 (hlocks := X.2.2.2.2.2.2.2.2.2)
theorem ws_vret {Fin : Option MV → MS → Prop} (X : CX p s m args meth c G (AD G) cc own nL none) (hdg : DC cc pc .return_ 1 nxt) (hF : Fin none S) : WS p l e R s m args below meth c G (AD G) nL cells slots (MQ below (QcS G Fin) args s cells slots (AD G)) pc lv [] S :=
  fun H locs ls hP hD hS hl => W.vret X.1 X.2.1 X.2.2.2.2.2.2.2.2.1 (fun t ht hW => qc_end (v := none) X hP hD hS ht hW hF) hS.2.2 hdg.1 (hlocks := X.2.2.2.2.2.2.2.2.2)
theorem ws_aret {Fin : Option MV → MS → Prop} {v : MV} {rt : String} (X : CX p s m args meth c G (AD G) cc own nL (some (.object rt))) (hv : v = .inl .null ∨ ∃ q, v = .inr q) (hdg : DC cc pc .areturn 1 nxt) (hF : Fin (some v) S) : WS p l e R s m args below meth c G (AD G) nL cells slots (MQ below (QcS G Fin) args s cells slots (AD G)) pc lv [v] S :=
  fun H locs ls hP hD hS hl => W.aret (v := tr G v) X.1 X.2.1 X.2.2.2.2.2.2.2.2.1 (Or.inl ⟨rt, rfl⟩) (by rcases hv with rfl | ⟨q, rfl⟩; exact Or.inl rfl; exact Or.inr ⟨_, rfl⟩) (fun t ht hW => qc_end (v := some v) X hP hD hS ht hW hF) hS.2.2 hdg.1 (hlocks := X.2.2.2.2.2.2.2.2.2)
/-- what a call leaves -/
theorem ws_back {mc ms : Nat} {g0 : List MV} {a : Array Value} {Fin : Option MV → MS → Prop} {H : Heap} {locs : List Loc} {ls : Array Slot} (X : CX p s m args meth c G A cc own nL ret) (hS : va_S A s.heap H locs) (hD : va_D A (wld G S)) (hl : lv_has ls nL (asl G 0 lv)) (hr : va_Run p l e R s m args below meth c H locs cells slots 0 0 (F0 m pc ls (g0.map (tr G))) (st.map (tr G)) (QcS G Fin a) (AD G))
    (K : ∀ (v : Option MV) (S' : MS), Fin v S' → WS p l e R s m args below meth c G A nL cells slots Q (pc + 3) lv (v.toList ++ st) S') : W p l e R s m args below meth c H locs cells slots Q (F0 m pc ls (g0.map (tr G))) := by
  intro T hT Xs
  obtain ⟨v, st₀, t, T', L, h0, X', hL, e1, e2, ⟨⟨v2, S', hv, hF, hPRE⟩, hz, hk⟩, stp⟩ := hr T hT Xs
  have hv2 : v = v2.map (tr G) := by cases hv; rfl
  subst hv2
  rw [h0] at hz hk
  have hP1 : va_P G.2.2.1 clsL (wld G S') T'.heap := by rw [e1]; exact hPRE.1
  have hS1 : va_S A s.heap T'.heap (locs ++ L) := ⟨Nat.le_trans hS.1 (by rw [e1]; exact hz), fun q h1 h2 => by
    rw [e1, hk q (Nat.lt_of_lt_of_le h1 hS.1) (fun z => h2 (X.2.2.2.2.2.2.1 q z))]; exact hS.2.1 q h1 h2, fun q hq => by
    rcases List.mem_append.mp hq with h | h
    · exact hS.2.2 q h
    · exact X.2.2.2.2.2.2.1 _ (hL q h)⟩
  obtain ⟨t2, a1, b1⟩ := K v2 S' hF T'.heap (locs ++ L) ls hP1 (va_D_AD hD) hS1 hl T' rfl X'
  refine ⟨t2, stp t2 ?_, b1⟩
  cases v2 <;> exact a1
theorem blind {av : List Value} : FrameBlind (va_Pc av (PRE G S)) := fun a U g mk q => ⟨q.1, PRE.at (u := U) (U := U.calling g mk a) rfl rfl q.2⟩
theorem pre_call {av : List Value} {H : Heap} {locs : List Loc} (X : CX p s m args meth c G A cc own nL ret) (hP : va_P G.2.2.1 clsL (wld G S) H) (hD : va_D A (wld G S)) (hS : va_S A s.heap H locs) : ∀ U : State, U.heap = H → s.WarmedH U.vm → va_Pc av (PRE G S) av.toArray U := fun U hU hW =>
  ⟨rfl, by rw [hU]; exact hP, va_K.moved hW.alike X.2.2.2.2.2.1, va_D_self hD, by rw [hU]; exact ((X.2.2.2.2.2.2.2.1.1.kept (fun q h1 h2 => hS.2.1 q h1 h2)).moved hW.alike).narrow X.2.2.2.2.2.2.1, X.2.2.2.2.2.2.2.1.2.warm hW⟩
/-- what is known of a method that is called by its object's class -/
def CVm (y : MethodName) (cc : ByteArray) (nL : Nat) (ret : Option FieldType) (n k : Nat) : Prop := (∃ (T : u_T) (N : Nat), clsL[k]? = some (y.cls, T, N)) ∧ Cond.instanceMethod y ∈ lw_gd ∧ Cond.selects y.cls y y ∈ lw_gd ∧ Cond.initialized y.cls ∈ lw_gd ∧ Cond.code y cc nL ret ∈ lw_gd ∧ (y.cls ≠ "java/lang/invoke/MethodHandle" ∧ y.cls ≠ "java/lang/invoke/VarHandle" ∧ (parseMethodDescriptor y.desc).map (fun d => d.parameters.length) = some n)
def CSm (y : MethodName) (cc : ByteArray) (nL : Nat) (ret : Option FieldType) (n : Nat) : Prop := Cond.static y ∈ lw_gd ∧ Cond.initialized y.cls ∈ lw_gd ∧ Cond.code y cc nL ret ∈ lw_gd ∧ (y.cls ≠ "java/lang/invoke/MethodHandle" ∧ y.cls ≠ "java/lang/invoke/VarHandle" ∧ (parseMethodDescriptor y.desc).map (fun d => d.parameters.length) = some n)
def mcs : List MV → Nat
  | [] => 0
  | v :: t => mcat v + mcs t
theorem mcs_tr : ∀ (st : List MV), ((st.map (tr G)).map fun v => v.category).sum = mcs st
  | [] => rfl
  | v :: t => by
    show (tr G v).category + ((t.map (tr G)).map fun v => v.category).sum = mcat v + mcs t
    rw [tr_cat, mcs_tr t]
theorem ws_callV (X : CX p s m args meth c G A cc own nL ret) {y : MethodName} {ccy : ByteArray} {nLy n fr lo : Nat} {rety : Option FieldType} {av st0 : List MV} {Fin : Option MV → MS → Prop} (hM : MetS y ccy nLy rety fr lo (.inr (k, i) :: av) S Fin) (hy : CVm y ccy nLy rety n k) (hlk : Cond.methodLink own idx y ∈ lw_gd) (ho : (k, i) ∈ objs) (hst : av.reverse ++ .inr (k, i) :: st = st0) (hn : av.length = n) (hW : mcs st ≤ 8) (hR : fr + 1 ≤ R.frames ∧ 8 + (nLy + 11) + lo ≤ R.locals) (hf : cells ≤ R.cells ∧ slots ≤ R.slots) (hdg : DC cc pc (.invokevirtual idx) 3 nxt)
    (K : ∀ (v : Option MV) (S' : MS), Fin v S' → WS p l e R s m args below meth c G A nL cells slots Q nxt lv (v.toList ++ st) S') : WS p l e R s m args below meth c G A nL cells slots Q pc lv st0 S := by
  obtain ⟨h1, rfl⟩ := hdg
  obtain ⟨⟨T, N, hcl⟩, hin, hse, hini, hcode, hd⟩ := hy
  obtain ⟨q, hq⟩ := wld_has ho
  subst hst
  intro H locs ls hP hD hS hl
  have hK := X.2.2.2.2.2.1
  have he : (wld G S)[q]? = some (G.2.1 k i, .inr (k, (List.range (nF k)).map (fv G S k i))) := by rw [wld_get hq, cel_obj (cls_lt hcl)]
  have hG : GoodIn lw_gd (wsV own idx y.cls y (wsS0 y ccy nLy rety)) := goodIn_gd (fun w hw => by
    rcases List.mem_append.mp hw with h | h
    · simp only [List.mem_cons, List.not_mem_nil, or_false] at h
      rcases h with rfl | rfl | rfl | rfl
      · exact hlk
      · exact hin
      · exact hse
      · exact hini
    · exact wsS0_in hcode w h)
  have hr : va_Run p l e R s m args below meth c H locs cells slots 0 0 (F0 m pc ls ((av.reverse ++ .inr (k, i) :: st).map (tr G))) (st.map (tr G)) (QcS G Fin (Value.ref (G.2.1 k i) :: av.map (tr G)).toArray) (AD G) := va_runV (As := av.map (tr G)) (rest := st.map (tr G)) (b := G.2.1 k i) (g := F0 m pc ls ((av.reverse ++ .inr (k, i) :: st).map (tr G))) ⟨X.1, X.2.1, X.2.2.1, X.2.2.2.1, X.2.2.2.2.1⟩ (hM l G) (cwV n X.2.2.2.2.1 hG rfl rfl rfl ⟨rfl, hd⟩ hR) ⟨blind, va_recv hK hP hcl he, pre_call X hP hD hS⟩ rfl (by rw [List.length_map]; exact hn) hl.1 (by show List.map (tr G) _ = _; rw [List.map_append, List.map_reverse]; rfl) (lv_room (by rw [mcs_tr]; exact hW)) h1 ⟨hf.1, hf.2⟩
  exact ws_back (mc := 0) (ms := 0) X hS hD hl hr K
theorem ws_callS (X : CX p s m args meth c G A cc own nL ret) {y : MethodName} {ccy : ByteArray} {nLy n fr lo : Nat} {rety : Option FieldType} {av st0 : List MV} {Fin : Option MV → MS → Prop} (hM : MetS y ccy nLy rety fr lo av S Fin) (hy : CSm y ccy nLy rety n) (hlk : Cond.methodLink own idx y ∈ lw_gd) (hst : av.reverse ++ st = st0) (hn : av.length = n) (hW : mcs st ≤ 8) (hR : fr + 1 ≤ R.frames ∧ 8 + (nLy + 11) + lo ≤ R.locals) (hf : cells ≤ R.cells ∧ slots ≤ R.slots) (hdg : DC cc pc (.invokestatic idx) 3 nxt)
    (K : ∀ (v : Option MV) (S' : MS), Fin v S' → WS p l e R s m args below meth c G A nL cells slots Q nxt lv (v.toList ++ st) S') : WS p l e R s m args below meth c G A nL cells slots Q pc lv st0 S := by
  obtain ⟨h1, rfl⟩ := hdg
  obtain ⟨hin, hini, hcode, hd⟩ := hy
  subst hst
  intro H locs ls hP hD hS hl
  have hG : GoodIn lw_gd (va_wsS own idx y (wsS0 y ccy nLy rety)) := goodIn_gd (fun w hw => by
    rcases List.mem_append.mp hw with h | h
    · simp only [List.mem_cons, List.not_mem_nil, or_false] at h
      rcases h with rfl | rfl | rfl
      · exact hlk
      · exact hin
      · exact hini
    · exact wsS0_in hcode w h)
  have hr : va_Run p l e R s m args below meth c H locs cells slots 0 0 (F0 m pc ls ((av.reverse ++ st).map (tr G))) (st.map (tr G)) (QcS G Fin (av.map (tr G)).toArray) (AD G) := va_runS (As := av.map (tr G)) (rest := st.map (tr G)) (g := F0 m pc ls ((av.reverse ++ st).map (tr G))) ⟨X.1, X.2.1, X.2.2.1, X.2.2.2.1, X.2.2.2.2.1⟩ (hM l G) (va_cwS n X.2.2.2.2.1 hG rfl rfl rfl hd hR) ⟨blind, pre_call X hP hD hS⟩ rfl (by rw [List.length_map]; exact hn) hl.1 (by show List.map (tr G) _ = _; rw [List.map_append, List.map_reverse]) (lv_room (by rw [mcs_tr]; exact hW)) h1 ⟨hf.1, hf.2⟩
  exact ws_back (mc := 0) (ms := 0) X hS hD hl hr K
/-- a contract with one answer and one new world -/
abbrev MetE (y : MethodName) (cc : ByteArray) (nL : Nat) (ret : Option FieldType) (fr lo : Nat) (av : List MV) (S : MS) (v : Option MV) (S' : MS) : Prop := MetS y cc nL ret fr lo av S (fun v1 S1 => v1 = v ∧ S1 = S')
theorem ws_callV1 (X : CX p s m args meth c G A cc own nL ret) {y : MethodName} {ccy : ByteArray} {nLy n fr lo : Nat} {rety : Option FieldType} {av st0 : List MV} {v : MV} {S' : MS} (hM : MetE y ccy nLy rety fr lo (.inr (k, i) :: av) S (some v) S') (hy : CVm y ccy nLy rety n k) (hlk : Cond.methodLink own idx y ∈ lw_gd) (ho : (k, i) ∈ objs) (hst : av.reverse ++ .inr (k, i) :: st = st0) (hn : av.length = n) (hW : mcs st ≤ 8) (hR : fr + 1 ≤ R.frames ∧ 8 + (nLy + 11) + lo ≤ R.locals) (hf : cells ≤ R.cells ∧ slots ≤ R.slots) (hdg : DC cc pc (.invokevirtual idx) 3 nxt)
    (K : WS p l e R s m args below meth c G A nL cells slots Q nxt lv (v :: st) S') : WS p l e R s m args below meth c G A nL cells slots Q pc lv st0 S :=
  ws_callV X hM hy hlk ho hst hn hW hR hf hdg (fun v1 S1 h => by obtain ⟨rfl, rfl⟩ := h; exact K)
theorem ws_callV0 (X : CX p s m args meth c G A cc own nL ret) {y : MethodName} {ccy : ByteArray} {nLy n fr lo : Nat} {rety : Option FieldType} {av st0 : List MV} {S' : MS} (hM : MetE y ccy nLy rety fr lo (.inr (k, i) :: av) S none S') (hy : CVm y ccy nLy rety n k) (hlk : Cond.methodLink own idx y ∈ lw_gd) (ho : (k, i) ∈ objs) (hst : av.reverse ++ .inr (k, i) :: st = st0) (hn : av.length = n) (hW : mcs st ≤ 8) (hR : fr + 1 ≤ R.frames ∧ 8 + (nLy + 11) + lo ≤ R.locals) (hf : cells ≤ R.cells ∧ slots ≤ R.slots) (hdg : DC cc pc (.invokevirtual idx) 3 nxt)
    (K : WS p l e R s m args below meth c G A nL cells slots Q nxt lv st S') : WS p l e R s m args below meth c G A nL cells slots Q pc lv st0 S :=
  ws_callV X hM hy hlk ho hst hn hW hR hf hdg (fun v1 S1 h => by obtain ⟨rfl, rfl⟩ := h; exact K)
theorem ws_callS1 (X : CX p s m args meth c G A cc own nL ret) {y : MethodName} {ccy : ByteArray} {nLy n fr lo : Nat} {rety : Option FieldType} {av st0 : List MV} {v : MV} {S' : MS} (hM : MetE y ccy nLy rety fr lo av S (some v) S') (hy : CSm y ccy nLy rety n) (hlk : Cond.methodLink own idx y ∈ lw_gd) (hst : av.reverse ++ st = st0) (hn : av.length = n) (hW : mcs st ≤ 8) (hR : fr + 1 ≤ R.frames ∧ 8 + (nLy + 11) + lo ≤ R.locals) (hf : cells ≤ R.cells ∧ slots ≤ R.slots) (hdg : DC cc pc (.invokestatic idx) 3 nxt)
    (K : WS p l e R s m args below meth c G A nL cells slots Q nxt lv (v :: st) S') : WS p l e R s m args below meth c G A nL cells slots Q pc lv st0 S :=
  ws_callS X hM hy hlk hst hn hW hR hf hdg (fun v1 S1 h => by obtain ⟨rfl, rfl⟩ := h; exact K)
theorem ws_callS0 (X : CX p s m args meth c G A cc own nL ret) {y : MethodName} {ccy : ByteArray} {nLy n fr lo : Nat} {rety : Option FieldType} {av st0 : List MV} {S' : MS} (hM : MetE y ccy nLy rety fr lo av S none S') (hy : CSm y ccy nLy rety n) (hlk : Cond.methodLink own idx y ∈ lw_gd) (hst : av.reverse ++ st = st0) (hn : av.length = n) (hW : mcs st ≤ 8) (hR : fr + 1 ≤ R.frames ∧ 8 + (nLy + 11) + lo ≤ R.locals) (hf : cells ≤ R.cells ∧ slots ≤ R.slots) (hdg : DC cc pc (.invokestatic idx) 3 nxt)
    (K : WS p l e R s m args below meth c G A nL cells slots Q nxt lv st S') : WS p l e R s m args below meth c G A nL cells slots Q pc lv st0 S :=
  ws_callS X hM hy hlk hst hn hW hR hf hdg (fun v1 S1 h => by obtain ⟨rfl, rfl⟩ := h; exact K)
/-! switches: a goal for each written value, one for all others -/
def FA (x : Int32) (P : Nat → Prop) : List (Int × Nat) → Prop
  | [] => True
  | (v, t) :: r => (x = Int32.ofInt v → P t) ∧ FA x P r
theorem FA_get {x : Int32} {P : Nat → Prop} : ∀ {ts : List (Int × Nat)}, FA x P ts → ∀ v t, (v, t) ∈ ts → x = Int32.ofInt v → P t
  | (_, _) :: _, h, v, t, hm, hx => by
    rcases List.mem_cons.mp hm with e | e
    · cases e; exact h.1 hx
    · exact FA_get h.2 v t e hx
theorem ofInt_toInt (x : Int32) : Int32.ofInt x.toInt = x := Int32.ofInt_toInt x
theorem ws_tsw (X : CX p s m args meth c G A cc own nL ret) {dflt lo hi : Int} {offs : Array Int} {len : Nat} {x : Int32} (ts : List (Int × Nat)) (hdg : decode cc pc = .ok (.tableswitch dflt lo hi offs, len)) (hts : ∀ (j : Nat), lo + j ≤ hi → ∃ off t, offs[j]? = some off ∧ (pc : Int) + off = (t : Nat) ∧ (lo + j, t) ∈ ts) (htd : (pc : Int) + dflt = (tgt : Int)) (Ks : FA x (fun t => WS p l e R s m args below meth c G A nL cells slots Q t lv st S) ts) (Kd : (x.toInt < lo ∨ hi < x.toInt) → WS p l e R s m args below meth c G A nL cells slots Q tgt lv st S) : WS p l e R s m args below meth c G A nL cells slots Q pc lv (.inl (.int x) :: st) S := by
  intro H locs ls hP hD hS hl
  by_cases h : x.toInt < lo ∨ hi < x.toInt
  · exact lv_tableOut X.1 X.2.1 hdg h htd (Kd h H locs ls hP hD hS hl)
  · have h1 : ¬ x.toInt < lo := fun z => h (Or.inl z)
    have h2 : ¬ hi < x.toInt := fun z => h (Or.inr z)
    obtain ⟨off, t, h3, h4, h5⟩ := hts (x.toInt - lo).toNat (by omega)
    have e : lo + ((x.toInt - lo).toNat : Int) = x.toInt := by omega
    rw [e] at h5
    exact lv_tableIn X.1 X.2.1 hdg h1 h2 h3 h4 (FA_get Ks _ t h5 (ofInt_toInt x).symm H locs ls hP hD hS hl)
theorem ws_lsw (X : CX p s m args meth c G A cc own nL ret) {dflt : Int} {ps : Array (Int × Int)} {len : Nat} {x : Int32} (ts : List (Int × Nat)) (hdg : decode cc pc = .ok (.lookupswitch dflt ps, len)) (hp : (ps.toList.zip (ps.toList.drop 1)).all (fun (a, next) => a.1 < next.1) = true) (hts : ∀ v off, (v, off) ∈ ps.toList → ∃ t : Nat, (pc : Int) + off = (t : Int) ∧ (v, t) ∈ ts) (htd : (pc : Int) + dflt = (tgt : Int)) (Ks : FA x (fun t => WS p l e R s m args below meth c G A nL cells slots Q t lv st S) ts) (Kd : (∀ v off, (v, off) ∈ ps.toList → ¬ x.toInt = v) → WS p l e R s m args below meth c G A nL cells slots Q tgt lv st S) : WS p l e R s m args below meth c G A nL cells slots Q pc lv (.inl (.int x) :: st) S := by
  intro H locs ls hP hD hS hl
  have key : ∀ (r : List (Int × Int)), (∃ v off, (v, off) ∈ r ∧ x.toInt = v ∧ Op.lookupswitch.offset r dflt x.toInt = off) ∨ ((∀ v off, (v, off) ∈ r → ¬ x.toInt = v) ∧ Op.lookupswitch.offset r dflt x.toInt = dflt) := by
    intro r
    induction r with
    | nil => exact Or.inr ⟨fun _ _ h => (by cases h), rfl⟩
    | cons q r ih =>
      obtain ⟨a, o⟩ := q
      by_cases ha : x.toInt = a
      · exact Or.inl ⟨a, o, List.mem_cons_self, ha, by simp [Op.lookupswitch.offset, ha]⟩
      · have e : Op.lookupswitch.offset ((a, o) :: r) dflt x.toInt = Op.lookupswitch.offset r dflt x.toInt := by
          simp only [Op.lookupswitch.offset]
          rw [if_neg]
          simpa [eq_comm] using ha
        rcases ih with ⟨v, off, h1, h2, h3⟩ | ⟨h1, h2⟩
        · exact Or.inl ⟨v, off, List.mem_cons_of_mem _ h1, h2, by rw [e]; exact h3⟩
        · refine Or.inr ⟨fun v off hm => ?_, by rw [e]; exact h2⟩
          rcases List.mem_cons.mp hm with z | z
          · cases z; exact ha
          · exact h1 v off z
  rcases key ps.toList with ⟨v, off, h1, h2, h3⟩ | ⟨h1, h2⟩
  · obtain ⟨t, h4, h5⟩ := hts v off h1
    exact lv_lookup X.1 X.2.1 hdg hp h3 h4 (FA_get Ks v t h5 (by rw [← h2]; exact (ofInt_toInt x).symm) H locs ls hP hD hS hl)
  · exact lv_lookup X.1 X.2.1 hdg hp h2 htd (Kd h1 H locs ls hP hD hS hl)
/-! the JDK's natives on bits -/
def y_d2r : MethodName := ⟨"java/lang/Double", "doubleToRawLongBits", "(D)J"⟩
def y_l2r : MethodName := ⟨"java/lang/Double", "longBitsToDouble", "(J)D"⟩
theorem ws_d2r (X : CX p s m args meth c G A cc own nL ret) {b : UInt64} (hlk : Cond.methodLink own idx y_d2r ∈ lw_gd) (hn : Cond.native y_d2r ∈ lw_gd) (hs : Cond.static y_d2r ∈ lw_gd) (hi : Cond.initialized "java/lang/Double" ∈ lw_gd) (hR : 1 ≤ R.frames ∧ mcs st + 15 ≤ R.locals) (hdg : DC cc pc (.invokestatic idx) 3 nxt) (K : WS p l e R s m args below meth c G A nL cells slots Q nxt lv (.inl (.long b.toInt64) :: st) S) : WS p l e R s m args below meth c G A nL cells slots Q pc lv (.inl (.double b) :: st) S := by
  obtain ⟨h1, rfl⟩ := hdg
  intro H locs ls hP hD hS hl
  exact vn_d2l X.1 X.2.1 (X.2.2.1.trans hl.1.symm) X.2.2.2.1 (X.2.2.2.2.1 _ hlk) (X.2.2.2.2.1 _ hn) (X.2.2.2.2.1 _ hs) (X.2.2.2.2.1 _ hi) hR.1 (by rw [mcs_tr]; exact hR.2) h1 (K H locs ls hP hD hS hl)
theorem ws_l2r (X : CX p s m args meth c G A cc own nL ret) {b : Int64} (hv : vn_snl2d b = false) (hlk : Cond.methodLink own idx y_l2r ∈ lw_gd) (hn : Cond.native y_l2r ∈ lw_gd) (hs : Cond.static y_l2r ∈ lw_gd) (hi : Cond.initialized "java/lang/Double" ∈ lw_gd) (hR : 1 ≤ R.frames ∧ mcs st + 15 ≤ R.locals) (hdg : DC cc pc (.invokestatic idx) 3 nxt) (K : WS p l e R s m args below meth c G A nL cells slots Q nxt lv (.inl (.double b.toUInt64) :: st) S) : WS p l e R s m args below meth c G A nL cells slots Q pc lv (.inl (.long b) :: st) S := by
  obtain ⟨h1, rfl⟩ := hdg
  intro H locs ls hP hD hS hl
  exact vn_l2d X.1 X.2.1 (X.2.2.1.trans hl.1.symm) X.2.2.2.1 (X.2.2.2.2.1 _ hlk) (X.2.2.2.2.1 _ hn) (X.2.2.2.2.1 _ hs) (X.2.2.2.2.1 _ hi) hv hR.1 (by rw [mcs_tr]; exact hR.2) h1 (K H locs ls hP hD hS hl)
end WSK
