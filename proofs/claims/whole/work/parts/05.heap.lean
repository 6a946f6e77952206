/-! fields, arrays, static rows, calls, ends: over the world as one value -/
/-- field number idx of the class own's file is slot sl of kind k: its tag, target, type, whether it is final -/
def FLk (own : String) (idx k sl tg tk : Nat) (ty : FieldType) (fin : Bool) : Prop := ∃ (C : String) (T : u_T) (N : Nat) (ty0 : Nat → FieldType), clsL[k]? = some (C, T, N) ∧ sl < N ∧ N = nF k ∧ fTy k sl = (tg, tk) ∧ parseFieldDescriptor (T sl).2.2.1 = some ty ∧ (T sl).2.2.2 = fin ∧ (∀ j, j < N → parseFieldDescriptor (T j).2.2.1 = some (ty0 j)) ∧ (∀ a, a < N → ∀ b, b < N → a ≠ b → (T a).2.1 ≠ (T b).2.1) ∧ (Cond.fieldLink own idx (T sl).1 (T sl).2.1 (T sl).2.2.1 ∈ lw_gd ∨ ∃ h : String, Cond.fieldLinkNest own idx (T sl).1 (T sl).2.1 (T sl).2.2.1 h ∈ lw_ns)
theorem cls_lt {k : Nat} {q : vw_C} (h : clsL[k]? = some q) : k < 9 := (List.getElem?_eq_some_iff.mp h).1
theorem cel_obj {G : GG} {S : MS} {k i : Nat} (h : k < 9) : cel G S k i = .inr (k, (List.range (nF k)).map (fv G S k i)) := if_pos h
theorem cel_arr {G : GG} {S : MS} {k i : Nat} (h : ¬ k < 9) : cel G S k i = .inl (G.1 k i, acel G S k i) := if_neg h
theorem set_map_range {f g : Nat → Value} {n sl : Nat} {v : Value} (hg : g sl = v) (ho : ∀ j, j ≠ sl → g j = f j) : ((List.range n).map f).set sl v = (List.range n).map g := by
  apply List.ext_getElem?
  intro j
  by_cases hj : j = sl
  · subst hj
    by_cases hn : j < n
    · rw [List.getElem?_set_self (by simpa using hn), List.getElem?_map, List.getElem?_range hn, Option.map_some, hg]
    · rw [List.getElem?_eq_none (by simp; omega), List.getElem?_eq_none (by simp; omega)]
  · rw [List.getElem?_set_ne (Ne.symm hj), List.getElem?_map, List.getElem?_map]
    cases hr : (List.range n)[j]? with
    | none => rfl
    | some z =>
      have : z = j := by
        obtain ⟨h1, h2⟩ := List.getElem?_eq_some_iff.mp hr
        simpa using h2.symm
      subst this
      show some (f z) = some (g z)
      rw [ho z hj]
/-- two contents that tell the same of a cell -/
theorem cel_same {G : GG} {S S' : MS} {k i : Nat} (h1 : S'.1 k i = S.1 k i) (h2 : S'.2.1 k i = S.2.1 k i) (h3 : S'.2.2 k i = S.2.2 k i) : cel G S' k i = cel G S k i := by
  have e1 : fv G S' k i = fv G S k i := by
    funext s
    unfold fv
    rw [h1, h2]
  have e2 : acel G S' k i = acel G S k i := by
    unfold acel
    rw [h1, h2, h3]
  unfold cel
  rw [e1, e2]
theorem ne_pair {a b k i : Nat} (h : (a, b) ≠ (k, i)) : ¬ (a = k ∧ b = i) := fun z => h (by rw [z.1, z.2])
theorem wI_off {S : MS} {k i j a b : Nat} {v : Int32} (h : (a, b) ≠ (k, i)) : (wI S k i j v).1 a b = S.1 a b := by
  funext c
  show (if a = k ∧ b = i ∧ c = j then v else S.1 a b c) = S.1 a b c
  rw [if_neg (fun z => ne_pair h ⟨z.1, z.2.1⟩)]
theorem wL_off {S : MS} {k i j a b : Nat} {v : Int64} (h : (a, b) ≠ (k, i)) : (wL S k i j v).2.1 a b = S.2.1 a b := by
  funext c
  show (if a = k ∧ b = i ∧ c = j then v else S.2.1 a b c) = S.2.1 a b c
  rw [if_neg (fun z => ne_pair h ⟨z.1, z.2.1⟩)]
theorem wD_off {S : MS} {k i j a b : Nat} {v : UInt64} (h : (a, b) ≠ (k, i)) : (wD S k i j v).2.2 a b = S.2.2 a b := by
  funext c
  show (if a = k ∧ b = i ∧ c = j then v else S.2.2 a b c) = S.2.2 a b c
  rw [if_neg (fun z => ne_pair h ⟨z.1, z.2.1⟩)]
theorem wI_at (S : MS) (k i j : Nat) (v : Int32) (c : Nat) : (wI S k i j v).1 k i c = if c = j then v else S.1 k i c := by
  show (if k = k ∧ i = i ∧ c = j then v else S.1 k i c) = _
  simp
theorem wL_at (S : MS) (k i j : Nat) (v : Int64) (c : Nat) : (wL S k i j v).2.1 k i c = if c = j then v else S.2.1 k i c := by
  show (if k = k ∧ i = i ∧ c = j then v else S.2.1 k i c) = _
  simp
theorem wD_at (S : MS) (k i j : Nat) (v : UInt64) (c : Nat) : (wD S k i j v).2.2 k i c = if c = j then v else S.2.2 k i c := by
  show (if k = k ∧ i = i ∧ c = j then v else S.2.2 k i c) = _
  simp
theorem set_objI {G : GG} {S : MS} {q k i sl : Nat} {x : Int32} (hq : objs[q]? = some (k, i)) (hk : k < 9) (hT : (fTy k sl).1 = 0 ∨ (fTy k sl).1 = 3) : (wld G S).set q (G.2.1 k i, .inr (k, ((List.range (nF k)).map (fv G S k i)).set sl (.int x))) = wld G (wI S k i sl x) := by
  refine wld_set hq ?_ (fun a b h => cel_same (wI_off h) rfl rfl)
  rw [cel_obj hk, set_map_range (g := fv G (wI S k i sl x) k i)]
  · unfold fv
    rcases hT with h | h <;> simp only [h, wI_at, if_true]
  · intro j hj
    unfold fv
    simp only [wI_at, if_neg hj]
    rfl
theorem set_objL {G : GG} {S : MS} {q k i sl : Nat} {x : Int64} (hq : objs[q]? = some (k, i)) (hk : k < 9) (hT : (fTy k sl).1 = 1) : (wld G S).set q (G.2.1 k i, .inr (k, ((List.range (nF k)).map (fv G S k i)).set sl (.long x))) = wld G (wL S k i sl x) := by
  refine wld_set hq ?_ (fun a b h => cel_same rfl (wL_off h) rfl)
  rw [cel_obj hk, set_map_range (g := fv G (wL S k i sl x) k i)]
  · unfold fv
    simp only [hT, wL_at, if_true]
  · intro j hj
    unfold fv
    simp only [wL_at, if_neg hj]
    rfl
theorem set_arrI {G : GG} {S : MS} {q k i n j : Nat} {x : Int32} (hq : objs[q]? = some (k, i)) (hk : ¬ k < 9) (hT : aTy k = (0, n) ∨ aTy k = (1, n)) : (wld G S).set q (G.2.1 k i, .inl (G.1 k i, n, .inl (upd (S.1 k i) j x))) = wld G (wI S k i j x) := by
  refine wld_set hq ?_ (fun a b h => cel_same (wI_off h) rfl rfl)
  have e : (wI S k i j x).1 k i = upd (S.1 k i) j x := by
    funext c
    rw [wI_at]; rfl
  rw [cel_arr hk, acel, e]
  rcases hT with h | h <;> simp only [h]
theorem set_arrL {G : GG} {S : MS} {q k i n j : Nat} {x : Int64} (hq : objs[q]? = some (k, i)) (hk : ¬ k < 9) (hT : aTy k = (2, n)) : (wld G S).set q (G.2.1 k i, .inl (G.1 k i, n, .inr (.inl (vp_updL (S.2.1 k i) j x)))) = wld G (wL S k i j x) := by
  refine wld_set hq ?_ (fun a b h => cel_same rfl (wL_off h) rfl)
  have e : (wL S k i j x).2.1 k i = vp_updL (S.2.1 k i) j x := by
    funext c
    rw [wL_at]; rfl
  rw [cel_arr hk, acel, e]
  simp only [hT]
theorem set_arrD {G : GG} {S : MS} {q k i n j : Nat} {x : UInt64} (hq : objs[q]? = some (k, i)) (hk : ¬ k < 9) (hT : aTy k = (3, n)) : (wld G S).set q (G.2.1 k i, .inl (G.1 k i, n, .inr (.inr (.inr (.inl (vf_upd (S.2.2 k i) j x)))))) = wld G (wD S k i j x) := by
  refine wld_set hq ?_ (fun a b h => cel_same rfl rfl (wD_off h))
  have e : (wD S k i j x).2.2 k i = vf_upd (S.2.2 k i) j x := by
    funext c
    rw [wD_at]; rfl
  rw [cel_arr hk, acel, e]
  simp only [hT]
theorem fs_at {G : GG} {S : MS} {k i sl : Nat} (h : sl < nF k) : ((List.range (nF k)).map (fv G S k i))[sl]? = some (fv G S k i sl) := by
  rw [List.getElem?_map, List.getElem?_range h]; rfl
section WSH
variable {p : Program} {l : Launch} {e : Env} {R : Room} {s : State} {m : MethodId} {args : Array Value} {below : List Frame} {meth : Method} {c : Code} {G : GG} {A : Nat → Prop} {cells slots : Nat} {Q : State → Prop} {cc : ByteArray} {own : String} {nL : Nat} {ret : Option FieldType}
variable {pc nxt tgt : Nat} {lv : List (Option MV)} {st : List MV} {S : MS} {off : Int} {k i sl tg tk idx : Nat} {ty : FieldType} {fin : Bool}
theorem ws_get0 (X : CX p s m args meth c G A cc own nL ret) {v : MV} (hF : FLk own idx k sl tg tk ty fin) (ho : (k, i) ∈ objs) (hdg : DC cc pc (.getfield idx) 3 nxt) (hv : ∀ G' : GG, fv G' S k i sl = tr G' v) (K : WS p l e R s m args below meth c G A nL cells slots Q nxt lv (v :: st) S) : WS p l e R s m args below meth c G A nL cells slots Q pc lv (.inr (k, i) :: st) S := by
  obtain ⟨h1, rfl⟩ := hdg
  obtain ⟨C, T, N, ty0, hc, hs, hN, hT, hd, hfin, hty, hnm, hlk⟩ := hF
  obtain ⟨q, hq⟩ := wld_has ho
  intro H locs ls hP hD hS hl
  have he : (wld G S)[q]? = some (G.2.1 k i, .inr (k, (List.range (nF k)).map (fv G S k i))) := by rw [wld_get hq, cel_obj (cls_lt hc)]
  have hin : ∀ w ∈ u_ws C T N, w ∈ lw_gd := cls_in (C, T, N) (List.mem_of_getElem? hc)
  have hvv : ((List.range (nF k)).map (fv G S k i))[sl]? = some (tr G v) := by rw [fs_at (by omega), hv G]
  rcases hlk with hlk | ⟨h, hlk⟩
  · exact va_get X.1 X.2.1 X.2.2.2.2.1 hin X.2.2.2.1 X.2.2.2.2.2.1 hP q he hc sl hs (X.2.2.2.2.1 _ hlk) (fun _ z => z) hvv h1 (K H locs ls hP hD hS hl)
  · exact va_getN X.1 X.2.1 X.2.2.2.2.1 hin X.2.2.2.1 X.2.2.2.2.2.1 hP q he hc sl hs (va_Nw.use rfl (X.2.2.2.2.2.2.2.1.2 _ hlk)) (fun _ z => z) hvv h1 (K H locs ls hP hD hS hl)
theorem ws_getI (X : CX p s m args meth c G A cc own nL ret) (hF : FLk own idx k sl 0 0 ty fin) (ho : (k, i) ∈ objs) (hdg : DC cc pc (.getfield idx) 3 nxt) (K : WS p l e R s m args below meth c G A nL cells slots Q nxt lv (.inl (.int (S.1 k i sl)) :: st) S) : WS p l e R s m args below meth c G A nL cells slots Q pc lv (.inr (k, i) :: st) S := by
  refine ws_get0 X hF ho hdg (fun G' => ?_) K
  obtain ⟨C, T, N, ty0, hc, hs, hN, hT, -⟩ := hF
  simp only [fv, hT]; rfl
theorem ws_getZ (X : CX p s m args meth c G A cc own nL ret) (hF : FLk own idx k sl 3 0 ty fin) (ho : (k, i) ∈ objs) (hdg : DC cc pc (.getfield idx) 3 nxt) (K : WS p l e R s m args below meth c G A nL cells slots Q nxt lv (.inl (.int (S.1 k i sl)) :: st) S) : WS p l e R s m args below meth c G A nL cells slots Q pc lv (.inr (k, i) :: st) S := by
  refine ws_get0 X hF ho hdg (fun G' => ?_) K
  obtain ⟨C, T, N, ty0, hc, hs, hN, hT, -⟩ := hF
  simp only [fv, hT]; rfl
theorem ws_getL (X : CX p s m args meth c G A cc own nL ret) (hF : FLk own idx k sl 1 0 ty fin) (ho : (k, i) ∈ objs) (hdg : DC cc pc (.getfield idx) 3 nxt) (K : WS p l e R s m args below meth c G A nL cells slots Q nxt lv (.inl (.long (S.2.1 k i sl)) :: st) S) : WS p l e R s m args below meth c G A nL cells slots Q pc lv (.inr (k, i) :: st) S := by
  refine ws_get0 X hF ho hdg (fun G' => ?_) K
  obtain ⟨C, T, N, ty0, hc, hs, hN, hT, -⟩ := hF
  simp only [fv, hT]; rfl
theorem ws_getR (X : CX p s m args meth c G A cc own nL ret) (hF : FLk own idx k sl 2 tk ty fin) (ho : (k, i) ∈ objs) (hdg : DC cc pc (.getfield idx) 3 nxt) (K : WS p l e R s m args below meth c G A nL cells slots Q nxt lv (.inr (tk, i) :: st) S) : WS p l e R s m args below meth c G A nL cells slots Q pc lv (.inr (k, i) :: st) S := by
  refine ws_get0 X hF ho hdg (fun G' => ?_) K
  obtain ⟨C, T, N, ty0, hc, hs, hN, hT, -⟩ := hF
  simp only [fv, hT]; rfl
theorem ws_put0 (X : CX p s m args meth c G A cc own nL ret) {v : MV} {S' : MS} (hF : FLk own idx k sl tg tk ty false) (ho : (k, i) ∈ objs) (hdg : DC cc pc (.putfield idx) 3 nxt) (hn : narrow ty (tr G v) = tr G v) (hfit : fits ty (tr G v) = true) (hset : ∀ q, objs[q]? = some (k, i) → (wld G S).set q (G.2.1 k i, .inr (k, ((List.range (nF k)).map (fv G S k i)).set sl (tr G v))) = wld G S') (K : WS p l e R s m args below meth c G A nL cells slots Q nxt lv st S') : WS p l e R s m args below meth c G A nL cells slots Q pc lv (v :: .inr (k, i) :: st) S := by
  obtain ⟨h1, rfl⟩ := hdg
  obtain ⟨C, T, N, ty0, hc, hs, hN, hT, hd, hfin, hty, hnm, hlk⟩ := hF
  obtain ⟨q, hq⟩ := wld_has ho
  intro H locs ls hP hD hS hl
  have he : (wld G S)[q]? = some (G.2.1 k i, .inr (k, (List.range (nF k)).map (fv G S k i))) := by rw [wld_get hq, cel_obj (cls_lt hc)]
  have hin : ∀ w ∈ u_ws C T N, w ∈ lw_gd := cls_in (C, T, N) (List.mem_of_getElem? hc)
  have hlen : sl < ((List.range (nF k)).map (fv G S k i)).length := by simp; omega
  rcases hlk with hlk | ⟨h, hlk⟩
  · exact va_put X.1 X.2.1 X.2.2.2.2.1 hin ty0 hty hnm X.2.2.2.1 X.2.2.2.2.2.1 hP hD hS q he hc sl hs (X.2.2.2.2.1 _ hlk) (fun _ z => z) hfin hd hn hfit hlen h1 (fun H1 locs1 hP1 hD1 hS1 => by rw [hset q hq] at hP1 hD1; exact K H1 locs1 ls hP1 hD1 hS1 hl)
  · exact va_putN X.1 X.2.1 X.2.2.2.2.1 hin ty0 hty hnm X.2.2.2.1 X.2.2.2.2.2.1 hP hD hS q he hc sl hs (va_Nw.use rfl (X.2.2.2.2.2.2.2.1.2 _ hlk)) (fun _ z => z) hfin hd hn hfit hlen h1 (fun H1 locs1 hP1 hD1 hS1 => by rw [hset q hq] at hP1 hD1; exact K H1 locs1 ls hP1 hD1 hS1 hl)
theorem FLk.lt {own : String} {idx k sl tg tk : Nat} {ty : FieldType} {fin : Bool} (h : FLk own idx k sl tg tk ty fin) : k < 9 := by
  obtain ⟨C, T, N, ty0, hc, -⟩ := h
  exact cls_lt hc
theorem FLk.fT {own : String} {idx k sl tg tk : Nat} {ty : FieldType} {fin : Bool} (h : FLk own idx k sl tg tk ty fin) : fTy k sl = (tg, tk) := by
  obtain ⟨C, T, N, ty0, hc, hs, hN, hT, -⟩ := h
  exact hT
theorem ws_putI (X : CX p s m args meth c G A cc own nL ret) {x : Int32} (hF : FLk own idx k sl 0 0 .int false) (ho : (k, i) ∈ objs) (hdg : DC cc pc (.putfield idx) 3 nxt) (K : WS p l e R s m args below meth c G A nL cells slots Q nxt lv st (wI S k i sl x)) : WS p l e R s m args below meth c G A nL cells slots Q pc lv (.inl (.int x) :: .inr (k, i) :: st) S :=
  ws_put0 X hF ho hdg rfl rfl (fun q hq => set_objI hq hF.lt (Or.inl (by rw [hF.fT]))) K
theorem ws_putZ (X : CX p s m args meth c G A cc own nL ret) {x : Int32} (hx : narrow .boolean (.int x) = .int x ∧ fits .boolean (.int x) = true) (hF : FLk own idx k sl 3 0 .boolean false) (ho : (k, i) ∈ objs) (hdg : DC cc pc (.putfield idx) 3 nxt) (K : WS p l e R s m args below meth c G A nL cells slots Q nxt lv st (wI S k i sl x)) : WS p l e R s m args below meth c G A nL cells slots Q pc lv (.inl (.int x) :: .inr (k, i) :: st) S :=
  ws_put0 X hF ho hdg hx.1 hx.2 (fun q hq => set_objI hq hF.lt (Or.inr (by rw [hF.fT]))) K
theorem ws_putL (X : CX p s m args meth c G A cc own nL ret) {x : Int64} (hF : FLk own idx k sl 1 0 .long false) (ho : (k, i) ∈ objs) (hdg : DC cc pc (.putfield idx) 3 nxt) (K : WS p l e R s m args below meth c G A nL cells slots Q nxt lv st (wL S k i sl x)) : WS p l e R s m args below meth c G A nL cells slots Q pc lv (.inl (.long x) :: .inr (k, i) :: st) S :=
  ws_put0 X hF ho hdg rfl rfl (fun q hq => set_objL hq hF.lt (by rw [hF.fT])) K
/-! arrays -/
def AKk (k tg n : Nat) : Prop := ¬ k < 9 ∧ aTy k = (tg, n)
theorem AKk.ft {k tg n : Nat} (h : AKk k tg n) {G : GG} (ho : (k, i) ∈ objs) : ∃ t0 : Nat, (tyl G)[t0]? = some (G.1 k i, aFT k) := tyl_get ho h.1
theorem ws_iald (X : CX p s m args meth c G A cc own nL ret) {j : Int32} {n : Nat} (hk : AKk k 0 n) (ho : (k, i) ∈ objs) (hin : vp_in j n) (hdg : DC cc pc .iaload 1 nxt) (K : WS p l e R s m args below meth c G A nL cells slots Q nxt lv (.inl (.int (S.1 k i j.toNatClampNeg)) :: st) S) : WS p l e R s m args below meth c G A nL cells slots Q pc lv (.inl (.int j) :: .inr (k, i) :: st) S := by
  obtain ⟨h1, rfl⟩ := hdg
  obtain ⟨q, hq⟩ := wld_has ho
  obtain ⟨t0, ht0⟩ := hk.ft (G := G) ho
  intro H locs ls hP hD hS hl
  have ha : (wld G S)[q]? = some (G.2.1 k i, .inl (G.1 k i, n, .inl (S.1 k i))) := by
    rw [wld_get hq, cel_arr hk.1, acel]; simp only [hk.2]
  have ht : (tyl G)[t0]? = some (G.1 k i, .int) := by
    rw [ht0, aFT]; simp only [hk.2]
  exact va_iald X.1 X.2.1 X.2.2.2.2.2.1 hP q t0 (f := S.1 k i) ha ht hin h1 (K H locs ls hP hD hS hl)
theorem ws_zald (X : CX p s m args meth c G A cc own nL ret) {j : Int32} {n : Nat} (hk : AKk k 1 n) (ho : (k, i) ∈ objs) (hin : vp_in j n) (hdg : DC cc pc .baload 1 nxt) (K : WS p l e R s m args below meth c G A nL cells slots Q nxt lv (.inl (.int (S.1 k i j.toNatClampNeg)) :: st) S) : WS p l e R s m args below meth c G A nL cells slots Q pc lv (.inl (.int j) :: .inr (k, i) :: st) S := by
  obtain ⟨h1, rfl⟩ := hdg
  obtain ⟨q, hq⟩ := wld_has ho
  obtain ⟨t0, ht0⟩ := hk.ft (G := G) ho
  intro H locs ls hP hD hS hl
  have ha : (wld G S)[q]? = some (G.2.1 k i, .inl (G.1 k i, n, .inl (S.1 k i))) := by
    rw [wld_get hq, cel_arr hk.1, acel]; simp only [hk.2]
  have ht : (tyl G)[t0]? = some (G.1 k i, .boolean) := by
    rw [ht0, aFT]; simp only [hk.2]
  exact va_zald X.1 X.2.1 X.2.2.2.2.2.1 hP q t0 (f := S.1 k i) ha ht hin h1 (K H locs ls hP hD hS hl)
theorem ws_lald (X : CX p s m args meth c G A cc own nL ret) {j : Int32} {n : Nat} (hk : AKk k 2 n) (ho : (k, i) ∈ objs) (hin : vp_in j n) (hdg : DC cc pc .laload 1 nxt) (K : WS p l e R s m args below meth c G A nL cells slots Q nxt lv (.inl (.long (S.2.1 k i j.toNatClampNeg)) :: st) S) : WS p l e R s m args below meth c G A nL cells slots Q pc lv (.inl (.int j) :: .inr (k, i) :: st) S := by
  obtain ⟨h1, rfl⟩ := hdg
  obtain ⟨q, hq⟩ := wld_has ho
  obtain ⟨t0, ht0⟩ := hk.ft (G := G) ho
  intro H locs ls hP hD hS hl
  have ha : (wld G S)[q]? = some (G.2.1 k i, .inl (G.1 k i, n, .inr (.inl (S.2.1 k i)))) := by
    rw [wld_get hq, cel_arr hk.1, acel]; simp only [hk.2]
  have ht : (tyl G)[t0]? = some (G.1 k i, .long) := by
    rw [ht0, aFT]; simp only [hk.2]
  exact va_lald X.1 X.2.1 X.2.2.2.2.2.1 hP q t0 (f := S.2.1 k i) ha ht hin h1 (K H locs ls hP hD hS hl)
theorem ws_dald (X : CX p s m args meth c G A cc own nL ret) {j : Int32} {n : Nat} (hk : AKk k 3 n) (ho : (k, i) ∈ objs) (hin : vp_in j n) (hdg : DC cc pc .daload 1 nxt) (K : WS p l e R s m args below meth c G A nL cells slots Q nxt lv (.inl (.double (S.2.2 k i j.toNatClampNeg)) :: st) S) : WS p l e R s m args below meth c G A nL cells slots Q pc lv (.inl (.int j) :: .inr (k, i) :: st) S := by
  obtain ⟨h1, rfl⟩ := hdg
  obtain ⟨q, hq⟩ := wld_has ho
  obtain ⟨t0, ht0⟩ := hk.ft (G := G) ho
  intro H locs ls hP hD hS hl
  have ha : (wld G S)[q]? = some (G.2.1 k i, .inl (G.1 k i, n, .inr (.inr (.inr (.inl (S.2.2 k i)))))) := by
    rw [wld_get hq, cel_arr hk.1, acel]; simp only [hk.2]
  have ht : (tyl G)[t0]? = some (G.1 k i, .double) := by
    rw [ht0, aFT]; simp only [hk.2]
  exact va_dald X.1 X.2.1 X.2.2.2.2.2.1 hP q t0 (f := S.2.2 k i) ha ht hin h1 (K H locs ls hP hD hS hl)
theorem ws_aald (X : CX p s m args meth c G A cc own nL ret) {j : Int32} {n : Nat} (hk : AKk k 4 n) (ho : (k, i) ∈ objs) (hin : vp_in j n) (hdg : DC cc pc .aaload 1 nxt) (K : WS p l e R s m args below meth c G A nL cells slots Q nxt lv (.inr (4, j.toNatClampNeg) :: st) S) : WS p l e R s m args below meth c G A nL cells slots Q pc lv (.inl (.int j) :: .inr (k, i) :: st) S := by
  obtain ⟨h1, rfl⟩ := hdg
  obtain ⟨q, hq⟩ := wld_has ho
  obtain ⟨t0, ht0⟩ := hk.ft (G := G) ho
  intro H locs ls hP hD hS hl
  have ha : (wld G S)[q]? = some (G.2.1 k i, .inl (G.1 k i, n, .inr (.inr (.inr (.inr (fun j => some (G.2.1 4 j))))))) := by
    rw [wld_get hq, cel_arr hk.1, acel]; simp only [hk.2]
  have ht : (tyl G)[t0]? = some (G.1 k i, .object "InstrumentFiles$Method") := by
    rw [ht0, aFT]; simp only [hk.2]
  exact va_aldq X.1 X.2.1 X.2.2.2.2.2.1 hP q t0 (f := fun j => some (G.2.1 4 j)) (C := "InstrumentFiles$Method") ha ht hin h1 (K H locs ls hP hD hS hl)
theorem ws_iast (X : CX p s m args meth c G A cc own nL ret) {j x : Int32} {n : Nat} (hk : AKk k 0 n) (ho : (k, i) ∈ objs) (hin : vp_in j n) (hdg : DC cc pc .iastore 1 nxt) (K : WS p l e R s m args below meth c G A nL cells slots Q nxt lv st (wI S k i j.toNatClampNeg x)) : WS p l e R s m args below meth c G A nL cells slots Q pc lv (.inl (.int x) :: .inl (.int j) :: .inr (k, i) :: st) S := by
  obtain ⟨h1, rfl⟩ := hdg
  obtain ⟨q, hq⟩ := wld_has ho
  obtain ⟨t0, ht0⟩ := hk.ft (G := G) ho
  intro H locs ls hP hD hS hl
  have ha : (wld G S)[q]? = some (G.2.1 k i, .inl (G.1 k i, n, .inl (S.1 k i))) := by
    rw [wld_get hq, cel_arr hk.1, acel]; simp only [hk.2]
  have ht : (tyl G)[t0]? = some (G.1 k i, .int) := by
    rw [ht0, aFT]; simp only [hk.2]
  exact va_iast X.1 X.2.1 X.2.2.2.2.2.1 hP hD hS q t0 (f := S.1 k i) (n := n) ha ht hin h1 (fun H1 locs1 hP1 hD1 hS1 => by rw [set_arrI hq hk.1 (Or.inl hk.2)] at hP1 hD1; exact K H1 locs1 ls hP1 hD1 hS1 hl)
theorem ws_zast (X : CX p s m args meth c G A cc own nL ret) {j x : Int32} {n : Nat} (hx : vp_nar .boolean x = x) (hk : AKk k 1 n) (ho : (k, i) ∈ objs) (hin : vp_in j n) (hdg : DC cc pc .bastore 1 nxt) (K : WS p l e R s m args below meth c G A nL cells slots Q nxt lv st (wI S k i j.toNatClampNeg x)) : WS p l e R s m args below meth c G A nL cells slots Q pc lv (.inl (.int x) :: .inl (.int j) :: .inr (k, i) :: st) S := by
  obtain ⟨h1, rfl⟩ := hdg
  obtain ⟨q, hq⟩ := wld_has ho
  obtain ⟨t0, ht0⟩ := hk.ft (G := G) ho
  intro H locs ls hP hD hS hl
  have ha : (wld G S)[q]? = some (G.2.1 k i, .inl (G.1 k i, n, .inl (S.1 k i))) := by
    rw [wld_get hq, cel_arr hk.1, acel]; simp only [hk.2]
  have ht : (tyl G)[t0]? = some (G.1 k i, .boolean) := by
    rw [ht0, aFT]; simp only [hk.2]
  exact va_zast X.1 X.2.1 X.2.2.2.2.2.1 hP hD hS q t0 (f := S.1 k i) (n := n) ha ht hin h1 (fun H1 locs1 hP1 hD1 hS1 => by rw [hx, set_arrI hq hk.1 (Or.inr hk.2)] at hP1 hD1; exact K H1 locs1 ls hP1 hD1 hS1 hl)
theorem ws_last (X : CX p s m args meth c G A cc own nL ret) {j : Int32} {x : Int64} {n : Nat} (hk : AKk k 2 n) (ho : (k, i) ∈ objs) (hin : vp_in j n) (hdg : DC cc pc .lastore 1 nxt) (K : WS p l e R s m args below meth c G A nL cells slots Q nxt lv st (wL S k i j.toNatClampNeg x)) : WS p l e R s m args below meth c G A nL cells slots Q pc lv (.inl (.long x) :: .inl (.int j) :: .inr (k, i) :: st) S := by
  obtain ⟨h1, rfl⟩ := hdg
  obtain ⟨q, hq⟩ := wld_has ho
  obtain ⟨t0, ht0⟩ := hk.ft (G := G) ho
  intro H locs ls hP hD hS hl
  have ha : (wld G S)[q]? = some (G.2.1 k i, .inl (G.1 k i, n, .inr (.inl (S.2.1 k i)))) := by
    rw [wld_get hq, cel_arr hk.1, acel]; simp only [hk.2]
  have ht : (tyl G)[t0]? = some (G.1 k i, .long) := by
    rw [ht0, aFT]; simp only [hk.2]
  exact va_last X.1 X.2.1 X.2.2.2.2.2.1 hP hD hS q t0 (f := S.2.1 k i) (n := n) ha ht hin h1 (fun H1 locs1 hP1 hD1 hS1 => by rw [set_arrL hq hk.1 hk.2] at hP1 hD1; exact K H1 locs1 ls hP1 hD1 hS1 hl)
theorem ws_dast (X : CX p s m args meth c G A cc own nL ret) {j : Int32} {x : UInt64} {n : Nat} (hk : AKk k 3 n) (ho : (k, i) ∈ objs) (hin : vp_in j n) (hdg : DC cc pc .dastore 1 nxt) (K : WS p l e R s m args below meth c G A nL cells slots Q nxt lv st (wD S k i j.toNatClampNeg x)) : WS p l e R s m args below meth c G A nL cells slots Q pc lv (.inl (.double x) :: .inl (.int j) :: .inr (k, i) :: st) S := by
  obtain ⟨h1, rfl⟩ := hdg
  obtain ⟨q, hq⟩ := wld_has ho
  obtain ⟨t0, ht0⟩ := hk.ft (G := G) ho
  intro H locs ls hP hD hS hl
  have ha : (wld G S)[q]? = some (G.2.1 k i, .inl (G.1 k i, n, .inr (.inr (.inr (.inl (S.2.2 k i)))))) := by
    rw [wld_get hq, cel_arr hk.1, acel]; simp only [hk.2]
  have ht : (tyl G)[t0]? = some (G.1 k i, .double) := by
    rw [ht0, aFT]; simp only [hk.2]
  exact va_dast X.1 X.2.1 X.2.2.2.2.2.1 hP hD hS q t0 (f := S.2.2 k i) (n := n) ha ht hin h1 (fun H1 locs1 hP1 hD1 hS1 => by rw [set_arrD hq hk.1 hk.2] at hP1 hD1; exact K H1 locs1 ls hP1 hD1 hS1 hl)
theorem acel_len {G : GG} {S : MS} {k i tg n : Nat} (h : aTy k = (tg, n)) : (acel G S k i).1 = n := by
  unfold acel
  rw [h]
  match tg with
  | 0 => rfl
  | 1 => rfl
  | 2 => rfl
  | 3 => rfl
  | _ + 4 => rfl
theorem ws_alen (X : CX p s m args meth c G A cc own nL ret) {n tg : Nat} {v : Int32} (hk : AKk k tg n) (ho : (k, i) ∈ objs) (hv : Int32.ofNat n = v) (hdg : DC cc pc .arraylength 1 nxt) (K : WS p l e R s m args below meth c G A nL cells slots Q nxt lv (.inl (.int v) :: st) S) : WS p l e R s m args below meth c G A nL cells slots Q pc lv (.inr (k, i) :: st) S := by
  obtain ⟨h1, rfl⟩ := hdg
  obtain ⟨q, hq⟩ := wld_has ho
  obtain ⟨t0, ht0⟩ := hk.ft (G := G) ho
  intro H locs ls hP hD hS hl
  exact va_alen X.1 X.2.1 X.2.2.2.2.2.1 hP q t0 (x := acel G S k i) (by rw [wld_get hq, cel_arr hk.1]) ht0 (by rw [acel_len hk.2]; exact hv) h1 (K H locs ls hP hD hS hl)
/-! the static rows -/
theorem ws_gets (X : CX p s m args meth c G A cc own nL ret) (k : Nat) (hk : k < 3) (hlk : Cond.fieldLink own idx "InstrumentFiles$Ops" (stn k) "[I" ∈ lw_gd) (hdg : DC cc pc (.getstatic idx) 3 nxt) (K : WS p l e R s m args below meth c G A nL cells slots Q nxt lv (.inl (.ref (G.2.2.2 k)) :: st) S) : WS p l e R s m args below meth c G A nL cells slots Q pc lv st S := by
  obtain ⟨h1, rfl⟩ := hdg
  intro H locs ls hP hD hS hl
  exact va_gets X.1 X.2.1 (X.2.2.2.2.2.2.2.1.1 k hk).1 hS X.2.2.2.1 (X.2.2.2.2.1 _ hlk) (fun _ z => z) h1 (K H locs ls hP hD hS hl)
theorem ws_tlen (X : CX p s m args meth c G A cc own nL ret) (k : Nat) (hk : k < 3) (hdg : DC cc pc .arraylength 1 nxt) (K : WS p l e R s m args below meth c G A nL cells slots Q nxt lv (.inl (.int 25) :: st) S) : WS p l e R s m args below meth c G A nL cells slots Q pc lv (.inl (.ref (G.2.2.2 k)) :: st) S := by
  obtain ⟨h1, rfl⟩ := hdg
  intro H locs ls hP hD hS hl
  exact va_tlen X.1 X.2.1 (X.2.2.2.2.2.2.2.1.1 k hk).2 hS rfl h1 (K H locs ls hP hD hS hl)
theorem ws_tald (X : CX p s m args meth c G A cc own nL ret) (k : Nat) (hk : k < 3) {j : Int32} (hin : vp_in j 25) (hdg : DC cc pc .iaload 1 nxt) (K : WS p l e R s m args below meth c G A nL cells slots Q nxt lv (.inl (.int ((stv k).getD j.toNatClampNeg 0)) :: st) S) : WS p l e R s m args below meth c G A nL cells slots Q pc lv (.inl (.int j) :: .inl (.ref (G.2.2.2 k)) :: st) S := by
  obtain ⟨h1, rfl⟩ := hdg
  intro H locs ls hP hD hS hl
  exact va_ti X.1 X.2.1 (X.2.2.2.2.2.2.2.1.1 k hk).2 hS hin rfl h1 (K H locs ls hP hD hS hl)
/-! the law's script -/
theorem ws_slen (X : CX p s m args meth c G A cc own nL ret) {b L : Nat} {xs : Nat → Int32} (hX : va_X b L xs s s.heap) (hbl : b < s.heap.size) (hbA : ¬ A b) (hdg : DC cc pc .arraylength 1 nxt) (K : WS p l e R s m args below meth c G A nL cells slots Q nxt lv (.inl (.int (Int32.ofNat L)) :: st) S) : WS p l e R s m args below meth c G A nL cells slots Q pc lv (.inl (.ref b) :: st) S := by
  obtain ⟨h1, rfl⟩ := hdg
  intro H locs ls hP hD hS hl
  exact va_slen X.1 X.2.1 hX hbl hbA hS h1 (K H locs ls hP hD hS hl)
theorem ws_sld (X : CX p s m args meth c G A cc own nL ret) {b L : Nat} {xs : Nat → Int32} (hX : va_X b L xs s s.heap) (hbl : b < s.heap.size) (hbA : ¬ A b) {j : Int32} (hin : vp_in j L) (hdg : DC cc pc .iaload 1 nxt) (K : WS p l e R s m args below meth c G A nL cells slots Q nxt lv (.inl (.int (xs j.toNatClampNeg)) :: st) S) : WS p l e R s m args below meth c G A nL cells slots Q pc lv (.inl (.int j) :: .inl (.ref b) :: st) S := by
  obtain ⟨h1, rfl⟩ := hdg
  intro H locs ls hP hD hS hl
  exact va_sld X.1 X.2.1 hX hbl hbA hS hin h1 (K H locs ls hP hD hS hl)
end WSH
