section WSR
variable {p : Program} {l : Launch} {e : Env} {R : Room} {s : State} {m : MethodId} {args : Array Value} {below : List Frame} {meth : Method} {c : Code} {G : GG} {A : Nat → Prop} {cells slots : Nat} {Q : State → Prop} {cc : ByteArray} {own : String} {nL : Nat} {ret : Option FieldType}
variable {pc nxt tgt : Nat} {lv : List (Option MV)} {st : List MV} {S : MS} {off : Int}
theorem ws_iconst (X : CX p s m args meth c G A cc own nL ret) {n : Int} (hdg : DC cc pc (.iconst n) 1 nxt) {v : Int32} (hv : Int32.ofInt n = v) (K : WS p l e R s m args below meth c G A nL cells slots Q nxt lv (.inl (.int v) :: st) S) : WS p l e R s m args below meth c G A nL cells slots Q pc lv (st) S := by
  obtain ⟨h1, rfl⟩ := hdg
  exact fun H locs ls hP hD hS hl => lv_iconst X.1 X.2.1 h1 hv (K H locs ls hP hD hS hl)
theorem ws_bipush (X : CX p s m args meth c G A cc own nL ret) {n : Int} (hdg : DC cc pc (.bipush n) 2 nxt) {v : Int32} (hv : (Int8.ofInt n).toInt32 = v) (K : WS p l e R s m args below meth c G A nL cells slots Q nxt lv (.inl (.int v) :: st) S) : WS p l e R s m args below meth c G A nL cells slots Q pc lv (st) S := by
  obtain ⟨h1, rfl⟩ := hdg
  exact fun H locs ls hP hD hS hl => lv_bipush X.1 X.2.1 h1 hv (K H locs ls hP hD hS hl)
theorem ws_sipush (X : CX p s m args meth c G A cc own nL ret) {n : Int} (hdg : DC cc pc (.sipush n) 3 nxt) {v : Int32} (hv : (Int16.ofInt n).toInt32 = v) (K : WS p l e R s m args below meth c G A nL cells slots Q nxt lv (.inl (.int v) :: st) S) : WS p l e R s m args below meth c G A nL cells slots Q pc lv (st) S := by
  obtain ⟨h1, rfl⟩ := hdg
  exact fun H locs ls hP hD hS hl => lv_sipush X.1 X.2.1 h1 hv (K H locs ls hP hD hS hl)
theorem ws_lconst (X : CX p s m args meth c G A cc own nL ret) {n : Fin 2} (hdg : DC cc pc (.lconst n) 1 nxt) {v : Int64} (hv : Int64.ofNat (n : Nat) = v) (K : WS p l e R s m args below meth c G A nL cells slots Q nxt lv (.inl (.long v) :: st) S) : WS p l e R s m args below meth c G A nL cells slots Q pc lv (st) S := by
  obtain ⟨h1, rfl⟩ := hdg
  exact fun H locs ls hP hD hS hl => lv_lconst X.1 X.2.1 h1 hv (K H locs ls hP hD hS hl)
theorem ws_dconst0 (X : CX p s m args meth c G A cc own nL ret) (hdg : DC cc pc (.dconst 0) 1 nxt) (K : WS p l e R s m args below meth c G A nL cells slots Q nxt lv (.inl (.double FP.dconst0) :: st) S) : WS p l e R s m args below meth c G A nL cells slots Q pc lv (st) S := by
  obtain ⟨h1, rfl⟩ := hdg
  exact fun H locs ls hP hD hS hl => lv_dconst0 X.1 X.2.1 h1 (K H locs ls hP hD hS hl)
theorem ws_dconst1 (X : CX p s m args meth c G A cc own nL ret) (hdg : DC cc pc (.dconst 1) 1 nxt) (K : WS p l e R s m args below meth c G A nL cells slots Q nxt lv (.inl (.double FP.dconst1) :: st) S) : WS p l e R s m args below meth c G A nL cells slots Q pc lv (st) S := by
  obtain ⟨h1, rfl⟩ := hdg
  exact fun H locs ls hP hD hS hl => lv_dconst1 X.1 X.2.1 h1 (K H locs ls hP hD hS hl)
theorem ws_ldc (X : CX p s m args meth c G A cc own nL ret) {i : Nat} (hdg : DC cc pc (.ldc i) 2 nxt) {v : Int32} (hc : Cond.constant own i v ∈ lw_gd) (K : WS p l e R s m args below meth c G A nL cells slots Q nxt lv (.inl (.int v) :: st) S) : WS p l e R s m args below meth c G A nL cells slots Q pc lv (st) S := by
  obtain ⟨h1, rfl⟩ := hdg
  exact fun H locs ls hP hD hS hl => lv_ldc X.1 X.2.1 X.2.2.2.1 (X.2.2.2.2.1 _ hc) h1 (K H locs ls hP hD hS hl)
theorem ws_ldc2 (X : CX p s m args meth c G A cc own nL ret) {i : Nat} (hdg : DC cc pc (.ldc2_w i) 3 nxt) {v : Int64} (hc : Cond.constantLong own i v ∈ lw_gd) (K : WS p l e R s m args below meth c G A nL cells slots Q nxt lv (.inl (.long v) :: st) S) : WS p l e R s m args below meth c G A nL cells slots Q pc lv (st) S := by
  obtain ⟨h1, rfl⟩ := hdg
  exact fun H locs ls hP hD hS hl => lv_ldc2 X.1 X.2.1 X.2.2.2.1 (X.2.2.2.2.1 _ hc) h1 (K H locs ls hP hD hS hl)
theorem ws_ldc2d (X : CX p s m args meth c G A cc own nL ret) {i : Nat} (hdg : DC cc pc (.ldc2_w i) 3 nxt) {v : UInt64} (hc : Cond.constantDouble own i v ∈ lw_gd) (K : WS p l e R s m args below meth c G A nL cells slots Q nxt lv (.inl (.double v) :: st) S) : WS p l e R s m args below meth c G A nL cells slots Q pc lv (st) S := by
  obtain ⟨h1, rfl⟩ := hdg
  exact fun H locs ls hP hD hS hl => lv_ldc2d X.1 X.2.1 X.2.2.2.1 (X.2.2.2.2.1 _ hc) h1 (K H locs ls hP hD hS hl)
theorem ws_null (X : CX p s m args meth c G A cc own nL ret) (hdg : DC cc pc (.aconst_null) 1 nxt) (K : WS p l e R s m args below meth c G A nL cells slots Q nxt lv (.inl .null :: st) S) : WS p l e R s m args below meth c G A nL cells slots Q pc lv (st) S := by
  obtain ⟨h1, rfl⟩ := hdg
  exact fun H locs ls hP hD hS hl => lv_null X.1 X.2.1 h1 (K H locs ls hP hD hS hl)
def lget : Nat → List (Option MV) → Option MV
  | 0, a :: _ => a
  | n + 1, _ :: t => lget n t
  | _, [] => none
theorem asl_get {G : GG} : ∀ (i n : Nat) (lv : List (Option MV)) (v : MV), lget i lv = some v → (n + i, tr G v) ∈ asl G n lv
  | 0, n, a :: t, v, h => by
    have h : a = some v := h
    subst h
    exact List.mem_cons_self
  | i + 1, n, a :: t, v, h => by
    have h : lget i t = some v := h
    have h2 := asl_get (G := G) i (n + 1) t v h
    rw [show n + (i + 1) = n + 1 + i by omega]
    cases a with
    | none => exact h2
    | some b => exact List.mem_cons_of_mem _ h2
  | 0, _, [], _, h => by cases h
  | _ + 1, _, [], _, h => by cases h
theorem asl_at {G : GG} {ls : Array Slot} {nL i : Nat} {lv : List (Option MV)} {v : MV} (hl : lv_has ls nL (asl G 0 lv)) (h : lget i lv = some v) : ls[i]? = some (.val (tr G v)) := by
  have h2 := hl.2.2 _ (asl_get i 0 lv v h)
  rwa [Nat.zero_add] at h2
theorem ws_iload_n (X : CX p s m args meth c G A cc own nL ret) {i : Nat} {k : Fin 4} (hdg : DC cc pc (.iload_n k) 1 nxt) {x : Int32} (hi : (k : Nat) = i) (hl0 : lget i lv = some (.inl (.int x))) (K : WS p l e R s m args below meth c G A nL cells slots Q nxt lv (.inl (.int x) :: st) S) : WS p l e R s m args below meth c G A nL cells slots Q pc lv st S := by
  obtain ⟨h1, rfl⟩ := hdg
  exact fun H locs ls hP hD hS hl => lv_iload_n X.1 X.2.1 h1 hi (asl_at hl hl0) (K H locs ls hP hD hS hl)
theorem ws_iload (X : CX p s m args meth c G A cc own nL ret) {i : Nat} (hdg : DC cc pc (.iload i) 2 nxt) {x : Int32} (hl0 : lget i lv = some (.inl (.int x))) (K : WS p l e R s m args below meth c G A nL cells slots Q nxt lv (.inl (.int x) :: st) S) : WS p l e R s m args below meth c G A nL cells slots Q pc lv st S := by
  obtain ⟨h1, rfl⟩ := hdg
  exact fun H locs ls hP hD hS hl => lv_iload X.1 X.2.1 h1 (asl_at hl hl0) (K H locs ls hP hD hS hl)
theorem ws_lload_n (X : CX p s m args meth c G A cc own nL ret) {i : Nat} {k : Fin 4} (hdg : DC cc pc (.lload_n k) 1 nxt) {x : Int64} (hi : (k : Nat) = i) (hl0 : lget i lv = some (.inl (.long x))) (K : WS p l e R s m args below meth c G A nL cells slots Q nxt lv (.inl (.long x) :: st) S) : WS p l e R s m args below meth c G A nL cells slots Q pc lv st S := by
  obtain ⟨h1, rfl⟩ := hdg
  exact fun H locs ls hP hD hS hl => lv_lload_n X.1 X.2.1 h1 hi (asl_at hl hl0) (K H locs ls hP hD hS hl)
theorem ws_lload (X : CX p s m args meth c G A cc own nL ret) {i : Nat} (hdg : DC cc pc (.lload i) 2 nxt) {x : Int64} (hl0 : lget i lv = some (.inl (.long x))) (K : WS p l e R s m args below meth c G A nL cells slots Q nxt lv (.inl (.long x) :: st) S) : WS p l e R s m args below meth c G A nL cells slots Q pc lv st S := by
  obtain ⟨h1, rfl⟩ := hdg
  exact fun H locs ls hP hD hS hl => lv_lload X.1 X.2.1 h1 (asl_at hl hl0) (K H locs ls hP hD hS hl)
theorem ws_dload_n (X : CX p s m args meth c G A cc own nL ret) {i : Nat} {k : Fin 4} (hdg : DC cc pc (.dload_n k) 1 nxt) {x : UInt64} (hi : (k : Nat) = i) (hl0 : lget i lv = some (.inl (.double x))) (K : WS p l e R s m args below meth c G A nL cells slots Q nxt lv (.inl (.double x) :: st) S) : WS p l e R s m args below meth c G A nL cells slots Q pc lv st S := by
  obtain ⟨h1, rfl⟩ := hdg
  exact fun H locs ls hP hD hS hl => lv_dload_n X.1 X.2.1 h1 hi (asl_at hl hl0) (K H locs ls hP hD hS hl)
theorem ws_dload (X : CX p s m args meth c G A cc own nL ret) {i : Nat} (hdg : DC cc pc (.dload i) 2 nxt) {x : UInt64} (hl0 : lget i lv = some (.inl (.double x))) (K : WS p l e R s m args below meth c G A nL cells slots Q nxt lv (.inl (.double x) :: st) S) : WS p l e R s m args below meth c G A nL cells slots Q pc lv st S := by
  obtain ⟨h1, rfl⟩ := hdg
  exact fun H locs ls hP hD hS hl => lv_dload X.1 X.2.1 h1 (asl_at hl hl0) (K H locs ls hP hD hS hl)
theorem ws_aload_n (X : CX p s m args meth c G A cc own nL ret) {i : Nat} {k : Fin 4} (hdg : DC cc pc (.aload_n k) 1 nxt) {x : Nat × Nat} (hi : (k : Nat) = i) (hl0 : lget i lv = some (.inr x)) (K : WS p l e R s m args below meth c G A nL cells slots Q nxt lv (.inr x :: st) S) : WS p l e R s m args below meth c G A nL cells slots Q pc lv st S := by
  obtain ⟨h1, rfl⟩ := hdg
  exact fun H locs ls hP hD hS hl => lv_aload_n X.1 X.2.1 h1 hi (asl_at hl hl0) (K H locs ls hP hD hS hl)
theorem ws_aload (X : CX p s m args meth c G A cc own nL ret) {i : Nat} (hdg : DC cc pc (.aload i) 2 nxt) {x : Nat × Nat} (hl0 : lget i lv = some (.inr x)) (K : WS p l e R s m args below meth c G A nL cells slots Q nxt lv (.inr x :: st) S) : WS p l e R s m args below meth c G A nL cells slots Q pc lv st S := by
  obtain ⟨h1, rfl⟩ := hdg
  exact fun H locs ls hP hD hS hl => lv_aload X.1 X.2.1 h1 (asl_at hl hl0) (K H locs ls hP hD hS hl)
theorem ws_aRload_n (X : CX p s m args meth c G A cc own nL ret) {i : Nat} {k : Fin 4} (hdg : DC cc pc (.aload_n k) 1 nxt) {x : Nat} (hi : (k : Nat) = i) (hl0 : lget i lv = some (.inl (.ref x))) (K : WS p l e R s m args below meth c G A nL cells slots Q nxt lv (.inl (.ref x) :: st) S) : WS p l e R s m args below meth c G A nL cells slots Q pc lv st S := by
  obtain ⟨h1, rfl⟩ := hdg
  exact fun H locs ls hP hD hS hl => lv_aload_n X.1 X.2.1 h1 hi (asl_at hl hl0) (K H locs ls hP hD hS hl)
theorem ws_aRload (X : CX p s m args meth c G A cc own nL ret) {i : Nat} (hdg : DC cc pc (.aload i) 2 nxt) {x : Nat} (hl0 : lget i lv = some (.inl (.ref x))) (K : WS p l e R s m args below meth c G A nL cells slots Q nxt lv (.inl (.ref x) :: st) S) : WS p l e R s m args below meth c G A nL cells slots Q pc lv st S := by
  obtain ⟨h1, rfl⟩ := hdg
  exact fun H locs ls hP hD hS hl => lv_aload X.1 X.2.1 h1 (asl_at hl hl0) (K H locs ls hP hD hS hl)
theorem ws_aNload_n (X : CX p s m args meth c G A cc own nL ret) {i : Nat} {k : Fin 4} (hdg : DC cc pc (.aload_n k) 1 nxt) (hi : (k : Nat) = i) (hl0 : lget i lv = some (.inl .null)) (K : WS p l e R s m args below meth c G A nL cells slots Q nxt lv (.inl .null :: st) S) : WS p l e R s m args below meth c G A nL cells slots Q pc lv st S := by
  obtain ⟨h1, rfl⟩ := hdg
  exact fun H locs ls hP hD hS hl => lv_aload_nN X.1 X.2.1 h1 hi (asl_at hl hl0) (K H locs ls hP hD hS hl)
theorem ws_aNload (X : CX p s m args meth c G A cc own nL ret) {i : Nat} (hdg : DC cc pc (.aload i) 2 nxt) (hl0 : lget i lv = some (.inl .null)) (K : WS p l e R s m args below meth c G A nL cells slots Q nxt lv (.inl .null :: st) S) : WS p l e R s m args below meth c G A nL cells slots Q pc lv st S := by
  obtain ⟨h1, rfl⟩ := hdg
  exact fun H locs ls hP hD hS hl => lv_aloadN X.1 X.2.1 h1 (asl_at hl hl0) (K H locs ls hP hD hS hl)
def mcat (v : MV) : Nat := match v with
  | .inl x => x.category
  | .inr _ => 1
theorem tr_cat (G : GG) (v : MV) : (tr G v).category = mcat v := by
  cases v <;> rfl
/-- what stays of the locals when place i gets a value that takes w places -/
def lste (i w : Nat) (x : MV) (n : Nat) (a : Option MV) : Option MV := if n = i then some x else if w = 2 ∧ n = i + 1 then none else match a with
  | none => none
  | some v => if n + 1 = i ∧ mcat v = 2 then none else some v
def lst (i w : Nat) (x : MV) : Nat → List (Option MV) → List (Option MV)
  | _, [] => []
  | n, a :: t => lste i w x n a :: lst i w x (n + 1) t
theorem lst_sub {G : GG} (i w : Nat) (x : MV) : ∀ (n : Nat) (lv : List (Option MV)) (q : Nat × Value), q ∈ asl G n (lst i w x n lv) → (q = (i, tr G x)) ∨ (q ∈ asl G n lv ∧ q.1 ≠ i ∧ ¬ (q.1 + 1 = i ∧ q.2.category = 2) ∧ ¬ (w = 2 ∧ q.1 = i + 1))
  | _, [], q, h => by cases h
  | n, a :: t, q, h => by
    by_cases h1 : n = i
    · have e : lst i w x n (a :: t) = some x :: lst i w x (n + 1) t := by
        show lste i w x n a :: _ = _
        unfold lste
        rw [if_pos h1]
      rw [e] at h
      rcases List.mem_cons.mp h with h2 | h2
      · exact Or.inl (by rw [h2, h1])
      · rcases lst_sub i w x (n + 1) t q h2 with h3 | ⟨h3, h4⟩
        · exact Or.inl h3
        · refine Or.inr ⟨?_, h4⟩
          cases a with
          | none => exact h3
          | some b => exact List.mem_cons_of_mem _ h3
    · by_cases h2 : w = 2 ∧ n = i + 1
      · have e : lst i w x n (a :: t) = none :: lst i w x (n + 1) t := by
          show lste i w x n a :: _ = _
          unfold lste
          rw [if_neg h1, if_pos h2]
        rw [e] at h
        rcases lst_sub i w x (n + 1) t q h with h3 | ⟨h3, h4⟩
        · exact Or.inl h3
        · refine Or.inr ⟨?_, h4⟩
          cases a with
          | none => exact h3
          | some b => exact List.mem_cons_of_mem _ h3
      · cases a with
        | none =>
          have e : lst i w x n (none :: t) = none :: lst i w x (n + 1) t := by rw [lst, lste, if_neg h1, if_neg h2]
          rw [e] at h
          exact lst_sub i w x (n + 1) t q h
        | some b =>
          by_cases h5 : n + 1 = i ∧ mcat b = 2
          · have e : lst i w x n (some b :: t) = none :: lst i w x (n + 1) t := by
              rw [lst, lste, if_neg h1, if_neg h2]; simp only [if_pos h5]
            rw [e] at h
            rcases lst_sub i w x (n + 1) t q h with h3 | ⟨h3, h4⟩
            · exact Or.inl h3
            · exact Or.inr ⟨List.mem_cons_of_mem _ h3, h4⟩
          · have e : lst i w x n (some b :: t) = some b :: lst i w x (n + 1) t := by
              rw [lst, lste, if_neg h1, if_neg h2]; simp only [if_neg h5]
            rw [e] at h
            rcases List.mem_cons.mp h with h6 | h6
            · subst h6
              exact Or.inr ⟨List.mem_cons_self, h1, fun z => h5 ⟨z.1, by rw [← tr_cat G]; exact z.2⟩, fun z => h2 z⟩
            · rcases lst_sub i w x (n + 1) t q h6 with h3 | ⟨h3, h4⟩
              · exact Or.inl h3
              · exact Or.inr ⟨List.mem_cons_of_mem _ h3, h4⟩
theorem lst1 {G : GG} {ls : Array Slot} {i : Nat} {x : MV} {lv lv' : List (Option MV)} (he : lst i 1 x 0 lv = lv') (h : lv_has ls nL ((i, tr G x) :: (asl G 0 lv).filter (fun q => !(q.1 == i) && !(q.1 + 1 == i && q.2.category == 2)))) : lv_has ls nL (asl G 0 lv') := by
  subst he
  refine ⟨h.1, h.2.1, fun q hq => ?_⟩
  rcases lst_sub i 1 x 0 lv q hq with h1 | ⟨h1, h2, h3, -⟩
  · exact h.2.2 q (by rw [h1]; exact List.mem_cons_self)
  · refine h.2.2 q (List.mem_cons_of_mem _ (List.mem_filter.mpr ⟨h1, ?_⟩))
    have h3' : ¬ (q.1 + 1 = i ∧ q.2.category = 2) := h3
    by_cases ha : q.1 + 1 = i <;> by_cases hb : q.2.category = 2 <;> simp_all
theorem lst2 {G : GG} {ls : Array Slot} {i : Nat} {x : MV} {lv lv' : List (Option MV)} (he : lst i 2 x 0 lv = lv') (h : lv_has ls nL ((i, tr G x) :: (asl G 0 lv).filter (fun q => !(q.1 == i) && (!(q.1 == i + 1) && !(q.1 + 1 == i && q.2.category == 2))))) : lv_has ls nL (asl G 0 lv') := by
  subst he
  refine ⟨h.1, h.2.1, fun q hq => ?_⟩
  rcases lst_sub i 2 x 0 lv q hq with h1 | ⟨h1, h2, h3, h4⟩
  · exact h.2.2 q (by rw [h1]; exact List.mem_cons_self)
  · refine h.2.2 q (List.mem_cons_of_mem _ (List.mem_filter.mpr ⟨h1, ?_⟩))
    have h5 : ¬ q.1 = i + 1 := fun z => h4 ⟨rfl, z⟩
    by_cases ha : q.1 + 1 = i <;> by_cases hb : q.2.category = 2 <;> simp_all
theorem ws_istore_n (X : CX p s m args meth c G A cc own nL ret) {i : Nat} {k : Fin 4} {x : Int32} {lv' : List (Option MV)} (hdg : DC cc pc (.istore_n k) 1 nxt) (hi : (k : Nat) = i) (hn : i < nL) (hlv : lst i 1 (.inl (.int x)) 0 lv = lv') (K : WS p l e R s m args below meth c G A nL cells slots Q nxt lv' st S) : WS p l e R s m args below meth c G A nL cells slots Q pc lv (.inl (.int x) :: st) S := by
  obtain ⟨h1, rfl⟩ := hdg
  exact fun H locs ls hP hD hS hl => lv_istore_n X.1 X.2.1 h1 hi hl hn rfl (fun ls2 hl2 => K H locs ls2 hP hD hS (lst1 (x := .inl (.int x)) hlv hl2))
theorem ws_istore (X : CX p s m args meth c G A cc own nL ret) {i : Nat} {x : Int32} {lv' : List (Option MV)} (hdg : DC cc pc (.istore i) 2 nxt) (hn : i < nL) (hlv : lst i 1 (.inl (.int x)) 0 lv = lv') (K : WS p l e R s m args below meth c G A nL cells slots Q nxt lv' st S) : WS p l e R s m args below meth c G A nL cells slots Q pc lv (.inl (.int x) :: st) S := by
  obtain ⟨h1, rfl⟩ := hdg
  exact fun H locs ls hP hD hS hl => lv_istore X.1 X.2.1 h1 hl hn rfl (fun ls2 hl2 => K H locs ls2 hP hD hS (lst1 (x := .inl (.int x)) hlv hl2))
theorem ws_lstore_n (X : CX p s m args meth c G A cc own nL ret) {i : Nat} {k : Fin 4} {x : Int64} {lv' : List (Option MV)} (hdg : DC cc pc (.lstore_n k) 1 nxt) (hi : (k : Nat) = i) (hn : i + 1 < nL) (hlv : lst i 2 (.inl (.long x)) 0 lv = lv') (K : WS p l e R s m args below meth c G A nL cells slots Q nxt lv' st S) : WS p l e R s m args below meth c G A nL cells slots Q pc lv (.inl (.long x) :: st) S := by
  obtain ⟨h1, rfl⟩ := hdg
  exact fun H locs ls hP hD hS hl => lv_lstore_n X.1 X.2.1 h1 hi hl hn rfl (fun ls2 hl2 => K H locs ls2 hP hD hS (lst2 (x := .inl (.long x)) hlv hl2))
theorem ws_lstore (X : CX p s m args meth c G A cc own nL ret) {i : Nat} {x : Int64} {lv' : List (Option MV)} (hdg : DC cc pc (.lstore i) 2 nxt) (hn : i + 1 < nL) (hlv : lst i 2 (.inl (.long x)) 0 lv = lv') (K : WS p l e R s m args below meth c G A nL cells slots Q nxt lv' st S) : WS p l e R s m args below meth c G A nL cells slots Q pc lv (.inl (.long x) :: st) S := by
  obtain ⟨h1, rfl⟩ := hdg
  exact fun H locs ls hP hD hS hl => lv_lstore X.1 X.2.1 h1 hl hn rfl (fun ls2 hl2 => K H locs ls2 hP hD hS (lst2 (x := .inl (.long x)) hlv hl2))
theorem ws_dstore_n (X : CX p s m args meth c G A cc own nL ret) {i : Nat} {k : Fin 4} {x : UInt64} {lv' : List (Option MV)} (hdg : DC cc pc (.dstore_n k) 1 nxt) (hi : (k : Nat) = i) (hn : i + 1 < nL) (hlv : lst i 2 (.inl (.double x)) 0 lv = lv') (K : WS p l e R s m args below meth c G A nL cells slots Q nxt lv' st S) : WS p l e R s m args below meth c G A nL cells slots Q pc lv (.inl (.double x) :: st) S := by
  obtain ⟨h1, rfl⟩ := hdg
  exact fun H locs ls hP hD hS hl => lv_dstore_n X.1 X.2.1 h1 hi hl hn rfl (fun ls2 hl2 => K H locs ls2 hP hD hS (lst2 (x := .inl (.double x)) hlv hl2))
theorem ws_dstore (X : CX p s m args meth c G A cc own nL ret) {i : Nat} {x : UInt64} {lv' : List (Option MV)} (hdg : DC cc pc (.dstore i) 2 nxt) (hn : i + 1 < nL) (hlv : lst i 2 (.inl (.double x)) 0 lv = lv') (K : WS p l e R s m args below meth c G A nL cells slots Q nxt lv' st S) : WS p l e R s m args below meth c G A nL cells slots Q pc lv (.inl (.double x) :: st) S := by
  obtain ⟨h1, rfl⟩ := hdg
  exact fun H locs ls hP hD hS hl => lv_dstore X.1 X.2.1 h1 hl hn rfl (fun ls2 hl2 => K H locs ls2 hP hD hS (lst2 (x := .inl (.double x)) hlv hl2))
theorem ws_astore_n (X : CX p s m args meth c G A cc own nL ret) {i : Nat} {k : Fin 4} {x : Nat × Nat} {lv' : List (Option MV)} (hdg : DC cc pc (.astore_n k) 1 nxt) (hi : (k : Nat) = i) (hn : i < nL) (hlv : lst i 1 (.inr x) 0 lv = lv') (K : WS p l e R s m args below meth c G A nL cells slots Q nxt lv' st S) : WS p l e R s m args below meth c G A nL cells slots Q pc lv (.inr x :: st) S := by
  obtain ⟨h1, rfl⟩ := hdg
  exact fun H locs ls hP hD hS hl => lv_astore_n X.1 X.2.1 h1 hi hl hn rfl (fun ls2 hl2 => K H locs ls2 hP hD hS (lst1 (x := .inr x) hlv hl2))
theorem ws_astore (X : CX p s m args meth c G A cc own nL ret) {i : Nat} {x : Nat × Nat} {lv' : List (Option MV)} (hdg : DC cc pc (.astore i) 2 nxt) (hn : i < nL) (hlv : lst i 1 (.inr x) 0 lv = lv') (K : WS p l e R s m args below meth c G A nL cells slots Q nxt lv' st S) : WS p l e R s m args below meth c G A nL cells slots Q pc lv (.inr x :: st) S := by
  obtain ⟨h1, rfl⟩ := hdg
  exact fun H locs ls hP hD hS hl => lv_astore X.1 X.2.1 h1 hl hn rfl (fun ls2 hl2 => K H locs ls2 hP hD hS (lst1 (x := .inr x) hlv hl2))
theorem ws_aNstore_n (X : CX p s m args meth c G A cc own nL ret) {i : Nat} {k : Fin 4} {lv' : List (Option MV)} (hdg : DC cc pc (.astore_n k) 1 nxt) (hi : (k : Nat) = i) (hn : i < nL) (hlv : lst i 1 (.inl .null) 0 lv = lv') (K : WS p l e R s m args below meth c G A nL cells slots Q nxt lv' st S) : WS p l e R s m args below meth c G A nL cells slots Q pc lv (.inl .null :: st) S := by
  obtain ⟨h1, rfl⟩ := hdg
  exact fun H locs ls hP hD hS hl => lv_astore_nN X.1 X.2.1 h1 hi hl hn rfl (fun ls2 hl2 => K H locs ls2 hP hD hS (lst1 (x := .inl .null) hlv hl2))
theorem ws_aNstore (X : CX p s m args meth c G A cc own nL ret) {i : Nat} {lv' : List (Option MV)} (hdg : DC cc pc (.astore i) 2 nxt) (hn : i < nL) (hlv : lst i 1 (.inl .null) 0 lv = lv') (K : WS p l e R s m args below meth c G A nL cells slots Q nxt lv' st S) : WS p l e R s m args below meth c G A nL cells slots Q pc lv (.inl .null :: st) S := by
  obtain ⟨h1, rfl⟩ := hdg
  exact fun H locs ls hP hD hS hl => lv_astoreN X.1 X.2.1 h1 hl hn rfl (fun ls2 hl2 => K H locs ls2 hP hD hS (lst1 (x := .inl .null) hlv hl2))
theorem asl_idx {G : GG} {i : Nat} {lv : List (Option MV)} {v : MV} (h : lget i lv = some v) : ∃ k : Nat, (asl G 0 lv)[k]? = some (i, tr G v) := by
  have h2 := asl_get (G := G) i 0 lv v h
  rw [Nat.zero_add] at h2
  exact List.getElem?_of_mem h2
theorem ws_iinc (X : CX p s m args meth c G A cc own nL ret) {i : Nat} {n : Int} {x v : Int32} {lv' : List (Option MV)} (hdg : DC cc pc (.iinc i n) 3 nxt) (hl0 : lget i lv = some (.inl (.int x))) (hv : x + Int32.ofInt n = v) (hn : i < nL) (hlv : lst i 1 (.inl (.int v)) 0 lv = lv') (K : WS p l e R s m args below meth c G A nL cells slots Q nxt lv' st S) : WS p l e R s m args below meth c G A nL cells slots Q pc lv st S := by
  obtain ⟨h1, rfl⟩ := hdg
  obtain ⟨k, hk⟩ := asl_idx (G := G) hl0
  exact fun H locs ls hP hD hS hl => lv_iinc X.1 X.2.1 h1 hl hk hv hn rfl (fun ls2 hl2 => K H locs ls2 hP hD hS (lst1 (x := .inl (.int v)) hlv hl2))
theorem ws_iadd (X : CX p s m args meth c G A cc own nL ret) {x y : Int32} (hdg : DC cc pc (.iadd) 1 nxt) (K : WS p l e R s m args below meth c G A nL cells slots Q nxt lv (.inl (.int (x + y)) :: st) S) : WS p l e R s m args below meth c G A nL cells slots Q pc lv (.inl (.int y) :: .inl (.int x) :: st) S := by
  obtain ⟨h1, rfl⟩ := hdg
  exact fun H locs ls hP hD hS hl => lv_iadd X.1 X.2.1 h1 (K H locs ls hP hD hS hl)
theorem ws_isub (X : CX p s m args meth c G A cc own nL ret) {x y : Int32} (hdg : DC cc pc (.isub) 1 nxt) (K : WS p l e R s m args below meth c G A nL cells slots Q nxt lv (.inl (.int (x - y)) :: st) S) : WS p l e R s m args below meth c G A nL cells slots Q pc lv (.inl (.int y) :: .inl (.int x) :: st) S := by
  obtain ⟨h1, rfl⟩ := hdg
  exact fun H locs ls hP hD hS hl => lv_isub X.1 X.2.1 h1 (K H locs ls hP hD hS hl)
theorem ws_imul (X : CX p s m args meth c G A cc own nL ret) {x y : Int32} (hdg : DC cc pc (.imul) 1 nxt) (K : WS p l e R s m args below meth c G A nL cells slots Q nxt lv (.inl (.int (x * y)) :: st) S) : WS p l e R s m args below meth c G A nL cells slots Q pc lv (.inl (.int y) :: .inl (.int x) :: st) S := by
  obtain ⟨h1, rfl⟩ := hdg
  exact fun H locs ls hP hD hS hl => lv_imul X.1 X.2.1 h1 (K H locs ls hP hD hS hl)
theorem ws_iand (X : CX p s m args meth c G A cc own nL ret) {x y : Int32} (hdg : DC cc pc (.iand) 1 nxt) (K : WS p l e R s m args below meth c G A nL cells slots Q nxt lv (.inl (.int (x &&& y)) :: st) S) : WS p l e R s m args below meth c G A nL cells slots Q pc lv (.inl (.int y) :: .inl (.int x) :: st) S := by
  obtain ⟨h1, rfl⟩ := hdg
  exact fun H locs ls hP hD hS hl => lv_iand X.1 X.2.1 h1 (K H locs ls hP hD hS hl)
theorem ws_ior (X : CX p s m args meth c G A cc own nL ret) {x y : Int32} (hdg : DC cc pc (.ior) 1 nxt) (K : WS p l e R s m args below meth c G A nL cells slots Q nxt lv (.inl (.int (x ||| y)) :: st) S) : WS p l e R s m args below meth c G A nL cells slots Q pc lv (.inl (.int y) :: .inl (.int x) :: st) S := by
  obtain ⟨h1, rfl⟩ := hdg
  exact fun H locs ls hP hD hS hl => lv_ior X.1 X.2.1 h1 (K H locs ls hP hD hS hl)
theorem ws_ixor (X : CX p s m args meth c G A cc own nL ret) {x y : Int32} (hdg : DC cc pc (.ixor) 1 nxt) (K : WS p l e R s m args below meth c G A nL cells slots Q nxt lv (.inl (.int (x ^^^ y)) :: st) S) : WS p l e R s m args below meth c G A nL cells slots Q pc lv (.inl (.int y) :: .inl (.int x) :: st) S := by
  obtain ⟨h1, rfl⟩ := hdg
  exact fun H locs ls hP hD hS hl => lv_ixor X.1 X.2.1 h1 (K H locs ls hP hD hS hl)
theorem ws_ladd (X : CX p s m args meth c G A cc own nL ret) {x y : Int64} (hdg : DC cc pc (.ladd) 1 nxt) (K : WS p l e R s m args below meth c G A nL cells slots Q nxt lv (.inl (.long (x + y)) :: st) S) : WS p l e R s m args below meth c G A nL cells slots Q pc lv (.inl (.long y) :: .inl (.long x) :: st) S := by
  obtain ⟨h1, rfl⟩ := hdg
  exact fun H locs ls hP hD hS hl => lv_ladd X.1 X.2.1 h1 (K H locs ls hP hD hS hl)
theorem ws_lsub (X : CX p s m args meth c G A cc own nL ret) {x y : Int64} (hdg : DC cc pc (.lsub) 1 nxt) (K : WS p l e R s m args below meth c G A nL cells slots Q nxt lv (.inl (.long (x - y)) :: st) S) : WS p l e R s m args below meth c G A nL cells slots Q pc lv (.inl (.long y) :: .inl (.long x) :: st) S := by
  obtain ⟨h1, rfl⟩ := hdg
  exact fun H locs ls hP hD hS hl => lv_lsub X.1 X.2.1 h1 (K H locs ls hP hD hS hl)
theorem ws_lmul (X : CX p s m args meth c G A cc own nL ret) {x y : Int64} (hdg : DC cc pc (.lmul) 1 nxt) (K : WS p l e R s m args below meth c G A nL cells slots Q nxt lv (.inl (.long (x * y)) :: st) S) : WS p l e R s m args below meth c G A nL cells slots Q pc lv (.inl (.long y) :: .inl (.long x) :: st) S := by
  obtain ⟨h1, rfl⟩ := hdg
  exact fun H locs ls hP hD hS hl => lv_lmul X.1 X.2.1 h1 (K H locs ls hP hD hS hl)
theorem ws_land (X : CX p s m args meth c G A cc own nL ret) {x y : Int64} (hdg : DC cc pc (.land) 1 nxt) (K : WS p l e R s m args below meth c G A nL cells slots Q nxt lv (.inl (.long (x &&& y)) :: st) S) : WS p l e R s m args below meth c G A nL cells slots Q pc lv (.inl (.long y) :: .inl (.long x) :: st) S := by
  obtain ⟨h1, rfl⟩ := hdg
  exact fun H locs ls hP hD hS hl => lv_land X.1 X.2.1 h1 (K H locs ls hP hD hS hl)
theorem ws_lor (X : CX p s m args meth c G A cc own nL ret) {x y : Int64} (hdg : DC cc pc (.lor) 1 nxt) (K : WS p l e R s m args below meth c G A nL cells slots Q nxt lv (.inl (.long (x ||| y)) :: st) S) : WS p l e R s m args below meth c G A nL cells slots Q pc lv (.inl (.long y) :: .inl (.long x) :: st) S := by
  obtain ⟨h1, rfl⟩ := hdg
  exact fun H locs ls hP hD hS hl => lv_lor X.1 X.2.1 h1 (K H locs ls hP hD hS hl)
theorem ws_lxor (X : CX p s m args meth c G A cc own nL ret) {x y : Int64} (hdg : DC cc pc (.lxor) 1 nxt) (K : WS p l e R s m args below meth c G A nL cells slots Q nxt lv (.inl (.long (x ^^^ y)) :: st) S) : WS p l e R s m args below meth c G A nL cells slots Q pc lv (.inl (.long y) :: .inl (.long x) :: st) S := by
  obtain ⟨h1, rfl⟩ := hdg
  exact fun H locs ls hP hD hS hl => lv_lxor X.1 X.2.1 h1 (K H locs ls hP hD hS hl)
theorem ws_idiv (X : CX p s m args meth c G A cc own nL ret) {x y : Int32} (hdg : DC cc pc (.idiv) 1 nxt) (hne : ¬ y = 0) (K : WS p l e R s m args below meth c G A nL cells slots Q nxt lv (.inl (.int (x / y)) :: st) S) : WS p l e R s m args below meth c G A nL cells slots Q pc lv (.inl (.int y) :: .inl (.int x) :: st) S := by
  obtain ⟨h1, rfl⟩ := hdg
  exact fun H locs ls hP hD hS hl => lv_idiv X.1 X.2.1 h1 hne (K H locs ls hP hD hS hl)
theorem ws_ldiv (X : CX p s m args meth c G A cc own nL ret) {x y : Int64} (hdg : DC cc pc (.ldiv) 1 nxt) (hne : ¬ y = 0) (K : WS p l e R s m args below meth c G A nL cells slots Q nxt lv (.inl (.long (x / y)) :: st) S) : WS p l e R s m args below meth c G A nL cells slots Q pc lv (.inl (.long y) :: .inl (.long x) :: st) S := by
  obtain ⟨h1, rfl⟩ := hdg
  exact fun H locs ls hP hD hS hl => lv_ldiv X.1 X.2.1 h1 hne (K H locs ls hP hD hS hl)
theorem ws_ineg (X : CX p s m args meth c G A cc own nL ret) {x : Int32} (hdg : DC cc pc (.ineg) 1 nxt) (K : WS p l e R s m args below meth c G A nL cells slots Q nxt lv (.inl (.int (-x)) :: st) S) : WS p l e R s m args below meth c G A nL cells slots Q pc lv (.inl (.int x) :: st) S := by
  obtain ⟨h1, rfl⟩ := hdg
  exact fun H locs ls hP hD hS hl => lv_ineg X.1 X.2.1 h1 (K H locs ls hP hD hS hl)
theorem ws_lneg (X : CX p s m args meth c G A cc own nL ret) {x : Int64} (hdg : DC cc pc (.lneg) 1 nxt) (K : WS p l e R s m args below meth c G A nL cells slots Q nxt lv (.inl (.long (-x)) :: st) S) : WS p l e R s m args below meth c G A nL cells slots Q pc lv (.inl (.long x) :: st) S := by
  obtain ⟨h1, rfl⟩ := hdg
  exact fun H locs ls hP hD hS hl => lv_lneg X.1 X.2.1 h1 (K H locs ls hP hD hS hl)
theorem ws_i2l (X : CX p s m args meth c G A cc own nL ret) {x : Int32} (hdg : DC cc pc (.i2l) 1 nxt) (K : WS p l e R s m args below meth c G A nL cells slots Q nxt lv (.inl (.long x.toInt64) :: st) S) : WS p l e R s m args below meth c G A nL cells slots Q pc lv (.inl (.int x) :: st) S := by
  obtain ⟨h1, rfl⟩ := hdg
  exact fun H locs ls hP hD hS hl => lv_i2l X.1 X.2.1 h1 rfl (K H locs ls hP hD hS hl)
theorem ws_l2i (X : CX p s m args meth c G A cc own nL ret) {x : Int64} (hdg : DC cc pc (.l2i) 1 nxt) (K : WS p l e R s m args below meth c G A nL cells slots Q nxt lv (.inl (.int x.toInt32) :: st) S) : WS p l e R s m args below meth c G A nL cells slots Q pc lv (.inl (.long x) :: st) S := by
  obtain ⟨h1, rfl⟩ := hdg
  exact fun H locs ls hP hD hS hl => lv_l2i X.1 X.2.1 h1 rfl (K H locs ls hP hD hS hl)
def shl32 (x y : Int32) : Int32 := x <<< (y &&& 31)
def shr32 (x y : Int32) : Int32 := x >>> (y &&& 31)
def ushr32 (x y : Int32) : Int32 := (x.toUInt32 >>> (y.toUInt32 &&& Int32.toUInt32 31)).toInt32
def shl64 (x : Int64) (y : Int32) : Int64 := x <<< (y.toInt64 &&& 63)
def shr64 (x : Int64) (y : Int32) : Int64 := x >>> (y.toInt64 &&& 63)
def ushr64 (x : Int64) (y : Int32) : Int64 := (x.toUInt64 >>> (y.toInt64.toUInt64 &&& Int64.toUInt64 63)).toInt64
theorem ws_ishl (X : CX p s m args meth c G A cc own nL ret) {x y : Int32} (hdg : DC cc pc (.ishl) 1 nxt) (K : WS p l e R s m args below meth c G A nL cells slots Q nxt lv (.inl (.int (shl32 x y)) :: st) S) : WS p l e R s m args below meth c G A nL cells slots Q pc lv (.inl (.int y) :: .inl (.int x) :: st) S := by
  obtain ⟨h1, rfl⟩ := hdg
  exact fun H locs ls hP hD hS hl => lv_ishl X.1 X.2.1 h1 (K H locs ls hP hD hS hl)
theorem ws_ishr (X : CX p s m args meth c G A cc own nL ret) {x y : Int32} (hdg : DC cc pc (.ishr) 1 nxt) (K : WS p l e R s m args below meth c G A nL cells slots Q nxt lv (.inl (.int (shr32 x y)) :: st) S) : WS p l e R s m args below meth c G A nL cells slots Q pc lv (.inl (.int y) :: .inl (.int x) :: st) S := by
  obtain ⟨h1, rfl⟩ := hdg
  exact fun H locs ls hP hD hS hl => lv_ishr X.1 X.2.1 h1 (K H locs ls hP hD hS hl)
theorem ws_iushr (X : CX p s m args meth c G A cc own nL ret) {x y : Int32} (hdg : DC cc pc (.iushr) 1 nxt) (K : WS p l e R s m args below meth c G A nL cells slots Q nxt lv (.inl (.int (ushr32 x y)) :: st) S) : WS p l e R s m args below meth c G A nL cells slots Q pc lv (.inl (.int y) :: .inl (.int x) :: st) S := by
  obtain ⟨h1, rfl⟩ := hdg
  exact fun H locs ls hP hD hS hl => lv_iushr X.1 X.2.1 h1 rfl (K H locs ls hP hD hS hl)
theorem ws_lshl (X : CX p s m args meth c G A cc own nL ret) {x : Int64} {y : Int32} (hdg : DC cc pc (.lshl) 1 nxt) (K : WS p l e R s m args below meth c G A nL cells slots Q nxt lv (.inl (.long (shl64 x y)) :: st) S) : WS p l e R s m args below meth c G A nL cells slots Q pc lv (.inl (.int y) :: .inl (.long x) :: st) S := by
  obtain ⟨h1, rfl⟩ := hdg
  exact fun H locs ls hP hD hS hl => lv_lshl X.1 X.2.1 h1 rfl (K H locs ls hP hD hS hl)
theorem ws_lshr (X : CX p s m args meth c G A cc own nL ret) {x : Int64} {y : Int32} (hdg : DC cc pc (.lshr) 1 nxt) (K : WS p l e R s m args below meth c G A nL cells slots Q nxt lv (.inl (.long (shr64 x y)) :: st) S) : WS p l e R s m args below meth c G A nL cells slots Q pc lv (.inl (.int y) :: .inl (.long x) :: st) S := by
  obtain ⟨h1, rfl⟩ := hdg
  exact fun H locs ls hP hD hS hl => lv_lshr X.1 X.2.1 h1 rfl (K H locs ls hP hD hS hl)
theorem ws_lushr (X : CX p s m args meth c G A cc own nL ret) {x : Int64} {y : Int32} (hdg : DC cc pc (.lushr) 1 nxt) (K : WS p l e R s m args below meth c G A nL cells slots Q nxt lv (.inl (.long (ushr64 x y)) :: st) S) : WS p l e R s m args below meth c G A nL cells slots Q pc lv (.inl (.int y) :: .inl (.long x) :: st) S := by
  obtain ⟨h1, rfl⟩ := hdg
  exact fun H locs ls hP hD hS hl => lv_lushr X.1 X.2.1 h1 rfl (K H locs ls hP hD hS hl)
theorem ws_lcmp (X : CX p s m args meth c G A cc own nL ret) {x y : Int64} (hdg : DC cc pc (.lcmp) 1 nxt) (K : WS p l e R s m args below meth c G A nL cells slots Q nxt lv (.inl (.int (lg_cmp x y)) :: st) S) : WS p l e R s m args below meth c G A nL cells slots Q pc lv (.inl (.long y) :: .inl (.long x) :: st) S := by
  obtain ⟨h1, rfl⟩ := hdg
  exact fun H locs ls hP hD hS hl => W.lcmp X.1 X.2.1 h1 (K H locs ls hP hD hS hl)
theorem ws_dadd (X : CX p s m args meth c G A cc own nL ret) {x y : UInt64} (hdg : DC cc pc (.dadd) 1 nxt) (hne : vf_n64 (FP.dadd x y)) (K : WS p l e R s m args below meth c G A nL cells slots Q nxt lv (.inl (.double (FP.dadd x y)) :: st) S) : WS p l e R s m args below meth c G A nL cells slots Q pc lv (.inl (.double y) :: .inl (.double x) :: st) S := by
  obtain ⟨h1, rfl⟩ := hdg
  exact fun H locs ls hP hD hS hl => lv_dadd X.1 X.2.1 h1 hne (K H locs ls hP hD hS hl)
theorem ws_dsub (X : CX p s m args meth c G A cc own nL ret) {x y : UInt64} (hdg : DC cc pc (.dsub) 1 nxt) (hne : vf_n64 (FP.dsub x y)) (K : WS p l e R s m args below meth c G A nL cells slots Q nxt lv (.inl (.double (FP.dsub x y)) :: st) S) : WS p l e R s m args below meth c G A nL cells slots Q pc lv (.inl (.double y) :: .inl (.double x) :: st) S := by
  obtain ⟨h1, rfl⟩ := hdg
  exact fun H locs ls hP hD hS hl => lv_dsub X.1 X.2.1 h1 hne (K H locs ls hP hD hS hl)
theorem ws_dmul (X : CX p s m args meth c G A cc own nL ret) {x y : UInt64} (hdg : DC cc pc (.dmul) 1 nxt) (hne : vf_n64 (FP.dmul x y)) (K : WS p l e R s m args below meth c G A nL cells slots Q nxt lv (.inl (.double (FP.dmul x y)) :: st) S) : WS p l e R s m args below meth c G A nL cells slots Q pc lv (.inl (.double y) :: .inl (.double x) :: st) S := by
  obtain ⟨h1, rfl⟩ := hdg
  exact fun H locs ls hP hD hS hl => lv_dmul X.1 X.2.1 h1 hne (K H locs ls hP hD hS hl)
theorem ws_ddiv (X : CX p s m args meth c G A cc own nL ret) {x y : UInt64} (hdg : DC cc pc (.ddiv) 1 nxt) (hne : vf_n64 (FP.ddiv x y)) (K : WS p l e R s m args below meth c G A nL cells slots Q nxt lv (.inl (.double (FP.ddiv x y)) :: st) S) : WS p l e R s m args below meth c G A nL cells slots Q pc lv (.inl (.double y) :: .inl (.double x) :: st) S := by
  obtain ⟨h1, rfl⟩ := hdg
  exact fun H locs ls hP hD hS hl => lv_ddiv X.1 X.2.1 h1 hne (K H locs ls hP hD hS hl)
theorem ws_dcmp (X : CX p s m args meth c G A cc own nL ret) {x y : UInt64} {op : CmpOp} (hdg : DC cc pc (.dcmp op) 1 nxt) (K : WS p l e R s m args below meth c G A nL cells slots Q nxt lv (.inl (.int (Op.cmpValue (FP.dcmp x y) op)) :: st) S) : WS p l e R s m args below meth c G A nL cells slots Q pc lv (.inl (.double y) :: .inl (.double x) :: st) S := by
  obtain ⟨h1, rfl⟩ := hdg
  exact fun H locs ls hP hD hS hl => lv_dcmp X.1 X.2.1 h1 (K H locs ls hP hD hS hl)
theorem ws_i2d (X : CX p s m args meth c G A cc own nL ret) {x : Int32} (hdg : DC cc pc (.i2d) 1 nxt) (K : WS p l e R s m args below meth c G A nL cells slots Q nxt lv (.inl (.double (FP.i2d x)) :: st) S) : WS p l e R s m args below meth c G A nL cells slots Q pc lv (.inl (.int x) :: st) S := by
  obtain ⟨h1, rfl⟩ := hdg
  exact fun H locs ls hP hD hS hl => lv_i2d X.1 X.2.1 h1 (K H locs ls hP hD hS hl)
theorem ws_l2d (X : CX p s m args meth c G A cc own nL ret) {x : Int64} (hdg : DC cc pc (.l2d) 1 nxt) (K : WS p l e R s m args below meth c G A nL cells slots Q nxt lv (.inl (.double (FP.l2d x)) :: st) S) : WS p l e R s m args below meth c G A nL cells slots Q pc lv (.inl (.long x) :: st) S := by
  obtain ⟨h1, rfl⟩ := hdg
  exact fun H locs ls hP hD hS hl => lv_l2d X.1 X.2.1 h1 (K H locs ls hP hD hS hl)
theorem ws_d2i (X : CX p s m args meth c G A cc own nL ret) {x : UInt64} (hdg : DC cc pc (.d2i) 1 nxt) (K : WS p l e R s m args below meth c G A nL cells slots Q nxt lv (.inl (.int (FP.d2i x)) :: st) S) : WS p l e R s m args below meth c G A nL cells slots Q pc lv (.inl (.double x) :: st) S := by
  obtain ⟨h1, rfl⟩ := hdg
  exact fun H locs ls hP hD hS hl => lv_d2i X.1 X.2.1 h1 (K H locs ls hP hD hS hl)
theorem ws_d2l (X : CX p s m args meth c G A cc own nL ret) {x : UInt64} (hdg : DC cc pc (.d2l) 1 nxt) (K : WS p l e R s m args below meth c G A nL cells slots Q nxt lv (.inl (.long (FP.d2l x)) :: st) S) : WS p l e R s m args below meth c G A nL cells slots Q pc lv (.inl (.double x) :: st) S := by
  obtain ⟨h1, rfl⟩ := hdg
  exact fun H locs ls hP hD hS hl => lv_d2l X.1 X.2.1 h1 (K H locs ls hP hD hS hl)
theorem ws_dup (X : CX p s m args meth c G A cc own nL ret) {v : MV} (hdg : DC cc pc (.dup) 1 nxt) (hc : mcat v = 1) (K : WS p l e R s m args below meth c G A nL cells slots Q nxt lv (v :: v :: st) S) : WS p l e R s m args below meth c G A nL cells slots Q pc lv (v :: st) S := by
  obtain ⟨h1, rfl⟩ := hdg
  exact fun H locs ls hP hD hS hl => lv_dup X.1 X.2.1 h1 ((tr_cat G v).trans hc) (K H locs ls hP hD hS hl)
theorem ws_pop (X : CX p s m args meth c G A cc own nL ret) {v : MV} (hdg : DC cc pc (.pop) 1 nxt) (hc : mcat v = 1) (K : WS p l e R s m args below meth c G A nL cells slots Q nxt lv (st) S) : WS p l e R s m args below meth c G A nL cells slots Q pc lv (v :: st) S := by
  obtain ⟨h1, rfl⟩ := hdg
  exact fun H locs ls hP hD hS hl => lv_pop X.1 X.2.1 h1 ((tr_cat G v).trans hc) (K H locs ls hP hD hS hl)
theorem ws_dup2_11 (X : CX p s m args meth c G A cc own nL ret) {v u : MV} (hdg : DC cc pc (.dup2) 1 nxt) (hc : mcat v = 1) (hc2 : mcat u = 1) (K : WS p l e R s m args below meth c G A nL cells slots Q nxt lv (v :: u :: v :: u :: st) S) : WS p l e R s m args below meth c G A nL cells slots Q pc lv (v :: u :: st) S := by
  obtain ⟨h1, rfl⟩ := hdg
  exact fun H locs ls hP hD hS hl => lv_dup2_11 X.1 X.2.1 h1 ((tr_cat G v).trans hc) ((tr_cat G u).trans hc2) (K H locs ls hP hD hS hl)
theorem ws_dup2_2 (X : CX p s m args meth c G A cc own nL ret) {v : MV} (hdg : DC cc pc (.dup2) 1 nxt) (hc : mcat v = 2) (K : WS p l e R s m args below meth c G A nL cells slots Q nxt lv (v :: v :: st) S) : WS p l e R s m args below meth c G A nL cells slots Q pc lv (v :: st) S := by
  obtain ⟨h1, rfl⟩ := hdg
  exact fun H locs ls hP hD hS hl => lv_dup2_2 X.1 X.2.1 h1 ((tr_cat G v).trans hc) (K H locs ls hP hD hS hl)
theorem ws_pop2_2 (X : CX p s m args meth c G A cc own nL ret) {v : MV} (hdg : DC cc pc (.pop2) 1 nxt) (hc : mcat v = 2) (K : WS p l e R s m args below meth c G A nL cells slots Q nxt lv (st) S) : WS p l e R s m args below meth c G A nL cells slots Q pc lv (v :: st) S := by
  obtain ⟨h1, rfl⟩ := hdg
  exact fun H locs ls hP hD hS hl => lv_pop2_2 X.1 X.2.1 h1 ((tr_cat G v).trans hc) (K H locs ls hP hD hS hl)
theorem ws_if_eq (X : CX p s m args meth c G A cc own nL ret) {x : Int32} (hdg : DB cc pc (.ifCond .eq off) off nxt tgt) (Kt : x = 0 → WS p l e R s m args below meth c G A nL cells slots Q tgt lv st S) (Kf : ¬ (x = 0) → WS p l e R s m args below meth c G A nL cells slots Q nxt lv st S) : WS p l e R s m args below meth c G A nL cells slots Q pc lv (.inl (.int x) :: st) S := by
  obtain ⟨h1, rfl, h3⟩ := hdg
  exact fun H locs ls hP hD hS hl => lv_if_eq X.1 X.2.1 h1 h3 (fun h => Kt h H locs ls hP hD hS hl) (fun h => Kf h H locs ls hP hD hS hl)
theorem ws_icmp_eq (X : CX p s m args meth c G A cc own nL ret) {x y : Int32} (hdg : DB cc pc (.if_icmp .eq off) off nxt tgt) (Kt : x = y → WS p l e R s m args below meth c G A nL cells slots Q tgt lv st S) (Kf : ¬ (x = y) → WS p l e R s m args below meth c G A nL cells slots Q nxt lv st S) : WS p l e R s m args below meth c G A nL cells slots Q pc lv (.inl (.int y) :: .inl (.int x) :: st) S := by
  obtain ⟨h1, rfl, h3⟩ := hdg
  exact fun H locs ls hP hD hS hl => lv_icmp_eq X.1 X.2.1 h1 h3 (fun h => Kt h H locs ls hP hD hS hl) (fun h => Kf h H locs ls hP hD hS hl)
theorem ws_if_ne (X : CX p s m args meth c G A cc own nL ret) {x : Int32} (hdg : DB cc pc (.ifCond .ne off) off nxt tgt) (Kt : ¬ x = 0 → WS p l e R s m args below meth c G A nL cells slots Q tgt lv st S) (Kf : x = 0 → WS p l e R s m args below meth c G A nL cells slots Q nxt lv st S) : WS p l e R s m args below meth c G A nL cells slots Q pc lv (.inl (.int x) :: st) S := by
  obtain ⟨h1, rfl, h3⟩ := hdg
  exact fun H locs ls hP hD hS hl => lv_if_ne X.1 X.2.1 h1 h3 (fun h => Kt h H locs ls hP hD hS hl) (fun h => Kf h H locs ls hP hD hS hl)
theorem ws_icmp_ne (X : CX p s m args meth c G A cc own nL ret) {x y : Int32} (hdg : DB cc pc (.if_icmp .ne off) off nxt tgt) (Kt : ¬ x = y → WS p l e R s m args below meth c G A nL cells slots Q tgt lv st S) (Kf : x = y → WS p l e R s m args below meth c G A nL cells slots Q nxt lv st S) : WS p l e R s m args below meth c G A nL cells slots Q pc lv (.inl (.int y) :: .inl (.int x) :: st) S := by
  obtain ⟨h1, rfl, h3⟩ := hdg
  exact fun H locs ls hP hD hS hl => lv_icmp_ne X.1 X.2.1 h1 h3 (fun h => Kt h H locs ls hP hD hS hl) (fun h => Kf h H locs ls hP hD hS hl)
theorem ws_if_lt (X : CX p s m args meth c G A cc own nL ret) {x : Int32} (hdg : DB cc pc (.ifCond .lt off) off nxt tgt) (Kt : x < 0 → WS p l e R s m args below meth c G A nL cells slots Q tgt lv st S) (Kf : ¬ (x < 0) → WS p l e R s m args below meth c G A nL cells slots Q nxt lv st S) : WS p l e R s m args below meth c G A nL cells slots Q pc lv (.inl (.int x) :: st) S := by
  obtain ⟨h1, rfl, h3⟩ := hdg
  exact fun H locs ls hP hD hS hl => lv_if_lt X.1 X.2.1 h1 h3 (fun h => Kt h H locs ls hP hD hS hl) (fun h => Kf h H locs ls hP hD hS hl)
theorem ws_icmp_lt (X : CX p s m args meth c G A cc own nL ret) {x y : Int32} (hdg : DB cc pc (.if_icmp .lt off) off nxt tgt) (Kt : x < y → WS p l e R s m args below meth c G A nL cells slots Q tgt lv st S) (Kf : ¬ (x < y) → WS p l e R s m args below meth c G A nL cells slots Q nxt lv st S) : WS p l e R s m args below meth c G A nL cells slots Q pc lv (.inl (.int y) :: .inl (.int x) :: st) S := by
  obtain ⟨h1, rfl, h3⟩ := hdg
  exact fun H locs ls hP hD hS hl => lv_icmp_lt X.1 X.2.1 h1 h3 (fun h => Kt h H locs ls hP hD hS hl) (fun h => Kf h H locs ls hP hD hS hl)
theorem ws_if_ge (X : CX p s m args meth c G A cc own nL ret) {x : Int32} (hdg : DB cc pc (.ifCond .ge off) off nxt tgt) (Kt : 0 ≤ x → WS p l e R s m args below meth c G A nL cells slots Q tgt lv st S) (Kf : ¬ (0 ≤ x) → WS p l e R s m args below meth c G A nL cells slots Q nxt lv st S) : WS p l e R s m args below meth c G A nL cells slots Q pc lv (.inl (.int x) :: st) S := by
  obtain ⟨h1, rfl, h3⟩ := hdg
  exact fun H locs ls hP hD hS hl => lv_if_ge X.1 X.2.1 h1 h3 (fun h => Kt h H locs ls hP hD hS hl) (fun h => Kf h H locs ls hP hD hS hl)
theorem ws_icmp_ge (X : CX p s m args meth c G A cc own nL ret) {x y : Int32} (hdg : DB cc pc (.if_icmp .ge off) off nxt tgt) (Kt : y ≤ x → WS p l e R s m args below meth c G A nL cells slots Q tgt lv st S) (Kf : ¬ (y ≤ x) → WS p l e R s m args below meth c G A nL cells slots Q nxt lv st S) : WS p l e R s m args below meth c G A nL cells slots Q pc lv (.inl (.int y) :: .inl (.int x) :: st) S := by
  obtain ⟨h1, rfl, h3⟩ := hdg
  exact fun H locs ls hP hD hS hl => lv_icmp_ge X.1 X.2.1 h1 h3 (fun h => Kt h H locs ls hP hD hS hl) (fun h => Kf h H locs ls hP hD hS hl)
theorem ws_if_gt (X : CX p s m args meth c G A cc own nL ret) {x : Int32} (hdg : DB cc pc (.ifCond .gt off) off nxt tgt) (Kt : 0 < x → WS p l e R s m args below meth c G A nL cells slots Q tgt lv st S) (Kf : ¬ (0 < x) → WS p l e R s m args below meth c G A nL cells slots Q nxt lv st S) : WS p l e R s m args below meth c G A nL cells slots Q pc lv (.inl (.int x) :: st) S := by
  obtain ⟨h1, rfl, h3⟩ := hdg
  exact fun H locs ls hP hD hS hl => lv_if_gt X.1 X.2.1 h1 h3 (fun h => Kt h H locs ls hP hD hS hl) (fun h => Kf h H locs ls hP hD hS hl)
theorem ws_icmp_gt (X : CX p s m args meth c G A cc own nL ret) {x y : Int32} (hdg : DB cc pc (.if_icmp .gt off) off nxt tgt) (Kt : y < x → WS p l e R s m args below meth c G A nL cells slots Q tgt lv st S) (Kf : ¬ (y < x) → WS p l e R s m args below meth c G A nL cells slots Q nxt lv st S) : WS p l e R s m args below meth c G A nL cells slots Q pc lv (.inl (.int y) :: .inl (.int x) :: st) S := by
  obtain ⟨h1, rfl, h3⟩ := hdg
  exact fun H locs ls hP hD hS hl => lv_icmp_gt X.1 X.2.1 h1 h3 (fun h => Kt h H locs ls hP hD hS hl) (fun h => Kf h H locs ls hP hD hS hl)
theorem ws_if_le (X : CX p s m args meth c G A cc own nL ret) {x : Int32} (hdg : DB cc pc (.ifCond .le off) off nxt tgt) (Kt : x ≤ 0 → WS p l e R s m args below meth c G A nL cells slots Q tgt lv st S) (Kf : ¬ (x ≤ 0) → WS p l e R s m args below meth c G A nL cells slots Q nxt lv st S) : WS p l e R s m args below meth c G A nL cells slots Q pc lv (.inl (.int x) :: st) S := by
  obtain ⟨h1, rfl, h3⟩ := hdg
  exact fun H locs ls hP hD hS hl => lv_if_le X.1 X.2.1 h1 h3 (fun h => Kt h H locs ls hP hD hS hl) (fun h => Kf h H locs ls hP hD hS hl)
theorem ws_icmp_le (X : CX p s m args meth c G A cc own nL ret) {x y : Int32} (hdg : DB cc pc (.if_icmp .le off) off nxt tgt) (Kt : x ≤ y → WS p l e R s m args below meth c G A nL cells slots Q tgt lv st S) (Kf : ¬ (x ≤ y) → WS p l e R s m args below meth c G A nL cells slots Q nxt lv st S) : WS p l e R s m args below meth c G A nL cells slots Q pc lv (.inl (.int y) :: .inl (.int x) :: st) S := by
  obtain ⟨h1, rfl, h3⟩ := hdg
  exact fun H locs ls hP hD hS hl => lv_icmp_le X.1 X.2.1 h1 h3 (fun h => Kt h H locs ls hP hD hS hl) (fun h => Kf h H locs ls hP hD hS hl)
theorem ws_goto (X : CX p s m args meth c G A cc own nL ret) (hdg : DB cc pc (.goto off) off nxt tgt) (K : WS p l e R s m args below meth c G A nL cells slots Q tgt lv st S) : WS p l e R s m args below meth c G A nL cells slots Q pc lv st S := by
  obtain ⟨h1, rfl, h3⟩ := hdg
  exact fun H locs ls hP hD hS hl => lv_goto X.1 X.2.1 h1 h3 (K H locs ls hP hD hS hl)
theorem ws_ifnull_r (X : CX p s m args meth c G A cc own nL ret) {x : Nat × Nat} (hdg : DB cc pc (.ifnull off) off nxt tgt) (K : WS p l e R s m args below meth c G A nL cells slots Q nxt lv st S) : WS p l e R s m args below meth c G A nL cells slots Q pc lv (.inr x :: st) S := by
  obtain ⟨h1, rfl, h3⟩ := hdg
  exact fun H locs ls hP hD hS hl => lv_ifnull X.1 X.2.1 h1 (K H locs ls hP hD hS hl)
theorem ws_ifnull_n (X : CX p s m args meth c G A cc own nL ret) (hdg : DB cc pc (.ifnull off) off nxt tgt) (K : WS p l e R s m args below meth c G A nL cells slots Q tgt lv st S) : WS p l e R s m args below meth c G A nL cells slots Q pc lv (.inl .null :: st) S := by
  obtain ⟨h1, rfl, h3⟩ := hdg
  exact fun H locs ls hP hD hS hl => lv_ifnullN X.1 X.2.1 h1 h3 (K H locs ls hP hD hS hl)
theorem ws_ifnonnull_r (X : CX p s m args meth c G A cc own nL ret) {x : Nat × Nat} (hdg : DB cc pc (.ifnonnull off) off nxt tgt) (K : WS p l e R s m args below meth c G A nL cells slots Q tgt lv st S) : WS p l e R s m args below meth c G A nL cells slots Q pc lv (.inr x :: st) S := by
  obtain ⟨h1, rfl, h3⟩ := hdg
  exact fun H locs ls hP hD hS hl => lv_ifnonnull X.1 X.2.1 h1 h3 (K H locs ls hP hD hS hl)
theorem ws_ifnonnull_n (X : CX p s m args meth c G A cc own nL ret) (hdg : DB cc pc (.ifnonnull off) off nxt tgt) (K : WS p l e R s m args below meth c G A nL cells slots Q nxt lv st S) : WS p l e R s m args below meth c G A nL cells slots Q pc lv (.inl .null :: st) S := by
  obtain ⟨h1, rfl, h3⟩ := hdg
  exact fun H locs ls hP hD hS hl => lv_ifnonnullN X.1 X.2.1 h1 (K H locs ls hP hD hS hl)
theorem lgc_lt (x y : Int64) : lg_cmp x y < 0 ↔ x < y := by
  unfold lg_cmp
  by_cases h1 : y < x
  · have : ¬ x < y := fun h => absurd (Int64.lt_trans h h1) (Int64.lt_irrefl)
    simp [h1, this]
  · by_cases h2 : x = y
    · subst h2; simp
    · have : x < y := by
        rcases Int64.lt_or_le x y with h | h
        · exact h
        · rcases Int64.lt_or_eq_of_le h with h3 | h3
          · exact absurd h3 h1
          · exact absurd h3.symm h2
      simp [h1, this, h2]
theorem lgc_eq (x y : Int64) : lg_cmp x y = 0 ↔ x = y := by
  unfold lg_cmp
  by_cases h1 : y < x
  · have : ¬ x = y := fun h => absurd (h ▸ h1) (Int64.lt_irrefl)
    simp [h1, this]
  · by_cases h2 : x = y
    · subst h2; simp
    · simp [h1, h2]
theorem lgc_gt (x y : Int64) : 0 < lg_cmp x y ↔ y < x := by
  unfold lg_cmp
  by_cases h1 : y < x
  · simp [h1]
  · by_cases h2 : x = y
    · subst h2; simp
    · simp [h1, h2]
theorem lgc_le (x y : Int64) : lg_cmp x y ≤ 0 ↔ x ≤ y := by
  rw [← Int32.not_lt, lgc_gt, Int64.not_lt]
theorem lgc_ge (x y : Int64) : 0 ≤ lg_cmp x y ↔ y ≤ x := by
  rw [← Int32.not_lt, lgc_lt, Int64.not_lt]
theorem ws_lcmp_eq (X : CX p s m args meth c G A cc own nL ret) {x y : Int64} {mid : Nat} (hd0 : DC cc pc .lcmp 1 mid) (hdg : DB cc mid (.ifCond .eq off) off nxt tgt) (Kt : x = y → WS p l e R s m args below meth c G A nL cells slots Q tgt lv st S) (Kf : ¬ (x = y) → WS p l e R s m args below meth c G A nL cells slots Q nxt lv st S) : WS p l e R s m args below meth c G A nL cells slots Q pc lv (.inl (.long y) :: .inl (.long x) :: st) S := by
  exact ws_lcmp X hd0 (ws_if_eq X hdg (fun h => Kt ((lgc_eq x y).mp h)) (fun h => Kf (fun z => h ((lgc_eq x y).mpr z))))
theorem ws_lcmp_ne (X : CX p s m args meth c G A cc own nL ret) {x y : Int64} {mid : Nat} (hd0 : DC cc pc .lcmp 1 mid) (hdg : DB cc mid (.ifCond .ne off) off nxt tgt) (Kt : ¬ x = y → WS p l e R s m args below meth c G A nL cells slots Q tgt lv st S) (Kf : x = y → WS p l e R s m args below meth c G A nL cells slots Q nxt lv st S) : WS p l e R s m args below meth c G A nL cells slots Q pc lv (.inl (.long y) :: .inl (.long x) :: st) S := by
  exact ws_lcmp X hd0 (ws_if_ne X hdg (fun h => Kt (fun z => h ((lgc_eq x y).mpr z))) (fun h => Kf ((lgc_eq x y).mp h)))
theorem ws_lcmp_lt (X : CX p s m args meth c G A cc own nL ret) {x y : Int64} {mid : Nat} (hd0 : DC cc pc .lcmp 1 mid) (hdg : DB cc mid (.ifCond .lt off) off nxt tgt) (Kt : x < y → WS p l e R s m args below meth c G A nL cells slots Q tgt lv st S) (Kf : ¬ (x < y) → WS p l e R s m args below meth c G A nL cells slots Q nxt lv st S) : WS p l e R s m args below meth c G A nL cells slots Q pc lv (.inl (.long y) :: .inl (.long x) :: st) S := by
  exact ws_lcmp X hd0 (ws_if_lt X hdg (fun h => Kt ((lgc_lt x y).mp h)) (fun h => Kf (fun z => h ((lgc_lt x y).mpr z))))
theorem ws_lcmp_ge (X : CX p s m args meth c G A cc own nL ret) {x y : Int64} {mid : Nat} (hd0 : DC cc pc .lcmp 1 mid) (hdg : DB cc mid (.ifCond .ge off) off nxt tgt) (Kt : y ≤ x → WS p l e R s m args below meth c G A nL cells slots Q tgt lv st S) (Kf : ¬ (y ≤ x) → WS p l e R s m args below meth c G A nL cells slots Q nxt lv st S) : WS p l e R s m args below meth c G A nL cells slots Q pc lv (.inl (.long y) :: .inl (.long x) :: st) S := by
  exact ws_lcmp X hd0 (ws_if_ge X hdg (fun h => Kt ((lgc_ge x y).mp h)) (fun h => Kf (fun z => h ((lgc_ge x y).mpr z))))
theorem ws_lcmp_gt (X : CX p s m args meth c G A cc own nL ret) {x y : Int64} {mid : Nat} (hd0 : DC cc pc .lcmp 1 mid) (hdg : DB cc mid (.ifCond .gt off) off nxt tgt) (Kt : y < x → WS p l e R s m args below meth c G A nL cells slots Q tgt lv st S) (Kf : ¬ (y < x) → WS p l e R s m args below meth c G A nL cells slots Q nxt lv st S) : WS p l e R s m args below meth c G A nL cells slots Q pc lv (.inl (.long y) :: .inl (.long x) :: st) S := by
  exact ws_lcmp X hd0 (ws_if_gt X hdg (fun h => Kt ((lgc_gt x y).mp h)) (fun h => Kf (fun z => h ((lgc_gt x y).mpr z))))
theorem ws_lcmp_le (X : CX p s m args meth c G A cc own nL ret) {x y : Int64} {mid : Nat} (hd0 : DC cc pc .lcmp 1 mid) (hdg : DB cc mid (.ifCond .le off) off nxt tgt) (Kt : x ≤ y → WS p l e R s m args below meth c G A nL cells slots Q tgt lv st S) (Kf : ¬ (x ≤ y) → WS p l e R s m args below meth c G A nL cells slots Q nxt lv st S) : WS p l e R s m args below meth c G A nL cells slots Q pc lv (.inl (.long y) :: .inl (.long x) :: st) S := by
  exact ws_lcmp X hd0 (ws_if_le X hdg (fun h => Kt ((lgc_le x y).mp h)) (fun h => Kf (fun z => h ((lgc_le x y).mpr z))))
end WSR
