/-! the constructors of Program and of the face -/
section WCP
variable {p : Program} {l : Launch} {e : Env} {R : Room} {s : State} {m : MethodId} {args : Array Value} {below : List Frame} {meth : Method} {c : Code} {D : va_G} {A : Nat → Prop} {cells slots : Nat} {Q : State → Prop} {cc : ByteArray} {own : String} {nL : Nat}
variable {pc nxt tgt : Nat} {lv : List (Nat × Value)} {st : List Value} {ws : va_W} {tys : TY} {x : Nat × va_E} {rest : va_W} {off : Int} {idx : Nat}
theorem wc_istore_n (X : CNw p s m args c A cc own nL) {i : Nat} {k : Fin 4} {z : Int32} {lv' : List (Nat × Value)} (hdg : DC cc pc (.istore_n k) 1 nxt) (hi : (k : Nat) = i) (hn : i < nL) (hlv : (i, Value.int z) :: lv.filter (fun q => !(q.1 == i) && !(q.1 + 1 == i && q.2.category == 2)) = lv') (K : WC p l e R s m args below meth c D A nL cells slots Q nxt lv' st ws tys) : WC p l e R s m args below meth c D A nL cells slots Q pc lv (.int z :: st) ws tys := by
  obtain ⟨h1, rfl⟩ := hdg
  exact fun H locs ls hK hP hD hS hl => lv_istore_n X.1 X.2.1 h1 hi hl hn hlv (fun ls2 hl2 => K H locs ls2 hK hP hD hS hl2)
theorem wc_iinc (X : CNw p s m args c A cc own nL) {i j : Nat} {n : Int} {z v : Int32} {lv' : List (Nat × Value)} (hdg : DC cc pc (.iinc i n) 3 nxt) (hl0 : lv[j]? = some (i, .int z)) (hv : z + Int32.ofInt n = v) (hn : i < nL) (hlv : (i, Value.int v) :: lv.filter (fun q => !(q.1 == i) && !(q.1 + 1 == i && q.2.category == 2)) = lv') (K : WC p l e R s m args below meth c D A nL cells slots Q nxt lv' st ws tys) : WC p l e R s m args below meth c D A nL cells slots Q pc lv st ws tys := by
  obtain ⟨h1, rfl⟩ := hdg
  exact fun H locs ls hK hP hD hS hl => lv_iinc X.1 X.2.1 h1 hl hl0 hv hn hlv (fun ls2 hl2 => K H locs ls2 hK hP hD hS hl2)
theorem wc_icmp_ge (X : CNw p s m args c A cc own nL) {z y : Int32} (hdg : DB cc pc (.if_icmp .ge off) off nxt tgt) (Kt : y ≤ z → WC p l e R s m args below meth c D A nL cells slots Q tgt lv st ws tys) (Kf : ¬ (y ≤ z) → WC p l e R s m args below meth c D A nL cells slots Q nxt lv st ws tys) : WC p l e R s m args below meth c D A nL cells slots Q pc lv (.int y :: .int z :: st) ws tys := by
  obtain ⟨h1, rfl, h3⟩ := hdg
  exact fun H locs ls hK hP hD hS hl => lv_icmp_ge X.1 X.2.1 h1 h3 (fun h => Kt h H locs ls hK hP hD hS hl) (fun h => Kf h H locs ls hK hP hD hS hl)
theorem wc_goto (X : CNw p s m args c A cc own nL) (hdg : DB cc pc (.goto off) off nxt tgt) (K : WC p l e R s m args below meth c D A nL cells slots Q tgt lv st ws tys) : WC p l e R s m args below meth c D A nL cells slots Q pc lv st ws tys := by
  obtain ⟨h1, rfl, h3⟩ := hdg
  exact fun H locs ls hK hP hD hS hl => lv_goto X.1 X.2.1 h1 h3 (K H locs ls hK hP hD hS hl)
theorem wc_aast (X : CNw p s m args c A cc own nL) {i : Int32} {n v a q0 t0 qk ci : Nat} {cA : ClassId} {r : vw_C} {vs : List Value} {f : Nat → Option Nat} (ha : ws[q0]? = some (a, .inl (cA, n, .inr (.inr (.inr (.inr f)))))) (ht : tys[t0]? = some (cA, .object r.1)) (hv : ws[qk]? = some (v, .inr (ci, vs))) (hc : clsL[ci]? = some r) (hin : vp_in i n) (hdg : DC cc pc .aastore 1 nxt)
    (K : WC p l e R s m args below meth c D A nL cells slots Q nxt lv st (ws.set q0 (a, .inl (cA, n, .inr (.inr (.inr (.inr (va_up f i.toNatClampNeg (some v)))))))) tys) : WC p l e R s m args below meth c D A nL cells slots Q pc lv (.ref v :: .int i :: .ref a :: st) ws tys := by
  obtain ⟨h1, rfl⟩ := hdg
  intro H locs ls hK hP hD hS hl
  exact va_astq X.1 X.2.1 hK hP hD hS q0 t0 qk ci ha ht hv hc hin h1 (fun H1 locs1 hP1 hD1 hS1 => K H1 locs1 ls hK hP1 hD1 hS1 hl)
theorem rows_cell {cA : ClassId} {n : Nat} {f f' : Nat → Option Nat} (h : ∀ j, j < n → f j = f' j) : vp_cell cA (n, .inr (.inr (.inr (.inr f)))) = vp_cell cA (n, .inr (.inr (.inr (.inr f')))) := by
  rw [vp_cell_q, vp_cell_q]
  unfold arrV
  have e : (fun j : Fin n => va_rf (f j.val)) = (fun j : Fin n => va_rf (f' j.val)) := funext (fun j => by rw [h j.1 j.2])
  rw [e]
theorem wc_rows {c0 c1 c2 c3 c4 : Nat × va_E} {qr n : Nat} {cA : ClassId} {f f' : Nat → Option Nat} (h : ∀ j, j < n → f j = f' j) (K : WC p l e R s m args below meth c D A nL cells slots Q pc lv st (c0 :: c1 :: c2 :: c3 :: c4 :: (qr, .inl (cA, n, .inr (.inr (.inr (.inr f'))))) :: rest) tys) : WC p l e R s m args below meth c D A nL cells slots Q pc lv st (c0 :: c1 :: c2 :: c3 :: c4 :: (qr, .inl (cA, n, .inr (.inr (.inr (.inr f))))) :: rest) tys := by
  intro H locs ls hK hP hD hS hl
  refine K H locs ls hK ?_ (va_D.set (p := 5) (e := .inl (cA, n, .inr (.inr (.inr (.inr f'))))) hD rfl) hS hl
  intro k q hk
  match k, hk with
  | 0, hk => exact hP 0 q hk
  | 1, hk => exact hP 1 q hk
  | 2, hk => exact hP 2 q hk
  | 3, hk => exact hP 3 q hk
  | 4, hk => exact hP 4 q hk
  | 5, hk =>
    cases hk
    have h5 : H[qr]? = some (vp_cell cA (n, .inr (.inr (.inr (.inr f))))) := hP 5 _ rfl
    show H[qr]? = some (vp_cell cA (n, .inr (.inr (.inr (.inr f')))))
    rw [← rows_cell h]; exact h5
  | k + 6, hk => exact hP (k + 6) q hk
def mC (q : Nat) (a : Nat → Nat) (b : Nat → ClassId) : va_W := [(q, .inr (4, [.int 0, .int 0, .int 0, .int 0, .int 0, .int 0, .int 0, .int 0, .int 0, .ref (a 0), .ref (a 1), .ref (a 2), .ref (a 3)])), (a 0, .inl (b 0, 48, .inl (fun _ => 0))), (a 1, .inl (b 1, 8, .inl (fun _ => 0))), (a 2, .inl (b 2, 8, .inl (fun _ => 0))), (a 3, .inl (b 3, 48, .inl (fun _ => 0)))]
def mT (b : Nat → ClassId) : TY := [(b 0, .int), (b 1, .int), (b 2, .int), (b 3, .int)]
set_option maxHeartbeats 4000000 in
set_option maxRecDepth 20000 in
theorem prog_it (X : CNw p s m args c A c_Prog_init "InstrumentFiles$Program" 2) {h0 qp qr : Nat} {c1 c2 c3 c4 : Nat × va_E} {t1 t2 t3 : ClassId × FieldType} {cR : ClassId} {tyR : TY} {i v : Int32} {f : Nat → Option Nat} (hi : vp_in i 5) (hi5 : ¬ (5 : Int32) ≤ i) (hv : i + 1 = v) (hR : 2 ≤ R.frames ∧ 32 ≤ R.locals) (hf : cells + 5 ≤ R.cells ∧ slots + 125 ≤ R.slots)
    (K : ∀ (q : Nat) (a : Nat → Nat) (b : Nat → ClassId), WC p l e R s m args below meth c D A 2 (cells + 5) (slots + 125) Q 25 [(1, .int v), (0, .ref h0)] [] ((h0, .inr (2, [.ref qp, .ref qr, .int 0, .int 0])) :: c1 :: c2 :: c3 :: c4 :: (qr, .inl (cR, 5, .inr (.inr (.inr (.inr (va_up f i.toNatClampNeg (some q))))))) :: (rest ++ mC q a b)) (t1 :: t2 :: t3 :: (cR, .object "InstrumentFiles$Method") :: (tyR ++ mT b))) :
    WC p l e R s m args below meth c D A 2 cells slots Q 25 [(1, .int i), (0, .ref h0)] [] ((h0, .inr (2, [.ref qp, .ref qr, .int 0, .int 0])) :: c1 :: c2 :: c3 :: c4 :: (qr, .inl (cR, 5, .inr (.inr (.inr (.inr f))))) :: rest) (t1 :: t2 :: t3 :: (cR, .object "InstrumentFiles$Method") :: tyR) := by
  refine wc_iload_n (j := 0) X d_Prog_init_25 rfl rfl ?_
  refine wc_iconst (v := 5) X d_Prog_init_26 (by decide) ?_
  refine wc_icmp_ge X d_Prog_init_27 (fun h => absurd h hi5) (fun _ => ?_)
  refine wc_aload_n (j := 1) X d_Prog_init_30 rfl rfl ?_
  refine wc_get (T := TF2) (N := 4) (k := 2) (sl := 1) X rfl (by decide) (mem_1 139 rfl rfl) rfl d_Prog_init_31 ?_
  refine wc_iload_n (j := 0) X d_Prog_init_34 rfl rfl ?_
  refine wc_new (T := TF4) (N := 13) (k := 4) (fs := f0_Meth) X rfl tyF4_ok cl_Prog_18 it_Meth in_Meth (fun j hj => by
    rcases (show j = 0 ∨ j = 1 ∨ j = 2 ∨ j = 3 ∨ j = 4 ∨ j = 5 ∨ j = 6 ∨ j = 7 ∨ j = 8 ∨ j = 9 ∨ j = 10 ∨ j = 11 ∨ j = 12 by omega) with rfl | rfl | rfl | rfl | rfl | rfl | rfl | rfl | rfl | rfl | rfl | rfl | rfl <;> rfl) ⟨by omega, by omega⟩ d_Prog_init_35 (fun q => ?_)
  refine wc_dup X d_Prog_init_38 ?_
  refine wc_callN X C_Meth mn_Prog_24 in_Meth ic_Meth ii_Meth rfl (by decide +kernel) (by show (1 + (1 + (1 + 0)) : Nat) ≤ 8; decide) ⟨by omega, by omega⟩ ⟨by omega, by omega⟩ d_Prog_init_39 (fun u tyu hu => ?_)
  obtain ⟨a, b, rfl, rfl⟩ := hu
  refine wc_aast (q0 := 5) (t0 := 3) (qk := rest.length + 6) (ci := 4) (vs := [.int 0, .int 0, .int 0, .int 0, .int 0, .int 0, .int 0, .int 0, .int 0, .ref (a 0), .ref (a 1), .ref (a 2), .ref (a 3)]) (n := 5) (f := f) (cA := cR) (r := ("InstrumentFiles$Method", TF4, 13)) X rfl rfl ?_ rfl hi d_Prog_init_42 ?_
  · show (rest ++ _)[rest.length]? = _
    rw [List.getElem?_append_right (Nat.le_refl _), Nat.sub_self]; rfl
  refine wc_iinc (j := 0) X d_Prog_init_43 rfl hv (by decide) rfl ?_
  refine wc_goto X d_Prog_init_46 ?_
  exact K q a b
end WCP
def f0_Prog : List Value := [.null, .null, .int 0, .int 0]
def PT_Prog (h0 : Nat) (u : va_W) (ty : TY) : Prop := ∃ (a : Nat → Nat) (b : Nat → ClassId) (g : Nat → Nat), u = [(h0, .inr (2, [.ref (a 0), .ref (a 4), .int 0, .int 0])), (a 0, .inr (3, [.ref (a 1), .ref (a 2), .ref (a 3), .int 0])), (a 1, .inl (b 0, 16, .inl (fun _ => 0))), (a 2, .inl (b 1, 16, .inl (fun _ => 0))), (a 3, .inl (b 2, 16, .inr (.inl (fun _ => 0)))), (a 4, .inl (b 3, 5, .inr (.inr (.inr (.inr (fun j => some (g j))))))), (g 0, .inr (4, [.int 0, .int 0, .int 0, .int 0, .int 0, .int 0, .int 0, .int 0, .int 0, .ref (a 5), .ref (a 6), .ref (a 7), .ref (a 8)])), (a 5, .inl (b 4, 48, .inl (fun _ => 0))), (a 6, .inl (b 5, 8, .inl (fun _ => 0))), (a 7, .inl (b 6, 8, .inl (fun _ => 0))), (a 8, .inl (b 7, 48, .inl (fun _ => 0))), (g 1, .inr (4, [.int 0, .int 0, .int 0, .int 0, .int 0, .int 0, .int 0, .int 0, .int 0, .ref (a 9), .ref (a 10), .ref (a 11), .ref (a 12)])), (a 9, .inl (b 8, 48, .inl (fun _ => 0))), (a 10, .inl (b 9, 8, .inl (fun _ => 0))), (a 11, .inl (b 10, 8, .inl (fun _ => 0))), (a 12, .inl (b 11, 48, .inl (fun _ => 0))), (g 2, .inr (4, [.int 0, .int 0, .int 0, .int 0, .int 0, .int 0, .int 0, .int 0, .int 0, .ref (a 13), .ref (a 14), .ref (a 15), .ref (a 16)])), (a 13, .inl (b 12, 48, .inl (fun _ => 0))), (a 14, .inl (b 13, 8, .inl (fun _ => 0))), (a 15, .inl (b 14, 8, .inl (fun _ => 0))), (a 16, .inl (b 15, 48, .inl (fun _ => 0))), (g 3, .inr (4, [.int 0, .int 0, .int 0, .int 0, .int 0, .int 0, .int 0, .int 0, .int 0, .ref (a 17), .ref (a 18), .ref (a 19), .ref (a 20)])), (a 17, .inl (b 16, 48, .inl (fun _ => 0))), (a 18, .inl (b 17, 8, .inl (fun _ => 0))), (a 19, .inl (b 18, 8, .inl (fun _ => 0))), (a 20, .inl (b 19, 48, .inl (fun _ => 0))), (g 4, .inr (4, [.int 0, .int 0, .int 0, .int 0, .int 0, .int 0, .int 0, .int 0, .int 0, .ref (a 21), .ref (a 22), .ref (a 23), .ref (a 24)])), (a 21, .inl (b 20, 48, .inl (fun _ => 0))), (a 22, .inl (b 21, 8, .inl (fun _ => 0))), (a 23, .inl (b 22, 8, .inl (fun _ => 0))), (a 24, .inl (b 23, 48, .inl (fun _ => 0)))] ∧ ty = [(b 0, .int), (b 1, .int), (b 2, .long), (b 3, .object "InstrumentFiles$Method"), (b 4, .int), (b 5, .int), (b 6, .int), (b 7, .int), (b 8, .int), (b 9, .int), (b 10, .int), (b 11, .int), (b 12, .int), (b 13, .int), (b 14, .int), (b 15, .int), (b 16, .int), (b 17, .int), (b 18, .int), (b 19, .int), (b 20, .int), (b 21, .int), (b 22, .int), (b 23, .int)]
set_option maxHeartbeats 8000000 in
set_option maxRecDepth 20000 in
theorem C_Prog : MetN y_Prog_init c_Prog_init 2 2 32 30 682 2 f0_Prog PT_Prog := by
  refine MetN.of (by decide +kernel) rfl (by decide) ?_
  intro p l e s m args below meth c D h0 X hm hr hk
  rw [show f0_Prog = [.null, .null, .int 0, .int 0] from rfl] at X ⊢
  refine wc_aload_n (j := 0) X d_Prog_init_0 rfl rfl ?_
  refine wc_obj X io_Prog i_obj c_obj d_Prog_init_1 ⟨by decide, by decide⟩ ?_
  refine wc_aload_n (j := 0) X d_Prog_init_4 rfl rfl ?_
  refine wc_new (T := TF3) (N := 4) (k := 3) (fs := f0_Pool) X rfl tyF3_ok cl_Prog_9 it_Pool in_Pool (fun j hj => by
    rcases (show j = 0 ∨ j = 1 ∨ j = 2 ∨ j = 3 by omega) with rfl | rfl | rfl | rfl <;> rfl) ⟨by decide, by decide⟩ d_Prog_init_5 (fun qp => ?_)
  refine wc_dup X d_Prog_init_8 ?_
  refine wc_callN X C_Pool mn_Prog_11 in_Pool ic_Pool ii_Pool rfl (by decide +kernel) (by show (1 + (1 + 0) : Nat) ≤ 8; decide) ⟨by decide, by decide⟩ ⟨by decide, by decide⟩ d_Prog_init_9 (fun u tyu hu => ?_)
  obtain ⟨a, b, rfl, rfl⟩ := hu
  simp only [List.cons_append, List.nil_append]
  refine wc_put (T := TF2) (N := 4) (k := 2) (sl := 0) X hm rfl tyF2_ok nmF2 (by decide) (mem_1 134 rfl rfl) rfl rfl (show parseFieldDescriptor _ = some (.object "InstrumentFiles$Pool") by decide +kernel) rfl rfl (Nat.le_of_ble_eq_true rfl) d_Prog_init_12 ?_
  refine wc_aload_n (j := 0) X d_Prog_init_15 rfl rfl ?_
  refine wc_iconst (v := 5) X d_Prog_init_16 (by decide) ?_
  refine wc_newq (N' := 5) X cl_Prog_18 (by decide) (by decide) (by decide) ⟨by decide, by decide⟩ d_Prog_init_17 (fun qr cR => ?_)
  simp only [List.cons_append, List.nil_append]
  refine wc_put (T := TF2) (N := 4) (k := 2) (sl := 1) X hm rfl tyF2_ok nmF2 (by decide) (mem_1 139 rfl rfl) rfl rfl (show parseFieldDescriptor _ = some (.array (.object "InstrumentFiles$Method")) by decide +kernel) rfl rfl (Nat.le_of_ble_eq_true rfl) d_Prog_init_20 ?_
  simp only [List.set]
  refine wc_iconst (v := 0) X d_Prog_init_23 (by decide) ?_
  refine wc_istore_n X d_Prog_init_24 rfl (by decide) rfl ?_
  refine prog_it (v := 1) X (by unfold vp_in; decide) (by decide) (by decide) ⟨by decide, by decide⟩ ⟨by decide, by decide⟩ (fun m0 a0 b0 => ?_)
  refine prog_it (v := 2) X (by unfold vp_in; decide) (by decide) (by decide) ⟨by decide, by decide⟩ ⟨by decide, by decide⟩ (fun m1 a1 b1 => ?_)
  refine prog_it (v := 3) X (by unfold vp_in; decide) (by decide) (by decide) ⟨by decide, by decide⟩ ⟨by decide, by decide⟩ (fun m2 a2 b2 => ?_)
  refine prog_it (v := 4) X (by unfold vp_in; decide) (by decide) (by decide) ⟨by decide, by decide⟩ ⟨by decide, by decide⟩ (fun m3 a3 b3 => ?_)
  refine prog_it (v := 5) X (by unfold vp_in; decide) (by decide) (by decide) ⟨by decide, by decide⟩ ⟨by decide, by decide⟩ (fun m4 a4 b4 => ?_)
  refine wc_iload_n (j := 0) X d_Prog_init_25 rfl rfl ?_
  refine wc_iconst (v := 5) X d_Prog_init_26 (by decide) ?_
  refine wc_icmp_ge X d_Prog_init_27 (fun _ => ?_) (fun h => absurd (by decide) h)
  refine wc_rows (f' := fun j => some (([m0, m1, m2, m3, m4] : List Nat).getD j 0)) (fun j hj => by
    rcases (show j = 0 ∨ j = 1 ∨ j = 2 ∨ j = 3 ∨ j = 4 by omega) with rfl | rfl | rfl | rfl | rfl <;> rfl) ?_
  exact wc_vret X hr hk d_Prog_init_49 ⟨fun j => ([qp, a 0, a 1, a 2, qr, a0 0, a0 1, a0 2, a0 3, a1 0, a1 1, a1 2, a1 3, a2 0, a2 1, a2 2, a2 3, a3 0, a3 1, a3 2, a3 3, a4 0, a4 1, a4 2, a4 3] : List Nat).getD j 0, fun j => ([b 0, b 1, b 2, cR, b0 0, b0 1, b0 2, b0 3, b1 0, b1 1, b1 2, b1 3, b2 0, b2 1, b2 2, b2 3, b3 0, b3 1, b3 2, b3 3, b4 0, b4 1, b4 2, b4 3] : List ClassId).getD j 0, fun j => ([m0, m1, m2, m3, m4] : List Nat).getD j 0, rfl, rfl⟩
