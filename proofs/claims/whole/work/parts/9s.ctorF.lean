/-! the face's constructor -/
def f0_IF : List Value := [.null, .null, .null, .null, .null, .int 0, .int 0]
def PT_IF (h0 : Nat) (u : va_W) (ty : TY) : Prop := ∃ (a : Nat → Nat) (b : Nat → ClassId) (g : Nat → Nat), u = [(h0, .inr (0, [.ref (a 0), .ref (a 2), .ref (a 28), .ref (a 29), .ref (a 30), .int 0, .int 0])), (a 0, .inr (1, [.ref (a 1), .int 0])), (a 1, .inl (b 0, 500, .inl (fun _ => 0))), (a 2, .inr (2, [.ref (a 3), .ref (a 7), .int 0, .int 0])), (a 3, .inr (3, [.ref (a 4), .ref (a 5), .ref (a 6), .int 0])), (a 4, .inl (b 1, 16, .inl (fun _ => 0))), (a 5, .inl (b 2, 16, .inl (fun _ => 0))), (a 6, .inl (b 3, 16, .inr (.inl (fun _ => 0)))), (a 7, .inl (b 4, 5, .inr (.inr (.inr (.inr (fun j => some (g j))))))), (g 0, .inr (4, [.int 0, .int 0, .int 0, .int 0, .int 0, .int 0, .int 0, .int 0, .int 0, .ref (a 8), .ref (a 9), .ref (a 10), .ref (a 11)])), (a 8, .inl (b 5, 48, .inl (fun _ => 0))), (a 9, .inl (b 6, 8, .inl (fun _ => 0))), (a 10, .inl (b 7, 8, .inl (fun _ => 0))), (a 11, .inl (b 8, 48, .inl (fun _ => 0))), (g 1, .inr (4, [.int 0, .int 0, .int 0, .int 0, .int 0, .int 0, .int 0, .int 0, .int 0, .ref (a 12), .ref (a 13), .ref (a 14), .ref (a 15)])), (a 12, .inl (b 9, 48, .inl (fun _ => 0))), (a 13, .inl (b 10, 8, .inl (fun _ => 0))), (a 14, .inl (b 11, 8, .inl (fun _ => 0))), (a 15, .inl (b 12, 48, .inl (fun _ => 0))), (g 2, .inr (4, [.int 0, .int 0, .int 0, .int 0, .int 0, .int 0, .int 0, .int 0, .int 0, .ref (a 16), .ref (a 17), .ref (a 18), .ref (a 19)])), (a 16, .inl (b 13, 48, .inl (fun _ => 0))), (a 17, .inl (b 14, 8, .inl (fun _ => 0))), (a 18, .inl (b 15, 8, .inl (fun _ => 0))), (a 19, .inl (b 16, 48, .inl (fun _ => 0))), (g 3, .inr (4, [.int 0, .int 0, .int 0, .int 0, .int 0, .int 0, .int 0, .int 0, .int 0, .ref (a 20), .ref (a 21), .ref (a 22), .ref (a 23)])), (a 20, .inl (b 17, 48, .inl (fun _ => 0))), (a 21, .inl (b 18, 8, .inl (fun _ => 0))), (a 22, .inl (b 19, 8, .inl (fun _ => 0))), (a 23, .inl (b 20, 48, .inl (fun _ => 0))), (g 4, .inr (4, [.int 0, .int 0, .int 0, .int 0, .int 0, .int 0, .int 0, .int 0, .int 0, .ref (a 24), .ref (a 25), .ref (a 26), .ref (a 27)])), (a 24, .inl (b 21, 48, .inl (fun _ => 0))), (a 25, .inl (b 22, 8, .inl (fun _ => 0))), (a 26, .inl (b 23, 8, .inl (fun _ => 0))), (a 27, .inl (b 24, 48, .inl (fun _ => 0))), (a 28, .inr (5, [.int 0, .int 0])), (a 29, .inr (6, [.int 0, .int 0, .int 0])), (a 30, .inr (7, [.ref (a 31), .ref (a 32), .ref (a 33), .ref (a 34), .ref (a 35), .ref (a 36), .int 0, .int 0, .int 0, .int 0, .int 0, .int 0, .int 0, .int 0, .long 0])), (a 31, .inl (b 25, 8, .inr (.inl (fun _ => 0)))), (a 32, .inl (b 26, 48, .inr (.inl (fun _ => 0)))), (a 33, .inl (b 27, 48, .inr (.inl (fun _ => 0)))), (a 34, .inl (b 28, 8, .inl (fun _ => 0))), (a 35, .inl (b 29, 8, .inl (fun _ => 0))), (a 36, .inl (b 30, 8, .inl (fun _ => 0)))] ∧ ty = [(b 0, .int), (b 1, .int), (b 2, .int), (b 3, .long), (b 4, .object "InstrumentFiles$Method"), (b 5, .int), (b 6, .int), (b 7, .int), (b 8, .int), (b 9, .int), (b 10, .int), (b 11, .int), (b 12, .int), (b 13, .int), (b 14, .int), (b 15, .int), (b 16, .int), (b 17, .int), (b 18, .int), (b 19, .int), (b 20, .int), (b 21, .int), (b 22, .int), (b 23, .int), (b 24, .int), (b 25, .long), (b 26, .long), (b 27, .long), (b 28, .int), (b 29, .int), (b 30, .int)]
set_option maxHeartbeats 8000000 in
set_option maxRecDepth 20000 in
theorem C_IF : MetN y_IF_init c_IF_init 1 3 53 42 1336 0 f0_IF PT_IF := by
  refine MetN.of (by decide +kernel) rfl (by decide) ?_
  intro p l e s m args below meth c D h0 X hm hr hk
  rw [show f0_IF = [.null, .null, .null, .null, .null, .int 0, .int 0] from rfl] at X ⊢
  refine wc_aload_n (j := 0) X d_IF_init_0 rfl rfl ?_
  refine wc_obj X io_IF i_obj c_obj d_IF_init_1 ⟨by decide, by decide⟩ ?_
  refine wc_aload_n (j := 0) X d_IF_init_4 rfl rfl ?_
  refine wc_new (T := TF1) (N := 2) (k := 1) (fs := f0_Tape) X rfl tyF1_ok cl_IF_7 it_Tape in_Tape (fun j hj => by
    rcases (show j = 0 ∨ j = 1 by omega) with rfl | rfl <;> rfl) ⟨by decide, by decide⟩ d_IF_init_5 (fun q1 => ?_)
  refine wc_dup X d_IF_init_8 ?_
  refine wc_callN X C_Tape mn_IF_9 in_Tape ic_Tape ii_Tape rfl (by decide +kernel) (by show (1 + (1 + 0) : Nat) ≤ 8; decide) ⟨by decide, by decide⟩ ⟨by decide, by decide⟩ d_IF_init_9 (fun u tyu hu => ?_)
  obtain ⟨a1, b1, rfl, rfl⟩ := hu
  simp only [List.cons_append, List.nil_append]
  refine wc_put (T := TF0) (N := 7) (k := 0) (sl := 0) X hm rfl tyF0_ok nmF0 (by decide) (mem_2 5 rfl rfl) rfl rfl (show parseFieldDescriptor _ = some (.object "InstrumentFiles$Tape") by decide +kernel) rfl rfl (Nat.le_of_ble_eq_true rfl) d_IF_init_12 ?_
  refine wc_aload_n (j := 0) X d_IF_init_15 rfl rfl ?_
  refine wc_new (T := TF2) (N := 4) (k := 2) (fs := f0_Prog) X rfl tyF2_ok cl_IF_16 it_Prog in_Prog (fun j hj => by
    rcases (show j = 0 ∨ j = 1 ∨ j = 2 ∨ j = 3 by omega) with rfl | rfl | rfl | rfl <;> rfl) ⟨by decide, by decide⟩ d_IF_init_16 (fun q2 => ?_)
  refine wc_dup X d_IF_init_19 ?_
  refine wc_callI X C_Prog ml_IF_18 in_Prog ic_Prog ii_Prog rfl (by decide +kernel) (by show (1 + (1 + 0) : Nat) ≤ 8; decide) ⟨by decide, by decide⟩ ⟨by decide, by decide⟩ d_IF_init_20 (fun u tyu hu => ?_)
  obtain ⟨a2, b2, g, rfl, rfl⟩ := hu
  simp only [List.cons_append, List.nil_append]
  refine wc_put (T := TF0) (N := 7) (k := 0) (sl := 1) X hm rfl tyF0_ok nmF0 (by decide) (mem_2 6 rfl rfl) rfl rfl (show parseFieldDescriptor _ = some (.object "InstrumentFiles$Program") by decide +kernel) rfl rfl (Nat.le_of_ble_eq_true rfl) d_IF_init_23 ?_
  refine wc_aload_n (j := 0) X d_IF_init_26 rfl rfl ?_
  refine wc_new (T := TF5) (N := 2) (k := 5) (fs := f0_Read) X rfl tyF5_ok cl_IF_23 it_Read in_Read (fun j hj => by
    rcases (show j = 0 ∨ j = 1 by omega) with rfl | rfl <;> rfl) ⟨by decide, by decide⟩ d_IF_init_27 (fun q3 => ?_)
  refine wc_dup X d_IF_init_30 ?_
  refine wc_callN X C_Read mn_IF_25 in_Read ic_Read ii_Read rfl (by decide +kernel) (by show (1 + (1 + 0) : Nat) ≤ 8; decide) ⟨by decide, by decide⟩ ⟨by decide, by decide⟩ d_IF_init_31 (fun u tyu hu => ?_)
  obtain ⟨a3, b3, rfl, rfl⟩ := hu
  simp only [List.cons_append, List.nil_append]
  refine wc_put (T := TF0) (N := 7) (k := 0) (sl := 2) X hm rfl tyF0_ok nmF0 (by decide) (mem_2 7 rfl rfl) rfl rfl (show parseFieldDescriptor _ = some (.object "InstrumentFiles$Reader") by decide +kernel) rfl rfl (Nat.le_of_ble_eq_true rfl) d_IF_init_34 ?_
  refine wc_aload_n (j := 0) X d_IF_init_37 rfl rfl ?_
  refine wc_new (T := TF6) (N := 3) (k := 6) (fs := f0_Judge) X rfl tyF6_ok cl_IF_30 it_Judge in_Judge (fun j hj => by
    rcases (show j = 0 ∨ j = 1 ∨ j = 2 by omega) with rfl | rfl | rfl <;> rfl) ⟨by decide, by decide⟩ d_IF_init_38 (fun q4 => ?_)
  refine wc_dup X d_IF_init_41 ?_
  refine wc_callN X C_Judge mn_IF_32 in_Judge ic_Judge ii_Judge rfl (by decide +kernel) (by show (1 + (1 + 0) : Nat) ≤ 8; decide) ⟨by decide, by decide⟩ ⟨by decide, by decide⟩ d_IF_init_42 (fun u tyu hu => ?_)
  obtain ⟨a4, b4, rfl, rfl⟩ := hu
  simp only [List.cons_append, List.nil_append]
  refine wc_put (T := TF0) (N := 7) (k := 0) (sl := 3) X hm rfl tyF0_ok nmF0 (by decide) (mem_2 8 rfl rfl) rfl rfl (show parseFieldDescriptor _ = some (.object "InstrumentFiles$Judge") by decide +kernel) rfl rfl (Nat.le_of_ble_eq_true rfl) d_IF_init_45 ?_
  refine wc_aload_n (j := 0) X d_IF_init_48 rfl rfl ?_
  refine wc_new (T := TF7) (N := 15) (k := 7) (fs := f0_Mach) X rfl tyF7_ok cl_IF_37 it_Mach in_Mach (fun j hj => by
    rcases (show j = 0 ∨ j = 1 ∨ j = 2 ∨ j = 3 ∨ j = 4 ∨ j = 5 ∨ j = 6 ∨ j = 7 ∨ j = 8 ∨ j = 9 ∨ j = 10 ∨ j = 11 ∨ j = 12 ∨ j = 13 ∨ j = 14 by omega) with rfl | rfl | rfl | rfl | rfl | rfl | rfl | rfl | rfl | rfl | rfl | rfl | rfl | rfl | rfl <;> rfl) ⟨by decide, by decide⟩ d_IF_init_49 (fun q5 => ?_)
  refine wc_dup X d_IF_init_52 ?_
  refine wc_callN X C_Mach mn_IF_39 in_Mach ic_Mach ii_Mach rfl (by decide +kernel) (by show (1 + (1 + 0) : Nat) ≤ 8; decide) ⟨by decide, by decide⟩ ⟨by decide, by decide⟩ d_IF_init_53 (fun u tyu hu => ?_)
  obtain ⟨a5, b5, rfl, rfl⟩ := hu
  simp only [List.cons_append, List.nil_append]
  refine wc_put (T := TF0) (N := 7) (k := 0) (sl := 4) X hm rfl tyF0_ok nmF0 (by decide) (mem_2 9 rfl rfl) rfl rfl (show parseFieldDescriptor _ = some (.object "InstrumentFiles$Machine") by decide +kernel) rfl rfl (Nat.le_of_ble_eq_true rfl) d_IF_init_56 ?_
  exact wc_vret X hr hk d_IF_init_59 ⟨fun j => ([q1, a1 0, q2, a2 0, a2 1, a2 2, a2 3, a2 4, a2 5, a2 6, a2 7, a2 8, a2 9, a2 10, a2 11, a2 12, a2 13, a2 14, a2 15, a2 16, a2 17, a2 18, a2 19, a2 20, a2 21, a2 22, a2 23, a2 24, q3, q4, q5, a5 0, a5 1, a5 2, a5 3, a5 4, a5 5] : List Nat).getD j 0, fun j => ([b1 0, b2 0, b2 1, b2 2, b2 3, b2 4, b2 5, b2 6, b2 7, b2 8, b2 9, b2 10, b2 11, b2 12, b2 13, b2 14, b2 15, b2 16, b2 17, b2 18, b2 19, b2 20, b2 21, b2 22, b2 23, b5 0, b5 1, b5 2, b5 3, b5 4, b5 5] : List ClassId).getD j 0, g, rfl, rfl⟩
