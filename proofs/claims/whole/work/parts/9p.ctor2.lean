/-! constructors that only make arrays -/
set_option maxRecDepth 20000 in
theorem i_obj : Cond.instanceMethod objectInit ∈ lw_gd := mem_1 21 rfl rfl
set_option maxRecDepth 20000 in
theorem c_obj : Cond.code objectInit ⟨#[0xb1]⟩ 1 none ∈ lw_gd := mem_1 22 rfl rfl
set_option maxRecDepth 20000 in
theorem ac_int : Cond.arrayClass .int ∈ lw_gd := mem_1 37 rfl rfl
set_option maxRecDepth 20000 in
theorem ac_long : Cond.arrayClass .long ∈ lw_gd := mem_1 65 rfl rfl
set_option maxRecDepth 20000 in
theorem ac_double : Cond.arrayClass .double ∈ lw_gd := mem_4 219 rfl rfl
set_option maxRecDepth 20000 in
theorem ac_boolean : Cond.arrayClass .boolean ∈ lw_gd := mem_4 220 rfl rfl
set_option maxRecDepth 20000 in
theorem io_IF : Cond.methodLink "InstrumentFiles" 1 objectInit ∈ lw_gd := mem_1 20 rfl rfl
set_option maxRecDepth 20000 in
theorem ii_IF : Cond.instanceMethod y_IF_init ∈ lw_gd := mem_1 18 rfl rfl
set_option maxRecDepth 20000 in
theorem ic_IF : Cond.code y_IF_init c_IF_init 1 none ∈ lw_gd := mem_1 19 rfl rfl
set_option maxRecDepth 20000 in
theorem it_IF : Cond.instantiable "InstrumentFiles" 7 ∈ lw_gd := mem_1 16 rfl rfl
set_option maxRecDepth 20000 in
theorem in_IF : Cond.initialized "InstrumentFiles" ∈ lw_gd := mem_1 1 rfl rfl
set_option maxRecDepth 20000 in
theorem io_Tape : Cond.methodLink "InstrumentFiles$Tape" 3 objectInit ∈ lw_gd := mem_1 28 rfl rfl
set_option maxRecDepth 20000 in
theorem ii_Tape : Cond.instanceMethod y_Tape_init ∈ lw_gd := mem_1 26 rfl rfl
set_option maxRecDepth 20000 in
theorem ic_Tape : Cond.code y_Tape_init c_Tape_init 1 none ∈ lw_gd := mem_1 27 rfl rfl
set_option maxRecDepth 20000 in
theorem it_Tape : Cond.instantiable "InstrumentFiles$Tape" 2 ∈ lw_gd := mem_1 24 rfl rfl
set_option maxRecDepth 20000 in
theorem in_Tape : Cond.initialized "InstrumentFiles$Tape" ∈ lw_gd := mem_1 2 rfl rfl
set_option maxRecDepth 20000 in
theorem io_Prog : Cond.methodLink "InstrumentFiles$Program" 3 objectInit ∈ lw_gd := mem_1 43 rfl rfl
set_option maxRecDepth 20000 in
theorem ii_Prog : Cond.instanceMethod y_Prog_init ∈ lw_gd := mem_1 41 rfl rfl
set_option maxRecDepth 20000 in
theorem ic_Prog : Cond.code y_Prog_init c_Prog_init 2 none ∈ lw_gd := mem_1 42 rfl rfl
set_option maxRecDepth 20000 in
theorem it_Prog : Cond.instantiable "InstrumentFiles$Program" 4 ∈ lw_gd := mem_1 39 rfl rfl
set_option maxRecDepth 20000 in
theorem in_Prog : Cond.initialized "InstrumentFiles$Program" ∈ lw_gd := mem_1 3 rfl rfl
set_option maxRecDepth 20000 in
theorem io_Pool : Cond.methodLink "InstrumentFiles$Pool" 3 objectInit ∈ lw_gd := mem_1 49 rfl rfl
set_option maxRecDepth 20000 in
theorem ii_Pool : Cond.instanceMethod y_Pool_init ∈ lw_gd := mem_1 47 rfl rfl
set_option maxRecDepth 20000 in
theorem ic_Pool : Cond.code y_Pool_init c_Pool_init 1 none ∈ lw_gd := mem_1 48 rfl rfl
set_option maxRecDepth 20000 in
theorem it_Pool : Cond.instantiable "InstrumentFiles$Pool" 4 ∈ lw_gd := mem_1 45 rfl rfl
set_option maxRecDepth 20000 in
theorem in_Pool : Cond.initialized "InstrumentFiles$Pool" ∈ lw_gd := mem_1 4 rfl rfl
set_option maxRecDepth 20000 in
theorem io_Meth : Cond.methodLink "InstrumentFiles$Method" 3 objectInit ∈ lw_gd := mem_1 72 rfl rfl
set_option maxRecDepth 20000 in
theorem ii_Meth : Cond.instanceMethod y_Meth_init ∈ lw_gd := mem_1 70 rfl rfl
set_option maxRecDepth 20000 in
theorem ic_Meth : Cond.code y_Meth_init c_Meth_init 1 none ∈ lw_gd := mem_1 71 rfl rfl
set_option maxRecDepth 20000 in
theorem it_Meth : Cond.instantiable "InstrumentFiles$Method" 13 ∈ lw_gd := mem_1 68 rfl rfl
set_option maxRecDepth 20000 in
theorem in_Meth : Cond.initialized "InstrumentFiles$Method" ∈ lw_gd := mem_1 5 rfl rfl
set_option maxRecDepth 20000 in
theorem io_Read : Cond.methodLink "InstrumentFiles$Reader" 3 objectInit ∈ lw_gd := mem_1 160 rfl rfl
set_option maxRecDepth 20000 in
theorem ii_Read : Cond.instanceMethod y_Read_init ∈ lw_gd := mem_1 158 rfl rfl
set_option maxRecDepth 20000 in
theorem ic_Read : Cond.code y_Read_init c_Read_init 1 none ∈ lw_gd := mem_1 159 rfl rfl
set_option maxRecDepth 20000 in
theorem it_Read : Cond.instantiable "InstrumentFiles$Reader" 2 ∈ lw_gd := mem_1 156 rfl rfl
set_option maxRecDepth 20000 in
theorem in_Read : Cond.initialized "InstrumentFiles$Reader" ∈ lw_gd := mem_1 6 rfl rfl
set_option maxRecDepth 20000 in
theorem io_Judge : Cond.methodLink "InstrumentFiles$Judge" 3 objectInit ∈ lw_gd := mem_1 175 rfl rfl
set_option maxRecDepth 20000 in
theorem ii_Judge : Cond.instanceMethod y_Judge_init ∈ lw_gd := mem_1 173 rfl rfl
set_option maxRecDepth 20000 in
theorem ic_Judge : Cond.code y_Judge_init c_Judge_init 1 none ∈ lw_gd := mem_1 174 rfl rfl
set_option maxRecDepth 20000 in
theorem it_Judge : Cond.instantiable "InstrumentFiles$Judge" 3 ∈ lw_gd := mem_1 171 rfl rfl
set_option maxRecDepth 20000 in
theorem in_Judge : Cond.initialized "InstrumentFiles$Judge" ∈ lw_gd := mem_1 7 rfl rfl
set_option maxRecDepth 20000 in
theorem io_Mach : Cond.methodLink "InstrumentFiles$Machine" 3 objectInit ∈ lw_gd := mem_1 192 rfl rfl
set_option maxRecDepth 20000 in
theorem ii_Mach : Cond.instanceMethod y_Mach_init ∈ lw_gd := mem_1 190 rfl rfl
set_option maxRecDepth 20000 in
theorem ic_Mach : Cond.code y_Mach_init c_Mach_init 1 none ∈ lw_gd := mem_1 191 rfl rfl
set_option maxRecDepth 20000 in
theorem it_Mach : Cond.instantiable "InstrumentFiles$Machine" 15 ∈ lw_gd := mem_1 188 rfl rfl
set_option maxRecDepth 20000 in
theorem in_Mach : Cond.initialized "InstrumentFiles$Machine" ∈ lw_gd := mem_1 8 rfl rfl
set_option maxRecDepth 20000 in
theorem io_M : Cond.methodLink "InstrumentFilesModel" 1 objectInit ∈ lw_gd := mem_4 70 rfl rfl
set_option maxRecDepth 20000 in
theorem ii_M : Cond.instanceMethod y_M_init ∈ lw_gd := mem_4 68 rfl rfl
set_option maxRecDepth 20000 in
theorem ic_M : Cond.code y_M_init c_M_init 1 none ∈ lw_gd := mem_4 69 rfl rfl
set_option maxRecDepth 20000 in
theorem it_M : Cond.instantiable "InstrumentFilesModel" 49 ∈ lw_gd := mem_4 66 rfl rfl
set_option maxRecDepth 20000 in
theorem in_M : Cond.initialized "InstrumentFilesModel" ∈ lw_gd := mem_1 9 rfl rfl
set_option maxRecDepth 20000 in
theorem cl_L_7 : Cond.classLink "InstrumentFilesLaw" 7 "InstrumentFiles" ∈ lw_gd := mem_1 15 rfl rfl
set_option maxRecDepth 20000 in
theorem cl_L_10 : Cond.classLink "InstrumentFilesLaw" 10 "InstrumentFilesModel" ∈ lw_gd := mem_4 65 rfl rfl
set_option maxRecDepth 20000 in
theorem cl_IF_7 : Cond.classLink "InstrumentFiles" 7 "InstrumentFiles$Tape" ∈ lw_gd := mem_1 23 rfl rfl
set_option maxRecDepth 20000 in
theorem cl_IF_16 : Cond.classLink "InstrumentFiles" 16 "InstrumentFiles$Program" ∈ lw_gd := mem_1 38 rfl rfl
set_option maxRecDepth 20000 in
theorem cl_IF_23 : Cond.classLink "InstrumentFiles" 23 "InstrumentFiles$Reader" ∈ lw_gd := mem_1 155 rfl rfl
set_option maxRecDepth 20000 in
theorem cl_IF_30 : Cond.classLink "InstrumentFiles" 30 "InstrumentFiles$Judge" ∈ lw_gd := mem_1 170 rfl rfl
set_option maxRecDepth 20000 in
theorem cl_IF_37 : Cond.classLink "InstrumentFiles" 37 "InstrumentFiles$Machine" ∈ lw_gd := mem_1 187 rfl rfl
set_option maxRecDepth 20000 in
theorem cl_Prog_9 : Cond.classLink "InstrumentFiles$Program" 9 "InstrumentFiles$Pool" ∈ lw_gd := mem_1 44 rfl rfl
set_option maxRecDepth 20000 in
theorem cl_Prog_18 : Cond.classLink "InstrumentFiles$Program" 18 "InstrumentFiles$Method" ∈ lw_gd := mem_1 66 rfl rfl
set_option maxRecDepth 20000 in
theorem mn_IF_9 : Cond.methodLinkNest "InstrumentFiles" 9 y_Tape_init "InstrumentFiles" ∈ lw_nm := mnn_1 25 rfl rfl
set_option maxRecDepth 20000 in
theorem mn_IF_25 : Cond.methodLinkNest "InstrumentFiles" 25 y_Read_init "InstrumentFiles" ∈ lw_nm := mnn_1 157 rfl rfl
set_option maxRecDepth 20000 in
theorem mn_IF_32 : Cond.methodLinkNest "InstrumentFiles" 32 y_Judge_init "InstrumentFiles" ∈ lw_nm := mnn_1 172 rfl rfl
set_option maxRecDepth 20000 in
theorem mn_IF_39 : Cond.methodLinkNest "InstrumentFiles" 39 y_Mach_init "InstrumentFiles" ∈ lw_nm := mnn_1 189 rfl rfl
set_option maxRecDepth 20000 in
theorem mn_Prog_11 : Cond.methodLinkNest "InstrumentFiles$Program" 11 y_Pool_init "InstrumentFiles" ∈ lw_nm := mnn_1 46 rfl rfl
set_option maxRecDepth 20000 in
theorem mn_Prog_24 : Cond.methodLinkNest "InstrumentFiles$Program" 24 y_Meth_init "InstrumentFiles" ∈ lw_nm := mnn_1 69 rfl rfl
def f0_Tape : List Value := [.null, .int 0]
def PT_Tape (h0 : Nat) (u : va_W) (ty : TY) : Prop := ∃ (a : Nat → Nat) (b : Nat → ClassId), u = [(h0, .inr (1, [.ref (a 0), .int 0])), (a 0, .inl (b 0, 500, .inl (fun _ => 0)))] ∧ ty = [(b 0, .int)]
set_option maxHeartbeats 4000000 in
set_option maxRecDepth 20000 in
theorem C_Tape : MetN y_Tape_init c_Tape_init 1 1 12 1 500 1 f0_Tape PT_Tape := by
  refine MetN.of (by decide +kernel) rfl (by decide) ?_
  intro p l e s m args below meth c D h0 X hm hr hk
  rw [show f0_Tape = [.null, .int 0] from rfl] at X ⊢
  refine wc_aload_n (j := 0) X d_Tape_init_0 rfl rfl ?_
  refine wc_obj X io_Tape i_obj c_obj d_Tape_init_1 ⟨by decide, by decide⟩ ?_
  refine wc_aload_n (j := 0) X d_Tape_init_4 rfl rfl ?_
  refine wc_sipush (v := 500) X d_Tape_init_5 (by decide) ?_
  refine wc_newa (a0 := (500, .inl (fun _ => 0))) (N' := 500) X ac_int rfl (fun _ => rfl) (by decide) (by decide) (by decide) ⟨Nat.le_of_ble_eq_true rfl, Nat.le_of_ble_eq_true rfl⟩ d_Tape_init_8 (fun q0 b0 => ?_)
  refine wc_put (T := TF1) (N := 2) (k := 1) (sl := 0) X hm rfl tyF1_ok nmF1 (by decide) (mem_1 29 rfl rfl) rfl rfl (show parseFieldDescriptor _ = some (.array .int) by decide +kernel) rfl rfl (Nat.le_of_ble_eq_true rfl) d_Tape_init_10 ?_
  exact wc_vret X hr hk d_Tape_init_13 ⟨fun j => ([q0] : List Nat).getD j 0, fun j => ([b0] : List ClassId).getD j 0, rfl, rfl⟩
def f0_Pool : List Value := [.null, .null, .null, .int 0]
def PT_Pool (h0 : Nat) (u : va_W) (ty : TY) : Prop := ∃ (a : Nat → Nat) (b : Nat → ClassId), u = [(h0, .inr (3, [.ref (a 0), .ref (a 1), .ref (a 2), .int 0])), (a 0, .inl (b 0, 16, .inl (fun _ => 0))), (a 1, .inl (b 1, 16, .inl (fun _ => 0))), (a 2, .inl (b 2, 16, .inr (.inl (fun _ => 0))))] ∧ ty = [(b 0, .int), (b 1, .int), (b 2, .long)]
set_option maxHeartbeats 4000000 in
set_option maxRecDepth 20000 in
theorem C_Pool : MetN y_Pool_init c_Pool_init 1 1 12 3 48 3 f0_Pool PT_Pool := by
  refine MetN.of (by decide +kernel) rfl (by decide) ?_
  intro p l e s m args below meth c D h0 X hm hr hk
  rw [show f0_Pool = [.null, .null, .null, .int 0] from rfl] at X ⊢
  refine wc_aload_n (j := 0) X d_Pool_init_0 rfl rfl ?_
  refine wc_obj X io_Pool i_obj c_obj d_Pool_init_1 ⟨by decide, by decide⟩ ?_
  refine wc_aload_n (j := 0) X d_Pool_init_4 rfl rfl ?_
  refine wc_bipush (v := 16) X d_Pool_init_5 (by decide) ?_
  refine wc_newa (a0 := (16, .inl (fun _ => 0))) (N' := 16) X ac_int rfl (fun _ => rfl) (by decide) (by decide) (by decide) ⟨Nat.le_of_ble_eq_true rfl, Nat.le_of_ble_eq_true rfl⟩ d_Pool_init_7 (fun q0 b0 => ?_)
  refine wc_put (T := TF3) (N := 4) (k := 3) (sl := 0) X hm rfl tyF3_ok nmF3 (by decide) (mem_1 50 rfl rfl) rfl rfl (show parseFieldDescriptor _ = some (.array .int) by decide +kernel) rfl rfl (Nat.le_of_ble_eq_true rfl) d_Pool_init_9 ?_
  refine wc_aload_n (j := 0) X d_Pool_init_12 rfl rfl ?_
  refine wc_bipush (v := 16) X d_Pool_init_13 (by decide) ?_
  refine wc_newa (a0 := (16, .inl (fun _ => 0))) (N' := 16) X ac_int rfl (fun _ => rfl) (by decide) (by decide) (by decide) ⟨Nat.le_of_ble_eq_true rfl, Nat.le_of_ble_eq_true rfl⟩ d_Pool_init_15 (fun q1 b1 => ?_)
  refine wc_put (T := TF3) (N := 4) (k := 3) (sl := 1) X hm rfl tyF3_ok nmF3 (by decide) (mem_1 51 rfl rfl) rfl rfl (show parseFieldDescriptor _ = some (.array .int) by decide +kernel) rfl rfl (Nat.le_of_ble_eq_true rfl) d_Pool_init_17 ?_
  refine wc_aload_n (j := 0) X d_Pool_init_20 rfl rfl ?_
  refine wc_bipush (v := 16) X d_Pool_init_21 (by decide) ?_
  refine wc_newa (a0 := (16, .inr (.inl (fun _ => 0)))) (N' := 16) X ac_long rfl (fun _ => rfl) (by decide) (by decide) (by decide) ⟨Nat.le_of_ble_eq_true rfl, Nat.le_of_ble_eq_true rfl⟩ d_Pool_init_23 (fun q2 b2 => ?_)
  refine wc_put (T := TF3) (N := 4) (k := 3) (sl := 2) X hm rfl tyF3_ok nmF3 (by decide) (mem_1 52 rfl rfl) rfl rfl (show parseFieldDescriptor _ = some (.array .long) by decide +kernel) rfl rfl (Nat.le_of_ble_eq_true rfl) d_Pool_init_25 ?_
  exact wc_vret X hr hk d_Pool_init_28 ⟨fun j => ([q0, q1, q2] : List Nat).getD j 0, fun j => ([b0, b1, b2] : List ClassId).getD j 0, rfl, rfl⟩
def f0_Meth : List Value := [.int 0, .int 0, .int 0, .int 0, .int 0, .int 0, .int 0, .int 0, .int 0, .null, .null, .null, .null]
def PT_Meth (h0 : Nat) (u : va_W) (ty : TY) : Prop := ∃ (a : Nat → Nat) (b : Nat → ClassId), u = [(h0, .inr (4, [.int 0, .int 0, .int 0, .int 0, .int 0, .int 0, .int 0, .int 0, .int 0, .ref (a 0), .ref (a 1), .ref (a 2), .ref (a 3)])), (a 0, .inl (b 0, 48, .inl (fun _ => 0))), (a 1, .inl (b 1, 8, .inl (fun _ => 0))), (a 2, .inl (b 2, 8, .inl (fun _ => 0))), (a 3, .inl (b 3, 48, .inl (fun _ => 0)))] ∧ ty = [(b 0, .int), (b 1, .int), (b 2, .int), (b 3, .int)]
set_option maxHeartbeats 4000000 in
set_option maxRecDepth 20000 in
theorem C_Meth : MetN y_Meth_init c_Meth_init 1 1 12 4 112 4 f0_Meth PT_Meth := by
  refine MetN.of (by decide +kernel) rfl (by decide) ?_
  intro p l e s m args below meth c D h0 X hm hr hk
  rw [show f0_Meth = [.int 0, .int 0, .int 0, .int 0, .int 0, .int 0, .int 0, .int 0, .int 0, .null, .null, .null, .null] from rfl] at X ⊢
  refine wc_aload_n (j := 0) X d_Meth_init_0 rfl rfl ?_
  refine wc_obj X io_Meth i_obj c_obj d_Meth_init_1 ⟨by decide, by decide⟩ ?_
  refine wc_aload_n (j := 0) X d_Meth_init_4 rfl rfl ?_
  refine wc_bipush (v := 48) X d_Meth_init_5 (by decide) ?_
  refine wc_newa (a0 := (48, .inl (fun _ => 0))) (N' := 48) X ac_int rfl (fun _ => rfl) (by decide) (by decide) (by decide) ⟨Nat.le_of_ble_eq_true rfl, Nat.le_of_ble_eq_true rfl⟩ d_Meth_init_7 (fun q0 b0 => ?_)
  refine wc_put (T := TF4) (N := 13) (k := 4) (sl := 9) X hm rfl tyF4_ok nmF4 (by decide) (mem_1 103 rfl rfl) rfl rfl (show parseFieldDescriptor _ = some (.array .int) by decide +kernel) rfl rfl (Nat.le_of_ble_eq_true rfl) d_Meth_init_9 ?_
  refine wc_aload_n (j := 0) X d_Meth_init_12 rfl rfl ?_
  refine wc_bipush (v := 8) X d_Meth_init_13 (by decide) ?_
  refine wc_newa (a0 := (8, .inl (fun _ => 0))) (N' := 8) X ac_int rfl (fun _ => rfl) (by decide) (by decide) (by decide) ⟨Nat.le_of_ble_eq_true rfl, Nat.le_of_ble_eq_true rfl⟩ d_Meth_init_15 (fun q1 b1 => ?_)
  refine wc_put (T := TF4) (N := 13) (k := 4) (sl := 10) X hm rfl tyF4_ok nmF4 (by decide) (mem_1 104 rfl rfl) rfl rfl (show parseFieldDescriptor _ = some (.array .int) by decide +kernel) rfl rfl (Nat.le_of_ble_eq_true rfl) d_Meth_init_17 ?_
  refine wc_aload_n (j := 0) X d_Meth_init_20 rfl rfl ?_
  refine wc_bipush (v := 8) X d_Meth_init_21 (by decide) ?_
  refine wc_newa (a0 := (8, .inl (fun _ => 0))) (N' := 8) X ac_int rfl (fun _ => rfl) (by decide) (by decide) (by decide) ⟨Nat.le_of_ble_eq_true rfl, Nat.le_of_ble_eq_true rfl⟩ d_Meth_init_23 (fun q2 b2 => ?_)
  refine wc_put (T := TF4) (N := 13) (k := 4) (sl := 11) X hm rfl tyF4_ok nmF4 (by decide) (mem_1 105 rfl rfl) rfl rfl (show parseFieldDescriptor _ = some (.array .int) by decide +kernel) rfl rfl (Nat.le_of_ble_eq_true rfl) d_Meth_init_25 ?_
  refine wc_aload_n (j := 0) X d_Meth_init_28 rfl rfl ?_
  refine wc_bipush (v := 48) X d_Meth_init_29 (by decide) ?_
  refine wc_newa (a0 := (48, .inl (fun _ => 0))) (N' := 48) X ac_int rfl (fun _ => rfl) (by decide) (by decide) (by decide) ⟨Nat.le_of_ble_eq_true rfl, Nat.le_of_ble_eq_true rfl⟩ d_Meth_init_31 (fun q3 b3 => ?_)
  refine wc_put (T := TF4) (N := 13) (k := 4) (sl := 12) X hm rfl tyF4_ok nmF4 (by decide) (mem_1 106 rfl rfl) rfl rfl (show parseFieldDescriptor _ = some (.array .int) by decide +kernel) rfl rfl (Nat.le_of_ble_eq_true rfl) d_Meth_init_33 ?_
  exact wc_vret X hr hk d_Meth_init_36 ⟨fun j => ([q0, q1, q2, q3] : List Nat).getD j 0, fun j => ([b0, b1, b2, b3] : List ClassId).getD j 0, rfl, rfl⟩
def f0_Mach : List Value := [.null, .null, .null, .null, .null, .null, .int 0, .int 0, .int 0, .int 0, .int 0, .int 0, .int 0, .int 0, .long 0]
def PT_Mach (h0 : Nat) (u : va_W) (ty : TY) : Prop := ∃ (a : Nat → Nat) (b : Nat → ClassId), u = [(h0, .inr (7, [.ref (a 0), .ref (a 1), .ref (a 2), .ref (a 3), .ref (a 4), .ref (a 5), .int 0, .int 0, .int 0, .int 0, .int 0, .int 0, .int 0, .int 0, .long 0])), (a 0, .inl (b 0, 8, .inr (.inl (fun _ => 0)))), (a 1, .inl (b 1, 48, .inr (.inl (fun _ => 0)))), (a 2, .inl (b 2, 48, .inr (.inl (fun _ => 0)))), (a 3, .inl (b 3, 8, .inl (fun _ => 0))), (a 4, .inl (b 4, 8, .inl (fun _ => 0))), (a 5, .inl (b 5, 8, .inl (fun _ => 0)))] ∧ ty = [(b 0, .long), (b 1, .long), (b 2, .long), (b 3, .int), (b 4, .int), (b 5, .int)]
set_option maxHeartbeats 4000000 in
set_option maxRecDepth 20000 in
theorem C_Mach : MetN y_Mach_init c_Mach_init 1 1 12 6 128 7 f0_Mach PT_Mach := by
  refine MetN.of (by decide +kernel) rfl (by decide) ?_
  intro p l e s m args below meth c D h0 X hm hr hk
  rw [show f0_Mach = [.null, .null, .null, .null, .null, .null, .int 0, .int 0, .int 0, .int 0, .int 0, .int 0, .int 0, .int 0, .long 0] from rfl] at X ⊢
  refine wc_aload_n (j := 0) X d_Mach_init_0 rfl rfl ?_
  refine wc_obj X io_Mach i_obj c_obj d_Mach_init_1 ⟨by decide, by decide⟩ ?_
  refine wc_aload_n (j := 0) X d_Mach_init_4 rfl rfl ?_
  refine wc_bipush (v := 8) X d_Mach_init_5 (by decide) ?_
  refine wc_newa (a0 := (8, .inr (.inl (fun _ => 0)))) (N' := 8) X ac_long rfl (fun _ => rfl) (by decide) (by decide) (by decide) ⟨Nat.le_of_ble_eq_true rfl, Nat.le_of_ble_eq_true rfl⟩ d_Mach_init_7 (fun q0 b0 => ?_)
  refine wc_put (T := TF7) (N := 15) (k := 7) (sl := 0) X hm rfl tyF7_ok nmF7 (by decide) (mem_1 193 rfl rfl) rfl rfl (show parseFieldDescriptor _ = some (.array .long) by decide +kernel) rfl rfl (Nat.le_of_ble_eq_true rfl) d_Mach_init_9 ?_
  refine wc_aload_n (j := 0) X d_Mach_init_12 rfl rfl ?_
  refine wc_bipush (v := 48) X d_Mach_init_13 (by decide) ?_
  refine wc_newa (a0 := (48, .inr (.inl (fun _ => 0)))) (N' := 48) X ac_long rfl (fun _ => rfl) (by decide) (by decide) (by decide) ⟨Nat.le_of_ble_eq_true rfl, Nat.le_of_ble_eq_true rfl⟩ d_Mach_init_15 (fun q1 b1 => ?_)
  refine wc_put (T := TF7) (N := 15) (k := 7) (sl := 1) X hm rfl tyF7_ok nmF7 (by decide) (mem_1 194 rfl rfl) rfl rfl (show parseFieldDescriptor _ = some (.array .long) by decide +kernel) rfl rfl (Nat.le_of_ble_eq_true rfl) d_Mach_init_17 ?_
  refine wc_aload_n (j := 0) X d_Mach_init_20 rfl rfl ?_
  refine wc_bipush (v := 48) X d_Mach_init_21 (by decide) ?_
  refine wc_newa (a0 := (48, .inr (.inl (fun _ => 0)))) (N' := 48) X ac_long rfl (fun _ => rfl) (by decide) (by decide) (by decide) ⟨Nat.le_of_ble_eq_true rfl, Nat.le_of_ble_eq_true rfl⟩ d_Mach_init_23 (fun q2 b2 => ?_)
  refine wc_put (T := TF7) (N := 15) (k := 7) (sl := 2) X hm rfl tyF7_ok nmF7 (by decide) (mem_1 195 rfl rfl) rfl rfl (show parseFieldDescriptor _ = some (.array .long) by decide +kernel) rfl rfl (Nat.le_of_ble_eq_true rfl) d_Mach_init_25 ?_
  refine wc_aload_n (j := 0) X d_Mach_init_28 rfl rfl ?_
  refine wc_bipush (v := 8) X d_Mach_init_29 (by decide) ?_
  refine wc_newa (a0 := (8, .inl (fun _ => 0))) (N' := 8) X ac_int rfl (fun _ => rfl) (by decide) (by decide) (by decide) ⟨Nat.le_of_ble_eq_true rfl, Nat.le_of_ble_eq_true rfl⟩ d_Mach_init_31 (fun q3 b3 => ?_)
  refine wc_put (T := TF7) (N := 15) (k := 7) (sl := 3) X hm rfl tyF7_ok nmF7 (by decide) (mem_1 196 rfl rfl) rfl rfl (show parseFieldDescriptor _ = some (.array .int) by decide +kernel) rfl rfl (Nat.le_of_ble_eq_true rfl) d_Mach_init_33 ?_
  refine wc_aload_n (j := 0) X d_Mach_init_36 rfl rfl ?_
  refine wc_bipush (v := 8) X d_Mach_init_37 (by decide) ?_
  refine wc_newa (a0 := (8, .inl (fun _ => 0))) (N' := 8) X ac_int rfl (fun _ => rfl) (by decide) (by decide) (by decide) ⟨Nat.le_of_ble_eq_true rfl, Nat.le_of_ble_eq_true rfl⟩ d_Mach_init_39 (fun q4 b4 => ?_)
  refine wc_put (T := TF7) (N := 15) (k := 7) (sl := 4) X hm rfl tyF7_ok nmF7 (by decide) (mem_1 197 rfl rfl) rfl rfl (show parseFieldDescriptor _ = some (.array .int) by decide +kernel) rfl rfl (Nat.le_of_ble_eq_true rfl) d_Mach_init_41 ?_
  refine wc_aload_n (j := 0) X d_Mach_init_44 rfl rfl ?_
  refine wc_bipush (v := 8) X d_Mach_init_45 (by decide) ?_
  refine wc_newa (a0 := (8, .inl (fun _ => 0))) (N' := 8) X ac_int rfl (fun _ => rfl) (by decide) (by decide) (by decide) ⟨Nat.le_of_ble_eq_true rfl, Nat.le_of_ble_eq_true rfl⟩ d_Mach_init_47 (fun q5 b5 => ?_)
  refine wc_put (T := TF7) (N := 15) (k := 7) (sl := 5) X hm rfl tyF7_ok nmF7 (by decide) (mem_1 198 rfl rfl) rfl rfl (show parseFieldDescriptor _ = some (.array .int) by decide +kernel) rfl rfl (Nat.le_of_ble_eq_true rfl) d_Mach_init_49 ?_
  exact wc_vret X hr hk d_Mach_init_52 ⟨fun j => ([q0, q1, q2, q3, q4, q5] : List Nat).getD j 0, fun j => ([b0, b1, b2, b3, b4, b5] : List ClassId).getD j 0, rfl, rfl⟩
def f0_Read : List Value := [.int 0, .int 0]
def PT_Read (h0 : Nat) (u : va_W) (ty : TY) : Prop := ∃ (a : Nat → Nat) (b : Nat → ClassId), u = [(h0, .inr (5, [.int 0, .int 0]))] ∧ ty = []
set_option maxHeartbeats 4000000 in
set_option maxRecDepth 20000 in
theorem C_Read : MetN y_Read_init c_Read_init 1 1 12 0 0 5 f0_Read PT_Read := by
  refine MetN.of (by decide +kernel) rfl (by decide) ?_
  intro p l e s m args below meth c D h0 X hm hr hk
  rw [show f0_Read = [.int 0, .int 0] from rfl] at X ⊢
  refine wc_aload_n (j := 0) X d_Read_init_0 rfl rfl ?_
  refine wc_obj X io_Read i_obj c_obj d_Read_init_1 ⟨by decide, by decide⟩ ?_
  exact wc_vret X hr hk d_Read_init_4 ⟨fun j => ([] : List Nat).getD j 0, fun j => ([] : List ClassId).getD j 0, rfl, rfl⟩
def f0_Judge : List Value := [.int 0, .int 0, .int 0]
def PT_Judge (h0 : Nat) (u : va_W) (ty : TY) : Prop := ∃ (a : Nat → Nat) (b : Nat → ClassId), u = [(h0, .inr (6, [.int 0, .int 0, .int 0]))] ∧ ty = []
set_option maxHeartbeats 4000000 in
set_option maxRecDepth 20000 in
theorem C_Judge : MetN y_Judge_init c_Judge_init 1 1 12 0 0 6 f0_Judge PT_Judge := by
  refine MetN.of (by decide +kernel) rfl (by decide) ?_
  intro p l e s m args below meth c D h0 X hm hr hk
  rw [show f0_Judge = [.int 0, .int 0, .int 0] from rfl] at X ⊢
  refine wc_aload_n (j := 0) X d_Judge_init_0 rfl rfl ?_
  refine wc_obj X io_Judge i_obj c_obj d_Judge_init_1 ⟨by decide, by decide⟩ ?_
  exact wc_vret X hr hk d_Judge_init_4 ⟨fun j => ([] : List Nat).getD j 0, fun j => ([] : List ClassId).getD j 0, rfl, rfl⟩
