/-! Machine: table 18, stack 19, locals 20 (longs); methods 21, places 22, bases 23; depth S.1 7 0 6, top 7, opPlace 8, failure 9, steps 10, outermost 11, failedPlace 12, deepest 13, given (long) 14 -/
def xmPush (S : MS) (v : Int64) : MS := if ¬ S.1 7 0 7 < 0 ∧ ¬ 48 ≤ S.1 7 0 7 then wI (wL S 19 0 (S.1 7 0 7).toNatClampNeg v) 7 0 7 (S.1 7 0 7 + 1) else S
theorem m_Mach_push (S : MS) (v : Int64) : MetE y_Mach_push c_Mach_push 3 (none) 0 0 [.inr (7, 0), .inl (.long v)] S (none) (xmPush S v) := by
  refine MetS.of (lv0 := [some (.inr (7, 0)), some (.inl (.long v)), none]) pn_Mach rfl (Nat.le_of_ble_eq_true rfl) (fun p0 l0 e0 s0 m0 args below meth c0 G X => ?_)
  refine ws_aload_n (i := 0) X d_Mach_push_0 rfl rfl ?_
  refine ws_getI X fl_Mach_51 ob7 d_Mach_push_1 ?_
  refine ws_if_lt X d_Mach_push_4 (fun h4 => ?_) (fun h4 => ?_)
  · refine ws_vret X d_Mach_push_39 ?_
    exact ⟨rfl, by simp [xmPush, wL, eq_true h4]⟩
  · refine ws_aload_n (i := 0) X d_Mach_push_7 rfl rfl ?_
    refine ws_getI X fl_Mach_51 ob7 d_Mach_push_8 ?_
    refine ws_aload_n (i := 0) X d_Mach_push_11 rfl rfl ?_
    refine ws_getR X fl_Mach_15 ob7 d_Mach_push_12 ?_
    refine ws_alen (v := 48) X ak19 ob19 rfl d_Mach_push_15 ?_
    refine ws_icmp_ge X d_Mach_push_16 (fun h16 => ?_) (fun h16 => ?_)
    · refine ws_vret X d_Mach_push_39 ?_
      exact ⟨rfl, by simp [xmPush, wL, eq_false h4, eq_true h16]⟩
    · refine ws_aload_n (i := 0) X d_Mach_push_19 rfl rfl ?_
      refine ws_getR X fl_Mach_15 ob7 d_Mach_push_20 ?_
      refine ws_aload_n (i := 0) X d_Mach_push_23 rfl rfl ?_
      refine ws_getI X fl_Mach_51 ob7 d_Mach_push_24 ?_
      refine ws_lload_n (i := 1) X d_Mach_push_27 rfl rfl ?_
      refine ws_last X ak19 ob19 (in_of3 (N := 48) rfl (by assumption) (by assumption)) d_Mach_push_28 ?_
      refine ws_aload_n (i := 0) X d_Mach_push_29 rfl rfl ?_
      refine ws_dup X d_Mach_push_30 rfl ?_
      refine ws_getI X fl_Mach_51 ob7 d_Mach_push_31 ?_
      refine ws_iconst (v := 1) X d_Mach_push_34 rfl ?_
      refine ws_iadd X d_Mach_push_35 ?_
      refine ws_putI X fl_Mach_51 ob7 d_Mach_push_36 ?_
      refine ws_vret X d_Mach_push_39 ?_
      exact ⟨rfl, by simp [xmPush, wL, eq_false h4, eq_false h16]⟩

def xmPopV (S : MS) : Int64 := if S.1 7 0 7 - 1 < 0 then 0 else if S.1 7 0 7 - 1 < 48 then S.2.1 19 0 (S.1 7 0 7 - 1).toNatClampNeg else 0
def xmPopS (S : MS) : MS := if S.1 7 0 7 - 1 < 0 then S else if S.1 7 0 7 - 1 < 48 then wI S 7 0 7 (S.1 7 0 7 - 1) else S
theorem m_Mach_pop (S : MS) : MetE y_Mach_pop c_Mach_pop 2 ((some .long)) 0 0 [.inr (7, 0)] S (some (.inl (.long (xmPopV S)))) (xmPopS S) := by
  refine MetS.of (lv0 := [some (.inr (7, 0)), none]) pn_Mach rfl (Nat.le_of_ble_eq_true rfl) (fun p0 l0 e0 s0 m0 args below meth c0 G X => ?_)
  refine ws_aload_n (i := 0) X d_Mach_pop_0 rfl rfl ?_
  refine ws_getI X fl_Mach_51 ob7 d_Mach_pop_1 ?_
  refine ws_iconst (v := 1) X d_Mach_pop_4 rfl ?_
  refine ws_isub X d_Mach_pop_5 ?_
  refine ws_istn_1 X rfl d_Mach_pop_6 (by decide) ?_
  refine ws_iload_n (i := 1) X d_Mach_pop_7 rfl rfl ?_
  refine ws_if_lt X d_Mach_pop_8 (fun h8 => ?_) (fun h8 => ?_)
  · refine ws_lconst (v := 0) X d_Mach_pop_20 rfl ?_
    refine ws_lret X d_Mach_pop_21 ?_
    exact ⟨by simp [xmPopV, wI, eq_true h8], by simp [xmPopS, eq_true h8]⟩
  · refine ws_iload_n (i := 1) X d_Mach_pop_11 rfl rfl ?_
    refine ws_aload_n (i := 0) X d_Mach_pop_12 rfl rfl ?_
    refine ws_getR X fl_Mach_15 ob7 d_Mach_pop_13 ?_
    refine ws_alen (v := 48) X ak19 ob19 rfl d_Mach_pop_16 ?_
    refine ws_icmp_lt X d_Mach_pop_17 (fun h17 => ?_) (fun h17 => ?_)
    · refine ws_aload_n (i := 0) X d_Mach_pop_22 rfl rfl ?_
      refine ws_iload_n (i := 1) X d_Mach_pop_23 rfl rfl ?_
      refine ws_putI X fl_Mach_51 ob7 d_Mach_pop_24 ?_
      refine ws_aload_n (i := 0) X d_Mach_pop_27 rfl rfl ?_
      refine ws_getR X fl_Mach_15 ob7 d_Mach_pop_28 ?_
      refine ws_iload_n (i := 1) X d_Mach_pop_31 rfl rfl ?_
      refine ws_lald X ak19 ob19 (in_of3 (N := 48) rfl (by assumption) (Int32.not_le.mpr (by assumption))) d_Mach_pop_32 ?_
      refine ws_lret X d_Mach_pop_33 ?_
      exact ⟨by simp [xmPopV, wI, eq_false h8, eq_true h17], by simp [xmPopS, eq_false h8, eq_true h17]⟩
    · refine ws_lconst (v := 0) X d_Mach_pop_20 rfl ?_
      refine ws_lret X d_Mach_pop_21 ?_
      exact ⟨by simp [xmPopV, wI, eq_false h8, eq_false h17], by simp [xmPopS, eq_false h8, eq_false h17]⟩

def xmAt (S : MS) (i : Int32) : Int32 := (S.1 7 0 6 - 1) * 6 + i
def xmLoc (S : MS) (i : Int32) : Int64 := if xmAt S i < 0 then 0 else if 48 ≤ xmAt S i then 0 else S.2.1 20 0 (xmAt S i).toNatClampNeg
theorem m_Mach_local (S : MS) (i : Int32) : MetE y_Mach_local c_Mach_local 3 ((some .long)) 0 0 [.inr (7, 0), .inl (.int i)] S (some (.inl (.long (xmLoc S i)))) (S) := by
  refine MetS.of (lv0 := [some (.inr (7, 0)), some (.inl (.int i)), none]) pn_Mach rfl (Nat.le_of_ble_eq_true rfl) (fun p0 l0 e0 s0 m0 args below meth c0 G X => ?_)
  refine ws_aload_n (i := 0) X d_Mach_local_0 rfl rfl ?_
  refine ws_getI X fl_Mach_54 ob7 d_Mach_local_1 ?_
  refine ws_iconst (v := 1) X d_Mach_local_4 rfl ?_
  refine ws_isub X d_Mach_local_5 ?_
  refine ws_bipush (v := 6) X d_Mach_local_6 rfl ?_
  refine ws_imul X d_Mach_local_8 ?_
  refine ws_iload_n (i := 1) X d_Mach_local_9 rfl rfl ?_
  refine ws_iadd X d_Mach_local_10 ?_
  refine ws_istn_2 X rfl d_Mach_local_11 (by decide) ?_
  refine ws_iload_n (i := 2) X d_Mach_local_12 rfl rfl ?_
  refine ws_if_lt X d_Mach_local_13 (fun h13 => ?_) (fun h13 => ?_)
  · refine ws_lconst (v := 0) X d_Mach_local_34 rfl ?_
    refine ws_lret X d_Mach_local_35 ?_
    exact ⟨by simp [xmLoc, xmAt, eq_true h13], rfl⟩
  · refine ws_iload_n (i := 2) X d_Mach_local_16 rfl rfl ?_
    refine ws_aload_n (i := 0) X d_Mach_local_17 rfl rfl ?_
    refine ws_getR X fl_Mach_18 ob7 d_Mach_local_18 ?_
    refine ws_alen (v := 48) X ak20 ob20 rfl d_Mach_local_21 ?_
    refine ws_icmp_ge X d_Mach_local_22 (fun h22 => ?_) (fun h22 => ?_)
    · refine ws_lconst (v := 0) X d_Mach_local_34 rfl ?_
      refine ws_lret X d_Mach_local_35 ?_
      exact ⟨by simp [xmLoc, xmAt, eq_false h13, eq_true h22], rfl⟩
    · refine ws_aload_n (i := 0) X d_Mach_local_25 rfl rfl ?_
      refine ws_getR X fl_Mach_18 ob7 d_Mach_local_26 ?_
      refine ws_iload_n (i := 2) X d_Mach_local_29 rfl rfl ?_
      refine ws_lald X ak20 ob20 (in_of3 (N := 48) rfl (by assumption) (by assumption)) d_Mach_local_30 ?_
      refine ws_goto X d_Mach_local_31 ?_
      refine ws_lret X d_Mach_local_35 ?_
      exact ⟨by simp [xmLoc, xmAt, eq_false h13, eq_false h22], rfl⟩

def xmSetLoc (S : MS) (i : Int32) (v : Int64) : MS := if xmAt S i < 0 then S else if 48 ≤ xmAt S i then S else wL S 20 0 (xmAt S i).toNatClampNeg v
theorem m_Mach_setLocal (S : MS) (i : Int32) (v : Int64) : MetE y_Mach_setLocal c_Mach_setLocal 5 (none) 0 0 [.inr (7, 0), .inl (.int i), .inl (.long v)] S (none) (xmSetLoc S i v) := by
  refine MetS.of (lv0 := [some (.inr (7, 0)), some (.inl (.int i)), some (.inl (.long v)), none, none]) pn_Mach rfl (Nat.le_of_ble_eq_true rfl) (fun p0 l0 e0 s0 m0 args below meth c0 G X => ?_)
  refine ws_aload_n (i := 0) X d_Mach_setLocal_0 rfl rfl ?_
  refine ws_getI X fl_Mach_54 ob7 d_Mach_setLocal_1 ?_
  refine ws_iconst (v := 1) X d_Mach_setLocal_4 rfl ?_
  refine ws_isub X d_Mach_setLocal_5 ?_
  refine ws_bipush (v := 6) X d_Mach_setLocal_6 rfl ?_
  refine ws_imul X d_Mach_setLocal_8 ?_
  refine ws_iload_n (i := 1) X d_Mach_setLocal_9 rfl rfl ?_
  refine ws_iadd X d_Mach_setLocal_10 ?_
  refine ws_ist_4 X rfl d_Mach_setLocal_11 (by decide) ?_
  refine ws_iload (i := 4) X d_Mach_setLocal_13 rfl ?_
  refine ws_if_lt X d_Mach_setLocal_15 (fun h15 => ?_) (fun h15 => ?_)
  · refine ws_vret X d_Mach_setLocal_36 ?_
    exact ⟨rfl, by simp [xmSetLoc, xmAt, eq_true h15]⟩
  · refine ws_iload (i := 4) X d_Mach_setLocal_18 rfl ?_
    refine ws_aload_n (i := 0) X d_Mach_setLocal_20 rfl rfl ?_
    refine ws_getR X fl_Mach_18 ob7 d_Mach_setLocal_21 ?_
    refine ws_alen (v := 48) X ak20 ob20 rfl d_Mach_setLocal_24 ?_
    refine ws_icmp_ge X d_Mach_setLocal_25 (fun h25 => ?_) (fun h25 => ?_)
    · refine ws_vret X d_Mach_setLocal_36 ?_
      exact ⟨rfl, by simp [xmSetLoc, xmAt, eq_false h15, eq_true h25]⟩
    · refine ws_aload_n (i := 0) X d_Mach_setLocal_28 rfl rfl ?_
      refine ws_getR X fl_Mach_18 ob7 d_Mach_setLocal_29 ?_
      refine ws_iload (i := 4) X d_Mach_setLocal_32 rfl ?_
      refine ws_lload_n (i := 2) X d_Mach_setLocal_34 rfl rfl ?_
      refine ws_last X ak20 ob20 (in_of3 (N := 48) rfl (by assumption) (by assumption)) d_Mach_setLocal_35 ?_
      refine ws_vret X d_Mach_setLocal_36 ?_
      exact ⟨rfl, by simp [xmSetLoc, xmAt, eq_false h15, eq_false h25]⟩

def xmFail (S : MS) (w : Int32) : MS := wI (wI S 7 0 9 w) 7 0 12 (S.1 7 0 8)
theorem m_Mach_fail (S : MS) (w : Int32) : MetE y_Mach_fail c_Mach_fail 2 (none) 0 0 [.inr (7, 0), .inl (.int w)] S (none) (xmFail S w) := by
  refine MetS.of (lv0 := [some (.inr (7, 0)), some (.inl (.int w))]) pn_Mach rfl (Nat.le_of_ble_eq_true rfl) (fun p0 l0 e0 s0 m0 args below meth c0 G X => ?_)
  refine ws_aload_n (i := 0) X d_Mach_fail_0 rfl rfl ?_
  refine ws_iload_n (i := 1) X d_Mach_fail_1 rfl rfl ?_
  refine ws_putI X fl_Mach_31 ob7 d_Mach_fail_2 ?_
  refine ws_aload_n (i := 0) X d_Mach_fail_5 rfl rfl ?_
  refine ws_aload_n (i := 0) X d_Mach_fail_6 rfl rfl ?_
  refine ws_getI X fl_Mach_88 ob7 d_Mach_fail_7 ?_
  refine ws_putI X fl_Mach_41 ob7 d_Mach_fail_10 ?_
  refine ws_vret X d_Mach_fail_13 ?_
  exact ⟨rfl, by simp [xmFail, wI]⟩

def xmNext (S : MS) : Int32 := if S.1 7 0 6 - 1 < 0 then 0 else if 8 ≤ S.1 7 0 6 - 1 then 0 else S.1 22 0 (S.1 7 0 6 - 1).toNatClampNeg
theorem m_Mach_nextPlace (S : MS) : MetE y_Mach_nextPlace c_Mach_nextPlace 2 ((some .int)) 0 0 [.inr (7, 0)] S (some (.inl (.int (xmNext S)))) (S) := by
  refine MetS.of (lv0 := [some (.inr (7, 0)), none]) pn_Mach rfl (Nat.le_of_ble_eq_true rfl) (fun p0 l0 e0 s0 m0 args below meth c0 G X => ?_)
  refine ws_aload_n (i := 0) X d_Mach_nextPlace_0 rfl rfl ?_
  refine ws_getI X fl_Mach_54 ob7 d_Mach_nextPlace_1 ?_
  refine ws_iconst (v := 1) X d_Mach_nextPlace_4 rfl ?_
  refine ws_isub X d_Mach_nextPlace_5 ?_
  refine ws_istn_1 X rfl d_Mach_nextPlace_6 (by decide) ?_
  refine ws_iload_n (i := 1) X d_Mach_nextPlace_7 rfl rfl ?_
  refine ws_if_lt X d_Mach_nextPlace_8 (fun h8 => ?_) (fun h8 => ?_)
  · refine ws_iconst (v := 0) X d_Mach_nextPlace_26 rfl ?_
    refine ws_iret X d_Mach_nextPlace_27 ?_
    exact ⟨by simp [xmNext, eq_true h8], rfl⟩
  · refine ws_iload_n (i := 1) X d_Mach_nextPlace_11 rfl rfl ?_
    refine ws_bipush (v := 8) X d_Mach_nextPlace_12 rfl ?_
    refine ws_icmp_ge X d_Mach_nextPlace_14 (fun h14 => ?_) (fun h14 => ?_)
    · refine ws_iconst (v := 0) X d_Mach_nextPlace_26 rfl ?_
      refine ws_iret X d_Mach_nextPlace_27 ?_
      exact ⟨by simp [xmNext, eq_false h8, eq_true h14], rfl⟩
    · refine ws_aload_n (i := 0) X d_Mach_nextPlace_17 rfl rfl ?_
      refine ws_getR X fl_Mach_25 ob7 d_Mach_nextPlace_18 ?_
      refine ws_iload_n (i := 1) X d_Mach_nextPlace_21 rfl rfl ?_
      refine ws_iald X ak22 ob22 (in_of3 (N := 8) rfl (by assumption) (by assumption)) d_Mach_nextPlace_22 ?_
      refine ws_goto X d_Mach_nextPlace_23 ?_
      refine ws_iret X d_Mach_nextPlace_27 ?_
      exact ⟨by simp [xmNext, eq_false h8, eq_false h14], rfl⟩

def xmGo (S : MS) (p : Int32) : MS := if S.1 7 0 6 - 1 < 0 then S else if 8 ≤ S.1 7 0 6 - 1 then S else wI S 22 0 (S.1 7 0 6 - 1).toNatClampNeg p
theorem m_Mach_goTo (S : MS) (p : Int32) : MetE y_Mach_goTo c_Mach_goTo 3 (none) 0 0 [.inr (7, 0), .inl (.int p)] S (none) (xmGo S p) := by
  refine MetS.of (lv0 := [some (.inr (7, 0)), some (.inl (.int p)), none]) pn_Mach rfl (Nat.le_of_ble_eq_true rfl) (fun p0 l0 e0 s0 m0 args below meth c0 G X => ?_)
  refine ws_aload_n (i := 0) X d_Mach_goTo_0 rfl rfl ?_
  refine ws_getI X fl_Mach_54 ob7 d_Mach_goTo_1 ?_
  refine ws_iconst (v := 1) X d_Mach_goTo_4 rfl ?_
  refine ws_isub X d_Mach_goTo_5 ?_
  refine ws_istn_2 X rfl d_Mach_goTo_6 (by decide) ?_
  refine ws_iload_n (i := 2) X d_Mach_goTo_7 rfl rfl ?_
  refine ws_if_lt X d_Mach_goTo_8 (fun h8 => ?_) (fun h8 => ?_)
  · refine ws_vret X d_Mach_goTo_24 ?_
    exact ⟨rfl, by simp [xmGo, eq_true h8]⟩
  · refine ws_iload_n (i := 2) X d_Mach_goTo_11 rfl rfl ?_
    refine ws_bipush (v := 8) X d_Mach_goTo_12 rfl ?_
    refine ws_icmp_ge X d_Mach_goTo_14 (fun h14 => ?_) (fun h14 => ?_)
    · refine ws_vret X d_Mach_goTo_24 ?_
      exact ⟨rfl, by simp [xmGo, eq_false h8, eq_true h14]⟩
    · refine ws_aload_n (i := 0) X d_Mach_goTo_17 rfl rfl ?_
      refine ws_getR X fl_Mach_25 ob7 d_Mach_goTo_18 ?_
      refine ws_iload_n (i := 2) X d_Mach_goTo_21 rfl rfl ?_
      refine ws_iload_n (i := 1) X d_Mach_goTo_22 rfl rfl ?_
      refine ws_iast X ak22 ob22 (in_of3 (N := 8) rfl (by assumption) (by assumption)) d_Mach_goTo_23 ?_
      refine ws_vret X d_Mach_goTo_24 ?_
      exact ⟨rfl, by simp [xmGo, eq_false h8, eq_false h14]⟩

/-- the METHOD whose CALL is open innermost -/
def xmOpen (S : MS) : Int32 := S.1 21 0 (S.1 7 0 6 - 1).toNatClampNeg
def xmOpenOk (S : MS) : Bool := decide (¬ S.1 7 0 6 - 1 < 0) && decide (¬ 8 ≤ S.1 7 0 6 - 1) && okG S (xmOpen S)
theorem m_Mach_openMethod (S : MS) (hk : xmOpenOk S = true) : MetE y_Mach_openMethod c_Mach_openMethod 3 ((some (.object "InstrumentFiles$Method"))) 1 21 [.inr (7, 0), .inr (2, 0)] S (some (.inr (4, (xmOpen S).toNatClampNeg))) (S) := by
  refine MetS.of (lv0 := [some (.inr (7, 0)), some (.inr (2, 0)), none]) pn_Mach rfl (Nat.le_of_ble_eq_true rfl) (fun p0 l0 e0 s0 m0 args below meth c0 G X => ?_)
  have hok : okG S (S.1 21 0 (S.1 7 0 6 - 1).toNatClampNeg) = true := by
    simp only [xmOpenOk, Bool.and_eq_true] at hk; exact hk.2
  refine ws_aload_n (i := 0) X d_Mach_openMethod_0 rfl rfl ?_
  refine ws_getI X fl_Mach_54 ob7 d_Mach_openMethod_1 ?_
  refine ws_iconst (v := 1) X d_Mach_openMethod_4 rfl ?_
  refine ws_isub X d_Mach_openMethod_5 ?_
  refine ws_istn_2 X rfl d_Mach_openMethod_6 (by decide) ?_
  refine ws_iload_n (i := 2) X d_Mach_openMethod_7 rfl rfl ?_
  refine ws_if_lt X d_Mach_openMethod_8 (fun h8 => ?_) (fun h8 => ?_)
  · refine ws_null X d_Mach_openMethod_30 ?_
    refine ws_aret X (Or.inl rfl) d_Mach_openMethod_31 ?_
    first | exact ⟨rfl, rfl⟩ | (exfalso; simp [xmOpenOk, eq_true h8] at hk)
  · refine ws_iload_n (i := 2) X d_Mach_openMethod_11 rfl rfl ?_
    refine ws_bipush (v := 8) X d_Mach_openMethod_12 rfl ?_
    refine ws_icmp_ge X d_Mach_openMethod_14 (fun h14 => ?_) (fun h14 => ?_)
    · refine ws_null X d_Mach_openMethod_30 ?_
      refine ws_aret X (Or.inl rfl) d_Mach_openMethod_31 ?_
      first | exact ⟨rfl, rfl⟩ | (exfalso; simp [xmOpenOk, eq_false h8, eq_true h14] at hk)
    · refine ws_aload_n (i := 1) X d_Mach_openMethod_17 rfl rfl ?_
      refine ws_aload_n (i := 0) X d_Mach_openMethod_18 rfl rfl ?_
      refine ws_getR X fl_Mach_21 ob7 d_Mach_openMethod_19 ?_
      refine ws_iload_n (i := 2) X d_Mach_openMethod_22 rfl rfl ?_
      refine ws_iald X ak21 ob21 (in_of3 (N := 8) rfl (by assumption) (by assumption)) d_Mach_openMethod_23 ?_
      refine ws_callV1 X (m_Prog_methodAt_y _ _ hok) cv_Prog_methodAt ml_Mach_108 ob2 rfl rfl (Nat.le_of_ble_eq_true rfl) ⟨Nat.le_of_ble_eq_true rfl, Nat.le_of_ble_eq_true rfl⟩ ⟨Nat.zero_le _, Nat.zero_le _⟩ d_Mach_openMethod_24 ?_
      refine ws_goto X d_Mach_openMethod_27 ?_
      refine ws_aret X (Or.inr ⟨_, rfl⟩) d_Mach_openMethod_31 ?_
      first | exact ⟨rfl, rfl⟩ | (exfalso; simp [xmOpenOk, eq_false h8, eq_false h14] at hk)

def xmEnter (S : MS) (m : Int32) : MS := if ¬ S.1 7 0 6 < 0 ∧ ¬ 8 ≤ S.1 7 0 6 then wI (wI (wI (wI (wI S 21 0 (S.1 7 0 6).toNatClampNeg m) 22 0 (S.1 7 0 6).toNatClampNeg 0) 23 0 (S.1 7 0 6).toNatClampNeg (S.1 7 0 7)) 7 0 6 (S.1 7 0 6 + 1)) 7 0 13 (maxI (S.1 7 0 13) (S.1 7 0 6 + 1)) else S
theorem m_Mach_enter (S : MS) (m : Int32) : MetE y_Mach_enter c_Mach_enter 2 (none) 1 21 [.inr (7, 0), .inl (.int m)] S (none) (xmEnter S m) := by
  refine MetS.of (lv0 := [some (.inr (7, 0)), some (.inl (.int m))]) pn_Mach rfl (Nat.le_of_ble_eq_true rfl) (fun p0 l0 e0 s0 m0 args below meth c0 G X => ?_)
  refine ws_aload_n (i := 0) X d_Mach_enter_0 rfl rfl ?_
  refine ws_getI X fl_Mach_54 ob7 d_Mach_enter_1 ?_
  refine ws_if_lt X d_Mach_enter_4 (fun h4 => ?_) (fun h4 => ?_)
  · refine ws_vret X d_Mach_enter_74 ?_
    exact ⟨rfl, by simp [xmEnter, wI, eq_true h4]⟩
  · refine ws_aload_n (i := 0) X d_Mach_enter_7 rfl rfl ?_
    refine ws_getI X fl_Mach_54 ob7 d_Mach_enter_8 ?_
    refine ws_bipush (v := 8) X d_Mach_enter_11 rfl ?_
    refine ws_icmp_ge X d_Mach_enter_13 (fun h13 => ?_) (fun h13 => ?_)
    · refine ws_vret X d_Mach_enter_74 ?_
      exact ⟨rfl, by simp [xmEnter, wI, eq_false h4, eq_true h13]⟩
    · refine ws_aload_n (i := 0) X d_Mach_enter_16 rfl rfl ?_
      refine ws_getR X fl_Mach_21 ob7 d_Mach_enter_17 ?_
      refine ws_aload_n (i := 0) X d_Mach_enter_20 rfl rfl ?_
      refine ws_getI X fl_Mach_54 ob7 d_Mach_enter_21 ?_
      refine ws_iload_n (i := 1) X d_Mach_enter_24 rfl rfl ?_
      refine ws_iast X ak21 ob21 (in_of3 (N := 8) rfl (by assumption) (by assumption)) d_Mach_enter_25 ?_
      refine ws_aload_n (i := 0) X d_Mach_enter_26 rfl rfl ?_
      refine ws_getR X fl_Mach_25 ob7 d_Mach_enter_27 ?_
      refine ws_aload_n (i := 0) X d_Mach_enter_30 rfl rfl ?_
      refine ws_getI X fl_Mach_54 ob7 d_Mach_enter_31 ?_
      refine ws_iconst (v := 0) X d_Mach_enter_34 rfl ?_
      refine ws_iast X ak22 ob22 (in_of3 (N := 8) rfl (by assumption) (by assumption)) d_Mach_enter_35 ?_
      refine ws_aload_n (i := 0) X d_Mach_enter_36 rfl rfl ?_
      refine ws_getR X fl_Mach_28 ob7 d_Mach_enter_37 ?_
      refine ws_aload_n (i := 0) X d_Mach_enter_40 rfl rfl ?_
      refine ws_getI X fl_Mach_54 ob7 d_Mach_enter_41 ?_
      refine ws_aload_n (i := 0) X d_Mach_enter_44 rfl rfl ?_
      refine ws_getI X fl_Mach_51 ob7 d_Mach_enter_45 ?_
      refine ws_iast X ak23 ob23 (in_of3 (N := 8) rfl (by assumption) (by assumption)) d_Mach_enter_48 ?_
      refine ws_aload_n (i := 0) X d_Mach_enter_49 rfl rfl ?_
      refine ws_dup X d_Mach_enter_50 rfl ?_
      refine ws_getI X fl_Mach_54 ob7 d_Mach_enter_51 ?_
      refine ws_iconst (v := 1) X d_Mach_enter_54 rfl ?_
      refine ws_iadd X d_Mach_enter_55 ?_
      refine ws_putI X fl_Mach_54 ob7 d_Mach_enter_56 ?_
      refine ws_aload_n (i := 0) X d_Mach_enter_59 rfl rfl ?_
      refine ws_aload_n (i := 0) X d_Mach_enter_60 rfl rfl ?_
      refine ws_getI X fl_Mach_44 ob7 d_Mach_enter_61 ?_
      refine ws_aload_n (i := 0) X d_Mach_enter_64 rfl rfl ?_
      refine ws_getI X fl_Mach_54 ob7 d_Mach_enter_65 ?_
      refine ws_mmax X cs_JM_max ml_Mach_94 ⟨Nat.le_of_ble_eq_true rfl, Nat.le_of_ble_eq_true rfl⟩ ⟨Nat.zero_le _, Nat.zero_le _⟩ d_Mach_enter_68 ?_
      refine ws_putI X fl_Mach_44 ob7 d_Mach_enter_71 ?_
      refine ws_vret X d_Mach_enter_74 ?_
      exact ⟨rfl, by simp [xmEnter, wI, eq_false h4, eq_false h13]⟩

def xmPrep0 (S : MS) (m : Int32) : MS := wI (wI (wL (wI (wI (wI (wI (wI S 7 0 9 0) 7 0 10 0) 7 0 11 m) 7 0 12 (-1)) 7 0 13 0) 7 0 14 0) 7 0 7 0) 7 0 6 0
theorem m_Mach_prepare (S : MS) (m : Int32) : MetE y_Mach_prepare c_Mach_prepare 2 (none) 2 42 [.inr (7, 0), .inl (.int m)] S (none) (xmEnter (xmPrep0 S m) m) := by
  refine MetS.of (lv0 := [some (.inr (7, 0)), some (.inl (.int m))]) pn_Mach rfl (Nat.le_of_ble_eq_true rfl) (fun p0 l0 e0 s0 m0 args below meth c0 G X => ?_)
  refine ws_aload_n (i := 0) X d_Mach_prepare_0 rfl rfl ?_
  refine ws_iconst (v := 0) X d_Mach_prepare_1 rfl ?_
  refine ws_putI X fl_Mach_31 ob7 d_Mach_prepare_2 ?_
  refine ws_aload_n (i := 0) X d_Mach_prepare_5 rfl rfl ?_
  refine ws_iconst (v := 0) X d_Mach_prepare_6 rfl ?_
  refine ws_putI X fl_Mach_35 ob7 d_Mach_prepare_7 ?_
  refine ws_aload_n (i := 0) X d_Mach_prepare_10 rfl rfl ?_
  refine ws_iload_n (i := 1) X d_Mach_prepare_11 rfl rfl ?_
  refine ws_putI X fl_Mach_38 ob7 d_Mach_prepare_12 ?_
  refine ws_aload_n (i := 0) X d_Mach_prepare_15 rfl rfl ?_
  refine ws_iconst (v := (-1)) X d_Mach_prepare_16 rfl ?_
  refine ws_putI X fl_Mach_41 ob7 d_Mach_prepare_17 ?_
  refine ws_aload_n (i := 0) X d_Mach_prepare_20 rfl rfl ?_
  refine ws_iconst (v := 0) X d_Mach_prepare_21 rfl ?_
  refine ws_putI X fl_Mach_44 ob7 d_Mach_prepare_22 ?_
  refine ws_aload_n (i := 0) X d_Mach_prepare_25 rfl rfl ?_
  refine ws_lconst (v := 0) X d_Mach_prepare_26 rfl ?_
  refine ws_putL X fl_Mach_47 ob7 d_Mach_prepare_27 ?_
  refine ws_aload_n (i := 0) X d_Mach_prepare_30 rfl rfl ?_
  refine ws_iconst (v := 0) X d_Mach_prepare_31 rfl ?_
  refine ws_putI X fl_Mach_51 ob7 d_Mach_prepare_32 ?_
  refine ws_aload_n (i := 0) X d_Mach_prepare_35 rfl rfl ?_
  refine ws_iconst (v := 0) X d_Mach_prepare_36 rfl ?_
  refine ws_putI X fl_Mach_54 ob7 d_Mach_prepare_37 ?_
  refine ws_aload_n (i := 0) X d_Mach_prepare_40 rfl rfl ?_
  refine ws_iload_n (i := 1) X d_Mach_prepare_41 rfl rfl ?_
  refine ws_callV0 X (m_Mach_enter _ _) cv_Mach_enter ml_Mach_57 ob7 rfl rfl (Nat.le_of_ble_eq_true rfl) ⟨Nat.le_of_ble_eq_true rfl, Nat.le_of_ble_eq_true rfl⟩ ⟨Nat.zero_le _, Nat.zero_le _⟩ d_Mach_prepare_42 ?_
  refine ws_vret X d_Mach_prepare_45 ?_
  exact ⟨rfl, rfl⟩

def xmLeave1 (S : MS) : MS := if S.1 7 0 6 - 1 < 0 then S else if 8 ≤ S.1 7 0 6 - 1 then S else wI (wI S 7 0 7 (S.1 23 0 (S.1 7 0 6 - 1).toNatClampNeg)) 7 0 6 (S.1 7 0 6 - 1)
def xmLeave (S : MS) : MS := if (xmLeave1 (xmPopS S)).1 7 0 6 = 0 then wL (xmLeave1 (xmPopS S)) 7 0 14 (xmPopV S) else xmPush (xmLeave1 (xmPopS S)) (xmPopV S)
theorem m_Mach_leave (S : MS) : MetE y_Mach_leave c_Mach_leave 4 (none) 1 22 [.inr (7, 0)] S (none) (xmLeave S) := by
  refine MetS.of (lv0 := [some (.inr (7, 0)), none, none, none]) pn_Mach rfl (Nat.le_of_ble_eq_true rfl) (fun p0 l0 e0 s0 m0 args below meth c0 G X => ?_)
  refine ws_aload_n (i := 0) X d_Mach_leave_0 rfl rfl ?_
  refine ws_callV1 X (m_Mach_pop _) cv_Mach_pop ml_Mach_100 ob7 rfl rfl (Nat.le_of_ble_eq_true rfl) ⟨Nat.le_of_ble_eq_true rfl, Nat.le_of_ble_eq_true rfl⟩ ⟨Nat.zero_le _, Nat.zero_le _⟩ d_Mach_leave_1 ?_
  refine ws_lstn_1 X rfl d_Mach_leave_4 (by decide) ?_
  refine ws_aload_n (i := 0) X d_Mach_leave_5 rfl rfl ?_
  refine ws_getI X fl_Mach_54 ob7 d_Mach_leave_6 ?_
  refine ws_iconst (v := 1) X d_Mach_leave_9 rfl ?_
  refine ws_isub X d_Mach_leave_10 ?_
  refine ws_istn_3 X rfl d_Mach_leave_11 (by decide) ?_
  refine ws_iload_n (i := 3) X d_Mach_leave_12 rfl rfl ?_
  refine ws_if_lt X d_Mach_leave_13 (fun h13 => ?_) (fun h13 => ?_)
  · refine ws_aload_n (i := 0) X d_Mach_leave_37 rfl rfl ?_
    refine ws_getI X fl_Mach_54 ob7 d_Mach_leave_38 ?_
    refine ws_if_ne X d_Mach_leave_41 (fun h41 => ?_) (fun h41 => ?_)
    · refine ws_aload_n (i := 0) X d_Mach_leave_52 rfl rfl ?_
      refine ws_lload_n (i := 1) X d_Mach_leave_53 rfl rfl ?_
      refine ws_callV0 X (m_Mach_push _ _) cv_Mach_push ml_Mach_104 ob7 rfl rfl (Nat.le_of_ble_eq_true rfl) ⟨Nat.le_of_ble_eq_true rfl, Nat.le_of_ble_eq_true rfl⟩ ⟨Nat.zero_le _, Nat.zero_le _⟩ d_Mach_leave_54 ?_
      refine ws_vret X d_Mach_leave_57 ?_
      exact ⟨rfl, by simp [xmLeave, xmLeave1, eq_true h13, eq_false h41]⟩
    · refine ws_aload_n (i := 0) X d_Mach_leave_44 rfl rfl ?_
      refine ws_lload_n (i := 1) X d_Mach_leave_45 rfl rfl ?_
      refine ws_putL X fl_Mach_47 ob7 d_Mach_leave_46 ?_
      refine ws_goto X d_Mach_leave_49 ?_
      refine ws_vret X d_Mach_leave_57 ?_
      exact ⟨rfl, by simp [xmLeave, xmLeave1, eq_true h13, eq_true h41]⟩
  · refine ws_iload_n (i := 3) X d_Mach_leave_16 rfl rfl ?_
    refine ws_bipush (v := 8) X d_Mach_leave_17 rfl ?_
    refine ws_icmp_ge X d_Mach_leave_19 (fun h19 => ?_) (fun h19 => ?_)
    · refine ws_aload_n (i := 0) X d_Mach_leave_37 rfl rfl ?_
      refine ws_getI X fl_Mach_54 ob7 d_Mach_leave_38 ?_
      refine ws_if_ne X d_Mach_leave_41 (fun h41 => ?_) (fun h41 => ?_)
      · refine ws_aload_n (i := 0) X d_Mach_leave_52 rfl rfl ?_
        refine ws_lload_n (i := 1) X d_Mach_leave_53 rfl rfl ?_
        refine ws_callV0 X (m_Mach_push _ _) cv_Mach_push ml_Mach_104 ob7 rfl rfl (Nat.le_of_ble_eq_true rfl) ⟨Nat.le_of_ble_eq_true rfl, Nat.le_of_ble_eq_true rfl⟩ ⟨Nat.zero_le _, Nat.zero_le _⟩ d_Mach_leave_54 ?_
        refine ws_vret X d_Mach_leave_57 ?_
        exact ⟨rfl, by simp [xmLeave, xmLeave1, eq_false h13, eq_true h19, eq_false h41]⟩
      · refine ws_aload_n (i := 0) X d_Mach_leave_44 rfl rfl ?_
        refine ws_lload_n (i := 1) X d_Mach_leave_45 rfl rfl ?_
        refine ws_putL X fl_Mach_47 ob7 d_Mach_leave_46 ?_
        refine ws_goto X d_Mach_leave_49 ?_
        refine ws_vret X d_Mach_leave_57 ?_
        exact ⟨rfl, by simp [xmLeave, xmLeave1, eq_false h13, eq_true h19, eq_true h41]⟩
    · refine ws_aload_n (i := 0) X d_Mach_leave_22 rfl rfl ?_
      refine ws_aload_n (i := 0) X d_Mach_leave_23 rfl rfl ?_
      refine ws_getR X fl_Mach_28 ob7 d_Mach_leave_24 ?_
      refine ws_iload_n (i := 3) X d_Mach_leave_27 rfl rfl ?_
      refine ws_iald X ak23 ob23 (in_of3 (N := 8) rfl (by assumption) (by assumption)) d_Mach_leave_28 ?_
      refine ws_putI X fl_Mach_51 ob7 d_Mach_leave_29 ?_
      refine ws_aload_n (i := 0) X d_Mach_leave_32 rfl rfl ?_
      refine ws_iload_n (i := 3) X d_Mach_leave_33 rfl rfl ?_
      refine ws_putI X fl_Mach_54 ob7 d_Mach_leave_34 ?_
      refine ws_aload_n (i := 0) X d_Mach_leave_37 rfl rfl ?_
      refine ws_getI X fl_Mach_54 ob7 d_Mach_leave_38 ?_
      refine ws_if_ne X d_Mach_leave_41 (fun h41 => ?_) (fun h41 => ?_)
      · refine ws_aload_n (i := 0) X d_Mach_leave_52 rfl rfl ?_
        refine ws_lload_n (i := 1) X d_Mach_leave_53 rfl rfl ?_
        refine ws_callV0 X (m_Mach_push _ _) cv_Mach_push ml_Mach_104 ob7 rfl rfl (Nat.le_of_ble_eq_true rfl) ⟨Nat.le_of_ble_eq_true rfl, Nat.le_of_ble_eq_true rfl⟩ ⟨Nat.zero_le _, Nat.zero_le _⟩ d_Mach_leave_54 ?_
        refine ws_vret X d_Mach_leave_57 ?_
        exact ⟨rfl, by simp [xmLeave, xmLeave1, eq_false h13, eq_false h19, eq_false h41]⟩
      · refine ws_aload_n (i := 0) X d_Mach_leave_44 rfl rfl ?_
        refine ws_lload_n (i := 1) X d_Mach_leave_45 rfl rfl ?_
        refine ws_putL X fl_Mach_47 ob7 d_Mach_leave_46 ?_
        refine ws_goto X d_Mach_leave_49 ?_
        refine ws_vret X d_Mach_leave_57 ?_
        exact ⟨rfl, by simp [xmLeave, xmLeave1, eq_false h13, eq_false h19, eq_true h41]⟩

def xmArg (S : MS) (q : Nat) (i : Int32) (b : Int64) : MS := if S.1 4 q 1 ≤ i then S else if kLocal (S.1 4 q 8) i = 1 then xmSetLoc S i b.toInt32.toInt64 else xmSetLoc S i (dCanon b)
theorem m_Mach_giveArgument (S : MS) (q : Nat) (hq : q < 5) (i : Int32) (b : Int64) : MetE y_Mach_giveArgument c_Mach_giveArgument 5 (none) 2 42 [.inr (7, 0), .inr (4, q), .inl (.int i), .inl (.long b)] S (none) (xmArg S q i b) := by
  refine MetS.of (lv0 := [some (.inr (7, 0)), some (.inr (4, q)), some (.inl (.int i)), some (.inl (.long b)), none]) pn_Mach rfl (Nat.le_of_ble_eq_true rfl) (fun p0 l0 e0 s0 m0 args below meth c0 G X => ?_)
  refine ws_iload_n (i := 2) X d_Mach_giveArgument_0 rfl rfl ?_
  refine ws_aload_n (i := 1) X d_Mach_giveArgument_1 rfl rfl ?_
  refine ws_getI X fl_Mach_61 (ob4 (by assumption)) d_Mach_giveArgument_2 ?_
  refine ws_icmp_ge X d_Mach_giveArgument_5 (fun h5 => ?_) (fun h5 => ?_)
  · refine ws_vret X d_Mach_giveArgument_32 ?_
    exact ⟨rfl, by simp [xmArg, eq_true h5]⟩
  · refine ws_aload_n (i := 0) X d_Mach_giveArgument_8 rfl rfl ?_
    refine ws_iload_n (i := 2) X d_Mach_giveArgument_9 rfl rfl ?_
    refine ws_aload_n (i := 1) X d_Mach_giveArgument_10 rfl rfl ?_
    refine ws_iload_n (i := 2) X d_Mach_giveArgument_11 rfl rfl ?_
    refine ws_callV1 X (m_Meth_takenKind _ _ (by assumption) _) cv_Meth_takenKind ml_Mach_66 (ob4 (by assumption)) rfl rfl (Nat.le_of_ble_eq_true rfl) ⟨Nat.le_of_ble_eq_true rfl, Nat.le_of_ble_eq_true rfl⟩ ⟨Nat.zero_le _, Nat.zero_le _⟩ d_Mach_giveArgument_12 ?_
    refine ws_iconst (v := 1) X d_Mach_giveArgument_15 rfl ?_
    refine ws_icmp_ne X d_Mach_giveArgument_16 (fun h16 => ?_) (fun h16 => ?_)
    · refine ws_lload_n (i := 3) X d_Mach_giveArgument_25 rfl rfl ?_
      refine ws_callS1 X (m_Dbl_canonical _ _) cs_Dbl_canonical ml_Mach_70 rfl rfl (Nat.le_of_ble_eq_true rfl) ⟨Nat.le_of_ble_eq_true rfl, Nat.le_of_ble_eq_true rfl⟩ ⟨Nat.zero_le _, Nat.zero_le _⟩ d_Mach_giveArgument_26 ?_
      refine ws_callV0 X (m_Mach_setLocal _ _ _) cv_Mach_setLocal ml_Mach_76 ob7 rfl rfl (Nat.le_of_ble_eq_true rfl) ⟨Nat.le_of_ble_eq_true rfl, Nat.le_of_ble_eq_true rfl⟩ ⟨Nat.zero_le _, Nat.zero_le _⟩ d_Mach_giveArgument_29 ?_
      refine ws_vret X d_Mach_giveArgument_32 ?_
      exact ⟨rfl, by simp [xmArg, eq_false h5, eq_false h16]⟩
    · refine ws_lload_n (i := 3) X d_Mach_giveArgument_19 rfl rfl ?_
      refine ws_l2i X d_Mach_giveArgument_20 ?_
      refine ws_i2l X d_Mach_giveArgument_21 ?_
      refine ws_goto X d_Mach_giveArgument_22 ?_
      refine ws_callV0 X (m_Mach_setLocal _ _ _) cv_Mach_setLocal ml_Mach_76 ob7 rfl rfl (Nat.le_of_ble_eq_true rfl) ⟨Nat.le_of_ble_eq_true rfl, Nat.le_of_ble_eq_true rfl⟩ ⟨Nat.zero_le _, Nat.zero_le _⟩ d_Mach_giveArgument_29 ?_
      refine ws_vret X d_Mach_giveArgument_32 ?_
      exact ⟨rfl, by simp [xmArg, eq_false h5, eq_true h16]⟩

def xmTabOk (i : Int32) : Bool := decide (¬ i < 0) && decide (¬ 8 ≤ i)
def xmTab (S : MS) (i : Int32) (v : Int64) : MS := if xmTabOk i = true then wL S 18 0 i.toNatClampNeg v else S
theorem m_Mach_setTable (S : MS) (i : Int32) (v : Int64) : MetE y_Mach_setTable c_Mach_setTable 5 ((some .boolean)) 0 0 [.inr (7, 0), .inl (.int i), .inl (.long v)] S (some (.inl (.int (bI (xmTabOk i))))) (xmTab S i v) := by
  refine MetS.of (lv0 := [some (.inr (7, 0)), some (.inl (.int i)), some (.inl (.long v)), none, none]) pn_Mach rfl (Nat.le_of_ble_eq_true rfl) (fun p0 l0 e0 s0 m0 args below meth c0 G X => ?_)
  refine ws_iload_n (i := 1) X d_Mach_setTable_0 rfl rfl ?_
  refine ws_if_lt X d_Mach_setTable_1 (fun h1 => ?_) (fun h1 => ?_)
  · refine ws_iconst (v := 0) X d_Mach_setTable_14 rfl ?_
    refine ws_ist_4 X rfl d_Mach_setTable_15 (by decide) ?_
    refine ws_iload (i := 4) X d_Mach_setTable_17 rfl ?_
    refine ws_if_eq X d_Mach_setTable_19 (fun h19 => ?_) (fun h19 => ?_)
    · refine ws_iload (i := 4) X d_Mach_setTable_29 rfl ?_
      refine ws_zret X (rfl) d_Mach_setTable_31 ?_
      exact ⟨by simp [xmTabOk, bI, eq_true h1, eq_true h19], by simp [xmTab, xmTabOk, eq_true h1, eq_true h19]⟩
    · exact absurd h19 (by decide)
  · refine ws_iload_n (i := 1) X d_Mach_setTable_4 rfl rfl ?_
    refine ws_bipush (v := 8) X d_Mach_setTable_5 rfl ?_
    refine ws_icmp_ge X d_Mach_setTable_7 (fun h7 => ?_) (fun h7 => ?_)
    · refine ws_iconst (v := 0) X d_Mach_setTable_14 rfl ?_
      refine ws_ist_4 X rfl d_Mach_setTable_15 (by decide) ?_
      refine ws_iload (i := 4) X d_Mach_setTable_17 rfl ?_
      refine ws_if_eq X d_Mach_setTable_19 (fun h19 => ?_) (fun h19 => ?_)
      · refine ws_iload (i := 4) X d_Mach_setTable_29 rfl ?_
        refine ws_zret X (rfl) d_Mach_setTable_31 ?_
        exact ⟨by simp [xmTabOk, bI, eq_false h1, eq_true h7, eq_true h19], by simp [xmTab, xmTabOk, eq_false h1, eq_true h7, eq_true h19]⟩
      · exact absurd h19 (by decide)
    · refine ws_iconst (v := 1) X d_Mach_setTable_10 rfl ?_
      refine ws_goto X d_Mach_setTable_11 ?_
      refine ws_ist_4 X rfl d_Mach_setTable_15 (by decide) ?_
      refine ws_iload (i := 4) X d_Mach_setTable_17 rfl ?_
      refine ws_if_eq X d_Mach_setTable_19 (fun h19 => ?_) (fun h19 => ?_)
      · exact absurd h19 (by decide)
      · refine ws_aload_n (i := 0) X d_Mach_setTable_22 rfl rfl ?_
        refine ws_getR X fl_Mach_11 ob7 d_Mach_setTable_23 ?_
        refine ws_iload_n (i := 1) X d_Mach_setTable_26 rfl rfl ?_
        refine ws_lload_n (i := 2) X d_Mach_setTable_27 rfl rfl ?_
        refine ws_last X ak18 ob18 (in_of3 (N := 8) rfl (by assumption) (by assumption)) d_Mach_setTable_28 ?_
        refine ws_iload (i := 4) X d_Mach_setTable_29 rfl ?_
        refine ws_zret X (rfl) d_Mach_setTable_31 ?_
        exact ⟨by simp [xmTabOk, bI, eq_false h1, eq_false h7, eq_false h19], by simp [xmTab, xmTabOk, eq_false h1, eq_false h7, eq_false h19]⟩

def xmFromTab (S : MS) (i : Int64) : MS := if i < 0 then xmFail S 2 else if 8 ≤ i then xmFail S 2 else xmPush S (S.2.1 18 0 i.toInt32.toNatClampNeg)
theorem in_L8 {i : Int64} (h1 : ¬ i < 0) (h2 : ¬ 8 ≤ i) : vp_in i.toInt32 8 := by
  rw [vp_in_iff]
  have h1 := Int64.le_iff_toInt_le.mp (Int64.not_lt.mp h1)
  have h2 := Int64.lt_iff_toInt_lt.mp (Int64.not_le.mp h2)
  have e8 : (8 : Int64).toInt = 8 := rfl
  have e0 : (0 : Int64).toInt = 0 := rfl
  rw [e8] at h2
  rw [e0] at h1
  have e : i.toInt32.toInt = i.toInt := by
    rw [Int64.toInt_toInt32]
    exact Int.bmod_eq_of_le (by omega) (by omega)
  rw [e]
  exact ⟨h1, h2⟩
theorem m_Mach_pushFromTable (S : MS) (i : Int64) : MetE y_Mach_pushFromTable c_Mach_pushFromTable 3 (none) 1 22 [.inr (7, 0), .inl (.long i)] S (none) (xmFromTab S i) := by
  refine MetS.of (lv0 := [some (.inr (7, 0)), some (.inl (.long i)), none]) pn_Mach rfl (Nat.le_of_ble_eq_true rfl) (fun p0 l0 e0 s0 m0 args below meth c0 G X => ?_)
  refine ws_lload_n (i := 1) X d_Mach_pushFromTable_0 rfl rfl ?_
  refine ws_lconst (v := 0) X d_Mach_pushFromTable_1 rfl ?_
  refine ws_lcmp_lt X d_Mach_pushFromTable_2 d_Mach_pushFromTable_3 (fun h2 => ?_) (fun h2 => ?_)
  · refine ws_aload_n (i := 0) X d_Mach_pushFromTable_28 rfl rfl ?_
    refine ws_iconst (v := 2) X d_Mach_pushFromTable_29 rfl ?_
    refine ws_callV0 X (m_Mach_fail _ _) cv_Mach_fail ml_Mach_91 ob7 rfl rfl (Nat.le_of_ble_eq_true rfl) ⟨Nat.le_of_ble_eq_true rfl, Nat.le_of_ble_eq_true rfl⟩ ⟨Nat.zero_le _, Nat.zero_le _⟩ d_Mach_pushFromTable_30 ?_
    refine ws_vret X d_Mach_pushFromTable_33 ?_
    exact ⟨rfl, by simp [xmFromTab, eq_true h2]⟩
  · refine ws_lload_n (i := 1) X d_Mach_pushFromTable_6 rfl rfl ?_
    refine ws_ldc2 X d_Mach_pushFromTable_7 ct_Mach_196 ?_
    refine ws_lcmp_ge X d_Mach_pushFromTable_10 d_Mach_pushFromTable_11 (fun h10 => ?_) (fun h10 => ?_)
    · refine ws_aload_n (i := 0) X d_Mach_pushFromTable_28 rfl rfl ?_
      refine ws_iconst (v := 2) X d_Mach_pushFromTable_29 rfl ?_
      refine ws_callV0 X (m_Mach_fail _ _) cv_Mach_fail ml_Mach_91 ob7 rfl rfl (Nat.le_of_ble_eq_true rfl) ⟨Nat.le_of_ble_eq_true rfl, Nat.le_of_ble_eq_true rfl⟩ ⟨Nat.zero_le _, Nat.zero_le _⟩ d_Mach_pushFromTable_30 ?_
      refine ws_vret X d_Mach_pushFromTable_33 ?_
      exact ⟨rfl, by simp [xmFromTab, eq_false h2, eq_true h10]⟩
    · refine ws_aload_n (i := 0) X d_Mach_pushFromTable_14 rfl rfl ?_
      refine ws_aload_n (i := 0) X d_Mach_pushFromTable_15 rfl rfl ?_
      refine ws_getR X fl_Mach_11 ob7 d_Mach_pushFromTable_16 ?_
      refine ws_lload_n (i := 1) X d_Mach_pushFromTable_19 rfl rfl ?_
      refine ws_l2i X d_Mach_pushFromTable_20 ?_
      refine ws_lald X ak18 ob18 (in_L8 (by assumption) (by assumption)) d_Mach_pushFromTable_21 ?_
      refine ws_callV0 X (m_Mach_push _ _) cv_Mach_push ml_Mach_104 ob7 rfl rfl (Nat.le_of_ble_eq_true rfl) ⟨Nat.le_of_ble_eq_true rfl, Nat.le_of_ble_eq_true rfl⟩ ⟨Nat.zero_le _, Nat.zero_le _⟩ d_Mach_pushFromTable_22 ?_
      refine ws_goto X d_Mach_pushFromTable_25 ?_
      refine ws_vret X d_Mach_pushFromTable_33 ?_
      exact ⟨rfl, by simp [xmFromTab, eq_false h2, eq_false h10]⟩

def xmListed (S : MS) (w : Int64) : MS := xmPush (xmPopS S) (if w = 6382195 then dAbs (xmPopV S) else if w = 1919905652 then dSqrt (xmPopV S) else if w = 439905906546 then dFloor (xmPopV S) else dSign (xmPopV S))
theorem m_Mach_runListed (S : MS) (w : Int64) : MetE y_Mach_runListed c_Mach_runListed 5 (none) 3 83 [.inr (7, 0), .inl (.long w)] S (none) (xmListed S w) := by
  refine MetS.of (lv0 := [some (.inr (7, 0)), some (.inl (.long w)), none, none, none]) pn_Mach rfl (Nat.le_of_ble_eq_true rfl) (fun p0 l0 e0 s0 m0 args below meth c0 G X => ?_)
  refine ws_aload_n (i := 0) X d_Mach_runListed_0 rfl rfl ?_
  refine ws_callV1 X (m_Mach_pop _) cv_Mach_pop ml_Mach_100 ob7 rfl rfl (Nat.le_of_ble_eq_true rfl) ⟨Nat.le_of_ble_eq_true rfl, Nat.le_of_ble_eq_true rfl⟩ ⟨Nat.zero_le _, Nat.zero_le _⟩ d_Mach_runListed_1 ?_
  refine ws_lstn_3 X rfl d_Mach_runListed_4 (by decide) ?_
  refine ws_lload_n (i := 1) X d_Mach_runListed_5 rfl rfl ?_
  refine ws_ldc2 X d_Mach_runListed_6 ct_Mach_198 ?_
  refine ws_lcmp_ne X d_Mach_runListed_9 d_Mach_runListed_10 (fun h9 => ?_) (fun h9 => ?_)
  · refine ws_lload_n (i := 1) X d_Mach_runListed_24 rfl rfl ?_
    refine ws_ldc2 X d_Mach_runListed_25 ct_Mach_203 ?_
    refine ws_lcmp_ne X d_Mach_runListed_28 d_Mach_runListed_29 (fun h28 => ?_) (fun h28 => ?_)
    · refine ws_lload_n (i := 1) X d_Mach_runListed_43 rfl rfl ?_
      refine ws_ldc2 X d_Mach_runListed_44 ct_Mach_208 ?_
      refine ws_lcmp_ne X d_Mach_runListed_47 d_Mach_runListed_48 (fun h47 => ?_) (fun h47 => ?_)
      · refine ws_aload_n (i := 0) X d_Mach_runListed_62 rfl rfl ?_
        refine ws_lload_n (i := 3) X d_Mach_runListed_63 rfl rfl ?_
        refine ws_callS1 X (m_Dbl_sign _ _) cs_Dbl_sign ml_Mach_213 rfl rfl (Nat.le_of_ble_eq_true rfl) ⟨Nat.le_of_ble_eq_true rfl, Nat.le_of_ble_eq_true rfl⟩ ⟨Nat.zero_le _, Nat.zero_le _⟩ d_Mach_runListed_64 ?_
        refine ws_callV0 X (m_Mach_push _ _) cv_Mach_push ml_Mach_104 ob7 rfl rfl (Nat.le_of_ble_eq_true rfl) ⟨Nat.le_of_ble_eq_true rfl, Nat.le_of_ble_eq_true rfl⟩ ⟨Nat.zero_le _, Nat.zero_le _⟩ d_Mach_runListed_67 ?_
        refine ws_vret X d_Mach_runListed_70 ?_
        exact ⟨rfl, by simp [xmListed, eq_false h9, eq_false h28, eq_false h47]⟩
      · refine ws_aload_n (i := 0) X d_Mach_runListed_51 rfl rfl ?_
        refine ws_lload_n (i := 3) X d_Mach_runListed_52 rfl rfl ?_
        refine ws_callS1 X (m_Dbl_floor _ _) cs_Dbl_floor ml_Mach_210 rfl rfl (Nat.le_of_ble_eq_true rfl) ⟨Nat.le_of_ble_eq_true rfl, Nat.le_of_ble_eq_true rfl⟩ ⟨Nat.zero_le _, Nat.zero_le _⟩ d_Mach_runListed_53 ?_
        refine ws_callV0 X (m_Mach_push _ _) cv_Mach_push ml_Mach_104 ob7 rfl rfl (Nat.le_of_ble_eq_true rfl) ⟨Nat.le_of_ble_eq_true rfl, Nat.le_of_ble_eq_true rfl⟩ ⟨Nat.zero_le _, Nat.zero_le _⟩ d_Mach_runListed_56 ?_
        refine ws_goto X d_Mach_runListed_59 ?_
        refine ws_vret X d_Mach_runListed_70 ?_
        exact ⟨rfl, by simp [xmListed, eq_false h9, eq_false h28, eq_true h47]⟩
    · refine ws_aload_n (i := 0) X d_Mach_runListed_32 rfl rfl ?_
      refine ws_lload_n (i := 3) X d_Mach_runListed_33 rfl rfl ?_
      refine ws_callS1 X (m_Dbl_root _ _) cs_Dbl_root ml_Mach_205 rfl rfl (Nat.le_of_ble_eq_true rfl) ⟨Nat.le_of_ble_eq_true rfl, Nat.le_of_ble_eq_true rfl⟩ ⟨Nat.zero_le _, Nat.zero_le _⟩ d_Mach_runListed_34 ?_
      refine ws_callV0 X (m_Mach_push _ _) cv_Mach_push ml_Mach_104 ob7 rfl rfl (Nat.le_of_ble_eq_true rfl) ⟨Nat.le_of_ble_eq_true rfl, Nat.le_of_ble_eq_true rfl⟩ ⟨Nat.zero_le _, Nat.zero_le _⟩ d_Mach_runListed_37 ?_
      refine ws_goto X d_Mach_runListed_40 ?_
      refine ws_vret X d_Mach_runListed_70 ?_
      exact ⟨rfl, by simp [xmListed, eq_false h9, eq_true h28]⟩
  · refine ws_aload_n (i := 0) X d_Mach_runListed_13 rfl rfl ?_
    refine ws_lload_n (i := 3) X d_Mach_runListed_14 rfl rfl ?_
    refine ws_callS1 X (m_Dbl_absolute _ _) cs_Dbl_absolute ml_Mach_200 rfl rfl (Nat.le_of_ble_eq_true rfl) ⟨Nat.le_of_ble_eq_true rfl, Nat.le_of_ble_eq_true rfl⟩ ⟨Nat.zero_le _, Nat.zero_le _⟩ d_Mach_runListed_15 ?_
    refine ws_callV0 X (m_Mach_push _ _) cv_Mach_push ml_Mach_104 ob7 rfl rfl (Nat.le_of_ble_eq_true rfl) ⟨Nat.le_of_ble_eq_true rfl, Nat.le_of_ble_eq_true rfl⟩ ⟨Nat.zero_le _, Nat.zero_le _⟩ d_Mach_runListed_18 ?_
    refine ws_goto X d_Mach_runListed_21 ?_
    refine ws_vret X d_Mach_runListed_70 ?_
    exact ⟨rfl, by simp [xmListed, eq_true h9]⟩

def xmInts (S : MS) (o : Int32) : MS :=
  if o = 7 then xmPush (xmPopS (xmPopS S)) ((xmPopV (xmPopS S)).toInt32 + (xmPopV S).toInt32).toInt64
  else if o = 8 then xmPush (xmPopS (xmPopS S)) ((xmPopV (xmPopS S)).toInt32 - (xmPopV S).toInt32).toInt64
  else if o = 9 then xmPush (xmPopS (xmPopS S)) ((xmPopV (xmPopS S)).toInt32 * (xmPopV S).toInt32).toInt64
  else if (xmPopV S).toInt32 = 0 then xmFail (xmPopS (xmPopS S)) 1
  else xmPush (xmPopS (xmPopS S)) ((xmPopV (xmPopS S)).toInt32 / (xmPopV S).toInt32).toInt64
theorem m_Mach_runInts (S : MS) (o : Int32) : MetE y_Mach_runInts c_Mach_runInts 4 (none) 1 22 [.inr (7, 0), .inl (.int o)] S (none) (xmInts S o) := by
  refine MetS.of (lv0 := [some (.inr (7, 0)), some (.inl (.int o)), none, none]) pn_Mach rfl (Nat.le_of_ble_eq_true rfl) (fun p0 l0 e0 s0 m0 args below meth c0 G X => ?_)
  refine ws_aload_n (i := 0) X d_Mach_runInts_0 rfl rfl ?_
  refine ws_callV1 X (m_Mach_pop _) cv_Mach_pop ml_Mach_100 ob7 rfl rfl (Nat.le_of_ble_eq_true rfl) ⟨Nat.le_of_ble_eq_true rfl, Nat.le_of_ble_eq_true rfl⟩ ⟨Nat.zero_le _, Nat.zero_le _⟩ d_Mach_runInts_1 ?_
  refine ws_l2i X d_Mach_runInts_4 ?_
  refine ws_istn_2 X rfl d_Mach_runInts_5 (by decide) ?_
  refine ws_aload_n (i := 0) X d_Mach_runInts_6 rfl rfl ?_
  refine ws_callV1 X (m_Mach_pop _) cv_Mach_pop ml_Mach_100 ob7 rfl rfl (Nat.le_of_ble_eq_true rfl) ⟨Nat.le_of_ble_eq_true rfl, Nat.le_of_ble_eq_true rfl⟩ ⟨Nat.zero_le _, Nat.zero_le _⟩ d_Mach_runInts_7 ?_
  refine ws_l2i X d_Mach_runInts_10 ?_
  refine ws_istn_3 X rfl d_Mach_runInts_11 (by decide) ?_
  refine ws_iload_n (i := 1) X d_Mach_runInts_12 rfl rfl ?_
  refine ws_tsw X [(7, 40), (8, 51), (9, 62)] d_Mach_runInts_13 (fun j hj => by
      have hj2 : j < 3 := by omega
      match j, hj2 with
      | 0, _ => exact ⟨_, 40, rfl, rfl, by decide⟩
      | 1, _ => exact ⟨_, 51, rfl, rfl, by decide⟩
      | 2, _ => exact ⟨_, 62, rfl, rfl, by decide⟩) (tgt := 73) rfl (And.intro (fun h13 => ?_) (And.intro (fun h13 => ?_) (And.intro (fun h13 => ?_) (trivial)))) (fun h13 => ?_)
  · have h13 : o = 7 := h13
    subst h13
    have g1 : True := trivial
    have g2 : True := trivial
    have g3 : True := trivial
    refine ws_aload_n (i := 0) X d_Mach_runInts_40 rfl rfl ?_
    refine ws_iload_n (i := 3) X d_Mach_runInts_41 rfl rfl ?_
    refine ws_iload_n (i := 2) X d_Mach_runInts_42 rfl rfl ?_
    refine ws_iadd X d_Mach_runInts_43 ?_
    refine ws_i2l X d_Mach_runInts_44 ?_
    refine ws_callV0 X (m_Mach_push _ _) cv_Mach_push ml_Mach_104 ob7 rfl rfl (Nat.le_of_ble_eq_true rfl) ⟨Nat.le_of_ble_eq_true rfl, Nat.le_of_ble_eq_true rfl⟩ ⟨Nat.zero_le _, Nat.zero_le _⟩ d_Mach_runInts_45 ?_
    refine ws_goto X d_Mach_runInts_48 ?_
    refine ws_vret X d_Mach_runInts_93 ?_
    exact ⟨rfl, by simp [xmInts, g1, g2, g3, if_true]⟩
  · have h13 : o = 8 := h13
    subst h13
    have g1 : True := trivial
    have g2 : True := trivial
    have g3 : True := trivial
    refine ws_aload_n (i := 0) X d_Mach_runInts_51 rfl rfl ?_
    refine ws_iload_n (i := 3) X d_Mach_runInts_52 rfl rfl ?_
    refine ws_iload_n (i := 2) X d_Mach_runInts_53 rfl rfl ?_
    refine ws_isub X d_Mach_runInts_54 ?_
    refine ws_i2l X d_Mach_runInts_55 ?_
    refine ws_callV0 X (m_Mach_push _ _) cv_Mach_push ml_Mach_104 ob7 rfl rfl (Nat.le_of_ble_eq_true rfl) ⟨Nat.le_of_ble_eq_true rfl, Nat.le_of_ble_eq_true rfl⟩ ⟨Nat.zero_le _, Nat.zero_le _⟩ d_Mach_runInts_56 ?_
    refine ws_goto X d_Mach_runInts_59 ?_
    refine ws_vret X d_Mach_runInts_93 ?_
    exact ⟨rfl, by simp [xmInts, g1, g2, g3, if_true]⟩
  · have h13 : o = 9 := h13
    subst h13
    have g1 : True := trivial
    have g2 : True := trivial
    have g3 : True := trivial
    refine ws_aload_n (i := 0) X d_Mach_runInts_62 rfl rfl ?_
    refine ws_iload_n (i := 3) X d_Mach_runInts_63 rfl rfl ?_
    refine ws_iload_n (i := 2) X d_Mach_runInts_64 rfl rfl ?_
    refine ws_imul X d_Mach_runInts_65 ?_
    refine ws_i2l X d_Mach_runInts_66 ?_
    refine ws_callV0 X (m_Mach_push _ _) cv_Mach_push ml_Mach_104 ob7 rfl rfl (Nat.le_of_ble_eq_true rfl) ⟨Nat.le_of_ble_eq_true rfl, Nat.le_of_ble_eq_true rfl⟩ ⟨Nat.zero_le _, Nat.zero_le _⟩ d_Mach_runInts_67 ?_
    refine ws_goto X d_Mach_runInts_70 ?_
    refine ws_vret X d_Mach_runInts_93 ?_
    exact ⟨rfl, by simp [xmInts, g1, g2, g3, if_true]⟩
  · have g1 : ¬ o = 7 := fun z => by rw [z] at h13; exact absurd h13 (by decide)
    have g2 : ¬ o = 8 := fun z => by rw [z] at h13; exact absurd h13 (by decide)
    have g3 : ¬ o = 9 := fun z => by rw [z] at h13; exact absurd h13 (by decide)
    refine ws_iload_n (i := 2) X d_Mach_runInts_73 rfl rfl ?_
    refine ws_if_ne X d_Mach_runInts_74 (fun h74 => ?_) (fun h74 => ?_)
    · refine ws_aload_n (i := 0) X d_Mach_runInts_85 rfl rfl ?_
      refine ws_iload_n (i := 3) X d_Mach_runInts_86 rfl rfl ?_
      refine ws_iload_n (i := 2) X d_Mach_runInts_87 rfl rfl ?_
      refine ws_idiv X d_Mach_runInts_88 (by assumption) ?_
      refine ws_i2l X d_Mach_runInts_89 ?_
      refine ws_callV0 X (m_Mach_push _ _) cv_Mach_push ml_Mach_104 ob7 rfl rfl (Nat.le_of_ble_eq_true rfl) ⟨Nat.le_of_ble_eq_true rfl, Nat.le_of_ble_eq_true rfl⟩ ⟨Nat.zero_le _, Nat.zero_le _⟩ d_Mach_runInts_90 ?_
      refine ws_vret X d_Mach_runInts_93 ?_
      exact ⟨rfl, by simp [xmInts, g1, g2, g3, eq_false h74]⟩
    · refine ws_aload_n (i := 0) X d_Mach_runInts_77 rfl rfl ?_
      refine ws_iconst (v := 1) X d_Mach_runInts_78 rfl ?_
      refine ws_callV0 X (m_Mach_fail _ _) cv_Mach_fail ml_Mach_91 ob7 rfl rfl (Nat.le_of_ble_eq_true rfl) ⟨Nat.le_of_ble_eq_true rfl, Nat.le_of_ble_eq_true rfl⟩ ⟨Nat.zero_le _, Nat.zero_le _⟩ d_Mach_runInts_79 ?_
      refine ws_goto X d_Mach_runInts_82 ?_
      refine ws_vret X d_Mach_runInts_93 ?_
      exact ⟨rfl, by simp [xmInts, g1, g2, g3, eq_true h74]⟩

def xmDbls (S : MS) (o : Int32) : MS :=
  xmPush (xmPopS (xmPopS S)) (if o = 11 then dAdd (xmPopV (xmPopS S)) (xmPopV S) else if o = 12 then dAdd (xmPopV (xmPopS S)) (dNeg (xmPopV S)) else if o = 13 then dMul (xmPopV (xmPopS S)) (xmPopV S) else dDiv (xmPopV (xmPopS S)) (xmPopV S))
theorem m_Mach_runDoubles (S : MS) (o : Int32) : MetE y_Mach_runDoubles c_Mach_runDoubles 6 (none) 3 90 [.inr (7, 0), .inl (.int o)] S (none) (xmDbls S o) := by
  refine MetS.of (lv0 := [some (.inr (7, 0)), some (.inl (.int o)), none, none, none, none]) pn_Mach rfl (Nat.le_of_ble_eq_true rfl) (fun p0 l0 e0 s0 m0 args below meth c0 G X => ?_)
  refine ws_aload_n (i := 0) X d_Mach_runDoubles_0 rfl rfl ?_
  refine ws_callV1 X (m_Mach_pop _) cv_Mach_pop ml_Mach_100 ob7 rfl rfl (Nat.le_of_ble_eq_true rfl) ⟨Nat.le_of_ble_eq_true rfl, Nat.le_of_ble_eq_true rfl⟩ ⟨Nat.zero_le _, Nat.zero_le _⟩ d_Mach_runDoubles_1 ?_
  refine ws_lstn_2 X rfl d_Mach_runDoubles_4 (by decide) ?_
  refine ws_aload_n (i := 0) X d_Mach_runDoubles_5 rfl rfl ?_
  refine ws_callV1 X (m_Mach_pop _) cv_Mach_pop ml_Mach_100 ob7 rfl rfl (Nat.le_of_ble_eq_true rfl) ⟨Nat.le_of_ble_eq_true rfl, Nat.le_of_ble_eq_true rfl⟩ ⟨Nat.zero_le _, Nat.zero_le _⟩ d_Mach_runDoubles_6 ?_
  refine ws_lst_4 X rfl d_Mach_runDoubles_9 (by decide) ?_
  refine ws_iload_n (i := 1) X d_Mach_runDoubles_11 rfl rfl ?_
  refine ws_tsw X [(11, 40), (12, 53), (13, 69)] d_Mach_runDoubles_12 (fun j hj => by
      have hj2 : j < 3 := by omega
      match j, hj2 with
      | 0, _ => exact ⟨_, 40, rfl, rfl, by decide⟩
      | 1, _ => exact ⟨_, 53, rfl, rfl, by decide⟩
      | 2, _ => exact ⟨_, 69, rfl, rfl, by decide⟩) (tgt := 82) rfl (And.intro (fun h12 => ?_) (And.intro (fun h12 => ?_) (And.intro (fun h12 => ?_) (trivial)))) (fun h12 => ?_)
  · have h12 : o = 11 := h12
    subst h12
    have g1 : True := trivial
    have g2 : True := trivial
    have g3 : True := trivial
    refine ws_aload_n (i := 0) X d_Mach_runDoubles_40 rfl rfl ?_
    refine ws_lload (i := 4) X d_Mach_runDoubles_41 rfl ?_
    refine ws_lload_n (i := 2) X d_Mach_runDoubles_43 rfl rfl ?_
    refine ws_callS1 X (m_Dbl_add _ _ _) cs_Dbl_add ml_Mach_162 rfl rfl (Nat.le_of_ble_eq_true rfl) ⟨Nat.le_of_ble_eq_true rfl, Nat.le_of_ble_eq_true rfl⟩ ⟨Nat.zero_le _, Nat.zero_le _⟩ d_Mach_runDoubles_44 ?_
    refine ws_callV0 X (m_Mach_push _ _) cv_Mach_push ml_Mach_104 ob7 rfl rfl (Nat.le_of_ble_eq_true rfl) ⟨Nat.le_of_ble_eq_true rfl, Nat.le_of_ble_eq_true rfl⟩ ⟨Nat.zero_le _, Nat.zero_le _⟩ d_Mach_runDoubles_47 ?_
    refine ws_goto X d_Mach_runDoubles_50 ?_
    refine ws_vret X d_Mach_runDoubles_92 ?_
    exact ⟨rfl, by simp [xmDbls, g1, g2, g3]⟩
  · have h12 : o = 12 := h12
    subst h12
    have g1 : True := trivial
    have g2 : True := trivial
    have g3 : True := trivial
    refine ws_aload_n (i := 0) X d_Mach_runDoubles_53 rfl rfl ?_
    refine ws_lload (i := 4) X d_Mach_runDoubles_54 rfl ?_
    refine ws_lload_n (i := 2) X d_Mach_runDoubles_56 rfl rfl ?_
    refine ws_callS1 X (m_Dbl_negate _ _) cs_Dbl_negate ml_Mach_166 rfl rfl (Nat.le_of_ble_eq_true rfl) ⟨Nat.le_of_ble_eq_true rfl, Nat.le_of_ble_eq_true rfl⟩ ⟨Nat.zero_le _, Nat.zero_le _⟩ d_Mach_runDoubles_57 ?_
    refine ws_callS1 X (m_Dbl_add _ _ _) cs_Dbl_add ml_Mach_162 rfl rfl (Nat.le_of_ble_eq_true rfl) ⟨Nat.le_of_ble_eq_true rfl, Nat.le_of_ble_eq_true rfl⟩ ⟨Nat.zero_le _, Nat.zero_le _⟩ d_Mach_runDoubles_60 ?_
    refine ws_callV0 X (m_Mach_push _ _) cv_Mach_push ml_Mach_104 ob7 rfl rfl (Nat.le_of_ble_eq_true rfl) ⟨Nat.le_of_ble_eq_true rfl, Nat.le_of_ble_eq_true rfl⟩ ⟨Nat.zero_le _, Nat.zero_le _⟩ d_Mach_runDoubles_63 ?_
    refine ws_goto X d_Mach_runDoubles_66 ?_
    refine ws_vret X d_Mach_runDoubles_92 ?_
    exact ⟨rfl, by simp [xmDbls, g1, g2, g3]⟩
  · have h12 : o = 13 := h12
    subst h12
    have g1 : True := trivial
    have g2 : True := trivial
    have g3 : True := trivial
    refine ws_aload_n (i := 0) X d_Mach_runDoubles_69 rfl rfl ?_
    refine ws_lload (i := 4) X d_Mach_runDoubles_70 rfl ?_
    refine ws_lload_n (i := 2) X d_Mach_runDoubles_72 rfl rfl ?_
    refine ws_callS1 X (m_Dbl_multiply _ _ _) cs_Dbl_multiply ml_Mach_169 rfl rfl (Nat.le_of_ble_eq_true rfl) ⟨Nat.le_of_ble_eq_true rfl, Nat.le_of_ble_eq_true rfl⟩ ⟨Nat.zero_le _, Nat.zero_le _⟩ d_Mach_runDoubles_73 ?_
    refine ws_callV0 X (m_Mach_push _ _) cv_Mach_push ml_Mach_104 ob7 rfl rfl (Nat.le_of_ble_eq_true rfl) ⟨Nat.le_of_ble_eq_true rfl, Nat.le_of_ble_eq_true rfl⟩ ⟨Nat.zero_le _, Nat.zero_le _⟩ d_Mach_runDoubles_76 ?_
    refine ws_goto X d_Mach_runDoubles_79 ?_
    refine ws_vret X d_Mach_runDoubles_92 ?_
    exact ⟨rfl, by simp [xmDbls, g1, g2, g3]⟩
  · have g1 : ¬ o = 11 := fun z => by rw [z] at h12; exact absurd h12 (by decide)
    have g2 : ¬ o = 12 := fun z => by rw [z] at h12; exact absurd h12 (by decide)
    have g3 : ¬ o = 13 := fun z => by rw [z] at h12; exact absurd h12 (by decide)
    refine ws_aload_n (i := 0) X d_Mach_runDoubles_82 rfl rfl ?_
    refine ws_lload (i := 4) X d_Mach_runDoubles_83 rfl ?_
    refine ws_lload_n (i := 2) X d_Mach_runDoubles_85 rfl rfl ?_
    refine ws_callS1 X (m_Dbl_divide _ _ _) cs_Dbl_divide ml_Mach_172 rfl rfl (Nat.le_of_ble_eq_true rfl) ⟨Nat.le_of_ble_eq_true rfl, Nat.le_of_ble_eq_true rfl⟩ ⟨Nat.zero_le _, Nat.zero_le _⟩ d_Mach_runDoubles_86 ?_
    refine ws_callV0 X (m_Mach_push _ _) cv_Mach_push ml_Mach_104 ob7 rfl rfl (Nat.le_of_ble_eq_true rfl) ⟨Nat.le_of_ble_eq_true rfl, Nat.le_of_ble_eq_true rfl⟩ ⟨Nat.zero_le _, Nat.zero_le _⟩ d_Mach_runDoubles_89 ?_
    refine ws_vret X d_Mach_runDoubles_92 ?_
    exact ⟨rfl, by simp [xmDbls, g1, g2, g3]⟩

def xmChg (S : MS) (o : Int32) : MS :=
  if o = 15 then xmPush (xmPopS S) (dFromInt (xmPopV S).toInt32)
  else if o = 16 then xmPush (xmPopS S) (dToInt (xmPopV S)).toInt64
  else if o = 17 then xmPush (xmPopS (xmPopS S)) (if xmPopV S ≤ xmPopV (xmPopS S) then 0 else 1)
  else xmPush (xmPopS (xmPopS S)) (if dBelow (xmPopV (xmPopS S)) (xmPopV S) = true then 1 else 0)
theorem m_Mach_runChange (S : MS) (o : Int32) : MetE y_Mach_runChange c_Mach_runChange 4 (none) 3 79 [.inr (7, 0), .inl (.int o)] S (none) (xmChg S o) := by
  refine MetS.of (lv0 := [some (.inr (7, 0)), some (.inl (.int o)), none, none]) pn_Mach rfl (Nat.le_of_ble_eq_true rfl) (fun p0 l0 e0 s0 m0 args below meth c0 G X => ?_)
  refine ws_aload_n (i := 0) X d_Mach_runChange_0 rfl rfl ?_
  refine ws_callV1 X (m_Mach_pop _) cv_Mach_pop ml_Mach_100 ob7 rfl rfl (Nat.le_of_ble_eq_true rfl) ⟨Nat.le_of_ble_eq_true rfl, Nat.le_of_ble_eq_true rfl⟩ ⟨Nat.zero_le _, Nat.zero_le _⟩ d_Mach_runChange_1 ?_
  refine ws_lstn_2 X rfl d_Mach_runChange_4 (by decide) ?_
  refine ws_iload_n (i := 1) X d_Mach_runChange_5 rfl rfl ?_
  refine ws_tsw X [(15, 32), (16, 44), (17, 56)] d_Mach_runChange_6 (fun j hj => by
      have hj2 : j < 3 := by omega
      match j, hj2 with
      | 0, _ => exact ⟨_, 32, rfl, rfl, by decide⟩
      | 1, _ => exact ⟨_, 44, rfl, rfl, by decide⟩
      | 2, _ => exact ⟨_, 56, rfl, rfl, by decide⟩) (tgt := 77) rfl (And.intro (fun h6 => ?_) (And.intro (fun h6 => ?_) (And.intro (fun h6 => ?_) (trivial)))) (fun h6 => ?_)
  · have h6 : o = 15 := h6
    subst h6
    have g1 : True := trivial
    have g2 : True := trivial
    have g3 : True := trivial
    refine ws_aload_n (i := 0) X d_Mach_runChange_32 rfl rfl ?_
    refine ws_lload_n (i := 2) X d_Mach_runChange_33 rfl rfl ?_
    refine ws_l2i X d_Mach_runChange_34 ?_
    refine ws_callS1 X (m_Dbl_fromInt _ _) cs_Dbl_fromInt ml_Mach_175 rfl rfl (Nat.le_of_ble_eq_true rfl) ⟨Nat.le_of_ble_eq_true rfl, Nat.le_of_ble_eq_true rfl⟩ ⟨Nat.zero_le _, Nat.zero_le _⟩ d_Mach_runChange_35 ?_
    refine ws_callV0 X (m_Mach_push _ _) cv_Mach_push ml_Mach_104 ob7 rfl rfl (Nat.le_of_ble_eq_true rfl) ⟨Nat.le_of_ble_eq_true rfl, Nat.le_of_ble_eq_true rfl⟩ ⟨Nat.zero_le _, Nat.zero_le _⟩ d_Mach_runChange_38 ?_
    refine ws_goto X d_Mach_runChange_41 ?_
    refine ws_vret X d_Mach_runChange_97 ?_
    exact ⟨rfl, by simp [xmChg, g1, g2, g3, if_true]⟩
  · have h6 : o = 16 := h6
    subst h6
    have g1 : True := trivial
    have g2 : True := trivial
    have g3 : True := trivial
    refine ws_aload_n (i := 0) X d_Mach_runChange_44 rfl rfl ?_
    refine ws_lload_n (i := 2) X d_Mach_runChange_45 rfl rfl ?_
    refine ws_callS1 X (m_Dbl_toInt _ _) cs_Dbl_toInt ml_Mach_178 rfl rfl (Nat.le_of_ble_eq_true rfl) ⟨Nat.le_of_ble_eq_true rfl, Nat.le_of_ble_eq_true rfl⟩ ⟨Nat.zero_le _, Nat.zero_le _⟩ d_Mach_runChange_46 ?_
    refine ws_i2l X d_Mach_runChange_49 ?_
    refine ws_callV0 X (m_Mach_push _ _) cv_Mach_push ml_Mach_104 ob7 rfl rfl (Nat.le_of_ble_eq_true rfl) ⟨Nat.le_of_ble_eq_true rfl, Nat.le_of_ble_eq_true rfl⟩ ⟨Nat.zero_le _, Nat.zero_le _⟩ d_Mach_runChange_50 ?_
    refine ws_goto X d_Mach_runChange_53 ?_
    refine ws_vret X d_Mach_runChange_97 ?_
    exact ⟨rfl, by simp [xmChg, g1, g2, g3, if_true]⟩
  · have h6 : o = 17 := h6
    subst h6
    have g1 : True := trivial
    have g2 : True := trivial
    have g3 : True := trivial
    refine ws_aload_n (i := 0) X d_Mach_runChange_56 rfl rfl ?_
    refine ws_aload_n (i := 0) X d_Mach_runChange_57 rfl rfl ?_
    refine ws_callV1 X (m_Mach_pop _) cv_Mach_pop ml_Mach_100 ob7 rfl rfl (Nat.le_of_ble_eq_true rfl) ⟨Nat.le_of_ble_eq_true rfl, Nat.le_of_ble_eq_true rfl⟩ ⟨Nat.zero_le _, Nat.zero_le _⟩ d_Mach_runChange_58 ?_
    refine ws_lload_n (i := 2) X d_Mach_runChange_61 rfl rfl ?_
    refine ws_lcmp_ge X d_Mach_runChange_62 d_Mach_runChange_63 (fun h62 => ?_) (fun h62 => ?_)
    · refine ws_lconst (v := 0) X d_Mach_runChange_70 rfl ?_
      refine ws_callV0 X (m_Mach_push _ _) cv_Mach_push ml_Mach_104 ob7 rfl rfl (Nat.le_of_ble_eq_true rfl) ⟨Nat.le_of_ble_eq_true rfl, Nat.le_of_ble_eq_true rfl⟩ ⟨Nat.zero_le _, Nat.zero_le _⟩ d_Mach_runChange_71 ?_
      refine ws_goto X d_Mach_runChange_74 ?_
      refine ws_vret X d_Mach_runChange_97 ?_
      exact ⟨rfl, by simp [xmChg, g1, g2, g3, eq_true h62]⟩
    · refine ws_lconst (v := 1) X d_Mach_runChange_66 rfl ?_
      refine ws_goto X d_Mach_runChange_67 ?_
      refine ws_callV0 X (m_Mach_push _ _) cv_Mach_push ml_Mach_104 ob7 rfl rfl (Nat.le_of_ble_eq_true rfl) ⟨Nat.le_of_ble_eq_true rfl, Nat.le_of_ble_eq_true rfl⟩ ⟨Nat.zero_le _, Nat.zero_le _⟩ d_Mach_runChange_71 ?_
      refine ws_goto X d_Mach_runChange_74 ?_
      refine ws_vret X d_Mach_runChange_97 ?_
      exact ⟨rfl, by simp [xmChg, g1, g2, g3, eq_false h62]⟩
  · have g1 : ¬ o = 15 := fun z => by rw [z] at h6; exact absurd h6 (by decide)
    have g2 : ¬ o = 16 := fun z => by rw [z] at h6; exact absurd h6 (by decide)
    have g3 : ¬ o = 17 := fun z => by rw [z] at h6; exact absurd h6 (by decide)
    refine ws_aload_n (i := 0) X d_Mach_runChange_77 rfl rfl ?_
    refine ws_aload_n (i := 0) X d_Mach_runChange_78 rfl rfl ?_
    refine ws_callV1 X (m_Mach_pop _) cv_Mach_pop ml_Mach_100 ob7 rfl rfl (Nat.le_of_ble_eq_true rfl) ⟨Nat.le_of_ble_eq_true rfl, Nat.le_of_ble_eq_true rfl⟩ ⟨Nat.zero_le _, Nat.zero_le _⟩ d_Mach_runChange_79 ?_
    refine ws_lload_n (i := 2) X d_Mach_runChange_82 rfl rfl ?_
    refine ws_callS1 X (m_Dbl_isBelow _ _ _) cs_Dbl_isBelow ml_Mach_182 rfl rfl (Nat.le_of_ble_eq_true rfl) ⟨Nat.le_of_ble_eq_true rfl, Nat.le_of_ble_eq_true rfl⟩ ⟨Nat.zero_le _, Nat.zero_le _⟩ d_Mach_runChange_83 ?_
    refine ws_ifB_eq X d_Mach_runChange_86 (fun h86 => ?_) (fun h86 => ?_)
    · refine ws_lconst (v := 0) X d_Mach_runChange_93 rfl ?_
      refine ws_callV0 X (m_Mach_push _ _) cv_Mach_push ml_Mach_104 ob7 rfl rfl (Nat.le_of_ble_eq_true rfl) ⟨Nat.le_of_ble_eq_true rfl, Nat.le_of_ble_eq_true rfl⟩ ⟨Nat.zero_le _, Nat.zero_le _⟩ d_Mach_runChange_94 ?_
      refine ws_vret X d_Mach_runChange_97 ?_
      exact ⟨rfl, by simp [xmChg, g1, g2, g3, h86]⟩
    · refine ws_lconst (v := 1) X d_Mach_runChange_89 rfl ?_
      refine ws_goto X d_Mach_runChange_90 ?_
      refine ws_callV0 X (m_Mach_push _ _) cv_Mach_push ml_Mach_104 ob7 rfl rfl (Nat.le_of_ble_eq_true rfl) ⟨Nat.le_of_ble_eq_true rfl, Nat.le_of_ble_eq_true rfl⟩ ⟨Nat.zero_le _, Nat.zero_le _⟩ d_Mach_runChange_94 ?_
      refine ws_vret X d_Mach_runChange_97 ?_
      exact ⟨rfl, by simp [xmChg, g1, g2, g3, h86]⟩

def xmMove (S : MS) (o f : Int32) : MS :=
  if o = 1 ∨ o = 2 then xmPush S (valueOfP S f)
  else if o = 3 then xmPush S (xmLoc S f)
  else if o = 4 then xmSetLoc (xmPopS S) f (xmPopV S)
  else if o = 5 then xmPush (xmPush (xmPopS S) (xmPopV S)) (xmPopV S)
  else if o = 6 then xmPopS S
  else S
theorem m_Mach_runMove (S : MS) (o f : Int32) : MetE y_Mach_runMove c_Mach_runMove 6 (none) 2 42 [.inr (7, 0), .inr (3, 0), .inl (.int o), .inl (.int f)] S (none) (xmMove S o f) := by
  refine MetS.of (lv0 := [some (.inr (7, 0)), some (.inr (3, 0)), some (.inl (.int o)), some (.inl (.int f)), none, none]) pn_Mach rfl (Nat.le_of_ble_eq_true rfl) (fun p0 l0 e0 s0 m0 args below meth c0 G X => ?_)
  refine ws_iload_n (i := 2) X d_Mach_runMove_0 rfl rfl ?_
  refine ws_tsw X [(1, 40), (2, 40), (3, 52), (4, 64), (5, 76), (6, 97)] d_Mach_runMove_1 (fun j hj => by
      have hj2 : j < 6 := by omega
      match j, hj2 with
      | 0, _ => exact ⟨_, 40, rfl, rfl, by decide⟩
      | 1, _ => exact ⟨_, 40, rfl, rfl, by decide⟩
      | 2, _ => exact ⟨_, 52, rfl, rfl, by decide⟩
      | 3, _ => exact ⟨_, 64, rfl, rfl, by decide⟩
      | 4, _ => exact ⟨_, 76, rfl, rfl, by decide⟩
      | 5, _ => exact ⟨_, 97, rfl, rfl, by decide⟩) (tgt := 105) rfl (And.intro (fun h1 => ?_) (And.intro (fun h1 => ?_) (And.intro (fun h1 => ?_) (And.intro (fun h1 => ?_) (And.intro (fun h1 => ?_) (And.intro (fun h1 => ?_) (trivial))))))) (fun h1 => ?_)
  · have h1 : o = 1 := h1
    subst h1
    have g1 : True := trivial
    have g2 : True := trivial
    have g3 : True := trivial
    have g4 : True := trivial
    have g5 : True := trivial
    have g6 : True := trivial
    refine ws_aload_n (i := 0) X d_Mach_runMove_40 rfl rfl ?_
    refine ws_aload_n (i := 1) X d_Mach_runMove_41 rfl rfl ?_
    refine ws_iload_n (i := 3) X d_Mach_runMove_42 rfl rfl ?_
    refine ws_callV1 X (m_Pool_valueOf _ _) cv_Pool_valueOf ml_Mach_146 ob3 rfl rfl (Nat.le_of_ble_eq_true rfl) ⟨Nat.le_of_ble_eq_true rfl, Nat.le_of_ble_eq_true rfl⟩ ⟨Nat.zero_le _, Nat.zero_le _⟩ d_Mach_runMove_43 ?_
    refine ws_callV0 X (m_Mach_push _ _) cv_Mach_push ml_Mach_104 ob7 rfl rfl (Nat.le_of_ble_eq_true rfl) ⟨Nat.le_of_ble_eq_true rfl, Nat.le_of_ble_eq_true rfl⟩ ⟨Nat.zero_le _, Nat.zero_le _⟩ d_Mach_runMove_46 ?_
    refine ws_goto X d_Mach_runMove_49 ?_
    refine ws_vret X d_Mach_runMove_105 ?_
    exact ⟨rfl, by simp [xmMove, g1, g2, g3, g4, g5, g6]⟩
  · have h1 : o = 2 := h1
    subst h1
    have g1 : True := trivial
    have g2 : True := trivial
    have g3 : True := trivial
    have g4 : True := trivial
    have g5 : True := trivial
    have g6 : True := trivial
    refine ws_aload_n (i := 0) X d_Mach_runMove_40 rfl rfl ?_
    refine ws_aload_n (i := 1) X d_Mach_runMove_41 rfl rfl ?_
    refine ws_iload_n (i := 3) X d_Mach_runMove_42 rfl rfl ?_
    refine ws_callV1 X (m_Pool_valueOf _ _) cv_Pool_valueOf ml_Mach_146 ob3 rfl rfl (Nat.le_of_ble_eq_true rfl) ⟨Nat.le_of_ble_eq_true rfl, Nat.le_of_ble_eq_true rfl⟩ ⟨Nat.zero_le _, Nat.zero_le _⟩ d_Mach_runMove_43 ?_
    refine ws_callV0 X (m_Mach_push _ _) cv_Mach_push ml_Mach_104 ob7 rfl rfl (Nat.le_of_ble_eq_true rfl) ⟨Nat.le_of_ble_eq_true rfl, Nat.le_of_ble_eq_true rfl⟩ ⟨Nat.zero_le _, Nat.zero_le _⟩ d_Mach_runMove_46 ?_
    refine ws_goto X d_Mach_runMove_49 ?_
    refine ws_vret X d_Mach_runMove_105 ?_
    exact ⟨rfl, by simp [xmMove, g1, g2, g3, g4, g5, g6]⟩
  · have h1 : o = 3 := h1
    subst h1
    have g1 : True := trivial
    have g2 : True := trivial
    have g3 : True := trivial
    have g4 : True := trivial
    have g5 : True := trivial
    have g6 : True := trivial
    refine ws_aload_n (i := 0) X d_Mach_runMove_52 rfl rfl ?_
    refine ws_aload_n (i := 0) X d_Mach_runMove_53 rfl rfl ?_
    refine ws_iload_n (i := 3) X d_Mach_runMove_54 rfl rfl ?_
    refine ws_callV1 X (m_Mach_local _ _) cv_Mach_local ml_Mach_159 ob7 rfl rfl (Nat.le_of_ble_eq_true rfl) ⟨Nat.le_of_ble_eq_true rfl, Nat.le_of_ble_eq_true rfl⟩ ⟨Nat.zero_le _, Nat.zero_le _⟩ d_Mach_runMove_55 ?_
    refine ws_callV0 X (m_Mach_push _ _) cv_Mach_push ml_Mach_104 ob7 rfl rfl (Nat.le_of_ble_eq_true rfl) ⟨Nat.le_of_ble_eq_true rfl, Nat.le_of_ble_eq_true rfl⟩ ⟨Nat.zero_le _, Nat.zero_le _⟩ d_Mach_runMove_58 ?_
    refine ws_goto X d_Mach_runMove_61 ?_
    refine ws_vret X d_Mach_runMove_105 ?_
    exact ⟨rfl, by simp [xmMove, g1, g2, g3, g4, g5, g6]⟩
  · have h1 : o = 4 := h1
    subst h1
    have g1 : True := trivial
    have g2 : True := trivial
    have g3 : True := trivial
    have g4 : True := trivial
    have g5 : True := trivial
    have g6 : True := trivial
    refine ws_aload_n (i := 0) X d_Mach_runMove_64 rfl rfl ?_
    refine ws_iload_n (i := 3) X d_Mach_runMove_65 rfl rfl ?_
    refine ws_aload_n (i := 0) X d_Mach_runMove_66 rfl rfl ?_
    refine ws_callV1 X (m_Mach_pop _) cv_Mach_pop ml_Mach_100 ob7 rfl rfl (Nat.le_of_ble_eq_true rfl) ⟨Nat.le_of_ble_eq_true rfl, Nat.le_of_ble_eq_true rfl⟩ ⟨Nat.zero_le _, Nat.zero_le _⟩ d_Mach_runMove_67 ?_
    refine ws_callV0 X (m_Mach_setLocal _ _ _) cv_Mach_setLocal ml_Mach_76 ob7 rfl rfl (Nat.le_of_ble_eq_true rfl) ⟨Nat.le_of_ble_eq_true rfl, Nat.le_of_ble_eq_true rfl⟩ ⟨Nat.zero_le _, Nat.zero_le _⟩ d_Mach_runMove_70 ?_
    refine ws_goto X d_Mach_runMove_73 ?_
    refine ws_vret X d_Mach_runMove_105 ?_
    exact ⟨rfl, by simp [xmMove, g1, g2, g3, g4, g5, g6]⟩
  · have h1 : o = 5 := h1
    subst h1
    have g1 : True := trivial
    have g2 : True := trivial
    have g3 : True := trivial
    have g4 : True := trivial
    have g5 : True := trivial
    have g6 : True := trivial
    refine ws_aload_n (i := 0) X d_Mach_runMove_76 rfl rfl ?_
    refine ws_callV1 X (m_Mach_pop _) cv_Mach_pop ml_Mach_100 ob7 rfl rfl (Nat.le_of_ble_eq_true rfl) ⟨Nat.le_of_ble_eq_true rfl, Nat.le_of_ble_eq_true rfl⟩ ⟨Nat.zero_le _, Nat.zero_le _⟩ d_Mach_runMove_77 ?_
    refine ws_lst_4 X rfl d_Mach_runMove_80 (by decide) ?_
    refine ws_aload_n (i := 0) X d_Mach_runMove_82 rfl rfl ?_
    refine ws_lload (i := 4) X d_Mach_runMove_83 rfl ?_
    refine ws_callV0 X (m_Mach_push _ _) cv_Mach_push ml_Mach_104 ob7 rfl rfl (Nat.le_of_ble_eq_true rfl) ⟨Nat.le_of_ble_eq_true rfl, Nat.le_of_ble_eq_true rfl⟩ ⟨Nat.zero_le _, Nat.zero_le _⟩ d_Mach_runMove_85 ?_
    refine ws_aload_n (i := 0) X d_Mach_runMove_88 rfl rfl ?_
    refine ws_lload (i := 4) X d_Mach_runMove_89 rfl ?_
    refine ws_callV0 X (m_Mach_push _ _) cv_Mach_push ml_Mach_104 ob7 rfl rfl (Nat.le_of_ble_eq_true rfl) ⟨Nat.le_of_ble_eq_true rfl, Nat.le_of_ble_eq_true rfl⟩ ⟨Nat.zero_le _, Nat.zero_le _⟩ d_Mach_runMove_91 ?_
    refine ws_goto X d_Mach_runMove_94 ?_
    refine ws_vret X d_Mach_runMove_105 ?_
    exact ⟨rfl, by simp [xmMove, g1, g2, g3, g4, g5, g6]⟩
  · have h1 : o = 6 := h1
    subst h1
    have g1 : True := trivial
    have g2 : True := trivial
    have g3 : True := trivial
    have g4 : True := trivial
    have g5 : True := trivial
    have g6 : True := trivial
    refine ws_aload_n (i := 0) X d_Mach_runMove_97 rfl rfl ?_
    refine ws_callV1 X (m_Mach_pop _) cv_Mach_pop ml_Mach_100 ob7 rfl rfl (Nat.le_of_ble_eq_true rfl) ⟨Nat.le_of_ble_eq_true rfl, Nat.le_of_ble_eq_true rfl⟩ ⟨Nat.zero_le _, Nat.zero_le _⟩ d_Mach_runMove_98 ?_
    refine ws_pop2_2 X d_Mach_runMove_101 rfl ?_
    refine ws_goto X d_Mach_runMove_102 ?_
    refine ws_vret X d_Mach_runMove_105 ?_
    exact ⟨rfl, by simp [xmMove, g1, g2, g3, g4, g5, g6]⟩
  · have g1 : ¬ o = 1 := fun z => by rw [z] at h1; exact absurd h1 (by decide)
    have g2 : ¬ o = 2 := fun z => by rw [z] at h1; exact absurd h1 (by decide)
    have g3 : ¬ o = 3 := fun z => by rw [z] at h1; exact absurd h1 (by decide)
    have g4 : ¬ o = 4 := fun z => by rw [z] at h1; exact absurd h1 (by decide)
    have g5 : ¬ o = 5 := fun z => by rw [z] at h1; exact absurd h1 (by decide)
    have g6 : ¬ o = 6 := fun z => by rw [z] at h1; exact absurd h1 (by decide)
    refine ws_vret X d_Mach_runMove_105 ?_
    exact ⟨rfl, by simp [xmMove, g1, g2, g3, g4, g5, g6]⟩


