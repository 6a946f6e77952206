/-! the JDK's small functions; the tape -/
theorem pn_JD : plainName "java/lang/Double" = true := by decide +kernel
theorem pn_IF : plainName "InstrumentFiles" = true := by decide +kernel
theorem pn_Tape : plainName "InstrumentFiles$Tape" = true := by decide +kernel
theorem pn_Prog : plainName "InstrumentFiles$Program" = true := by decide +kernel
theorem pn_Pool : plainName "InstrumentFiles$Pool" = true := by decide +kernel
theorem pn_Meth : plainName "InstrumentFiles$Method" = true := by decide +kernel
theorem pn_Read : plainName "InstrumentFiles$Reader" = true := by decide +kernel
theorem pn_Judge : plainName "InstrumentFiles$Judge" = true := by decide +kernel
theorem pn_Mach : plainName "InstrumentFiles$Machine" = true := by decide +kernel
theorem pn_M : plainName "InstrumentFilesModel" = true := by decide +kernel
theorem pn_Dbl : plainName "InstrumentFiles$Doubles" = true := by decide +kernel
theorem pn_Kinds : plainName "InstrumentFiles$Kinds" = true := by decide +kernel
theorem pn_Ops : plainName "InstrumentFiles$Ops" = true := by decide +kernel
/-! Tape: its length is S.1 1 0 1, its bytes S.1 9 0 -/
def hasT (S : MS) (i : Int32) : Bool := decide (¬ i < 0) && decide (¬ S.1 1 0 1 ≤ i) && decide (¬ 500 ≤ i)
theorem hasT_in {S : MS} {i : Int32} (h : hasT S i = true) : vp_in i 500 := by
  simp only [hasT, Bool.and_eq_true, decide_eq_true_eq] at h
  rw [vp_in_iff]
  have h1 := Int32.le_iff_toInt_le.mp (Int32.not_lt.mp h.1.1)
  have h2 := Int32.lt_iff_toInt_lt.mp (Int32.not_le.mp h.2)
  exact ⟨h1, h2⟩
theorem m_Tape_has (S : MS) (i : Int32) : MetE y_Tape_has c_Tape_has 2 ((some .boolean)) 0 0 [.inr (1, 0), .inl (.int i)] S (some (.inl (.int (bI (hasT S i))))) (S) := by
  refine MetS.of (lv0 := [some (.inr (1, 0)), some (.inl (.int i))]) pn_Tape rfl (Nat.le_of_ble_eq_true rfl) (fun p l e0 s m0 args below meth c0 G X => ?_)
  refine ws_iload_n (i := 1) X d_Tape_has_0 rfl rfl ?_
  refine ws_if_lt X d_Tape_has_1 (fun h1 => ?_) (fun h1 => ?_)
  · refine ws_iconst (v := 0) X d_Tape_has_25 rfl ?_
    refine ws_zret X (rfl) d_Tape_has_26 ?_
    exact ⟨by simp [hasT, bI, *], rfl⟩
  · refine ws_iload_n (i := 1) X d_Tape_has_4 rfl rfl ?_
    refine ws_aload_n (i := 0) X d_Tape_has_5 rfl rfl ?_
    refine ws_getI X fl_Tape_15 ob1 d_Tape_has_6 ?_
    refine ws_icmp_ge X d_Tape_has_9 (fun h9 => ?_) (fun h9 => ?_)
    · refine ws_iconst (v := 0) X d_Tape_has_25 rfl ?_
      refine ws_zret X (rfl) d_Tape_has_26 ?_
      exact ⟨by simp [hasT, bI, *], rfl⟩
    · refine ws_iload_n (i := 1) X d_Tape_has_12 rfl rfl ?_
      refine ws_aload_n (i := 0) X d_Tape_has_13 rfl rfl ?_
      refine ws_getR X fl_Tape_11 ob1 d_Tape_has_14 ?_
      refine ws_alen (v := 500) X ak9 ob9 rfl d_Tape_has_17 ?_
      refine ws_icmp_ge X d_Tape_has_18 (fun h18 => ?_) (fun h18 => ?_)
      · refine ws_iconst (v := 0) X d_Tape_has_25 rfl ?_
        refine ws_zret X (rfl) d_Tape_has_26 ?_
        exact ⟨by simp [hasT, bI, *], rfl⟩
      · refine ws_iconst (v := 1) X d_Tape_has_21 rfl ?_
        refine ws_goto X d_Tape_has_22 ?_
        refine ws_zret X (rfl) d_Tape_has_26 ?_
        exact ⟨by simp [hasT, bI, *], rfl⟩

def byteT (S : MS) (i : Int32) : Int32 := if hasT S i = true then S.1 9 0 i.toNatClampNeg else -1
theorem m_Tape_byteAt (S : MS) (i : Int32) : MetE y_Tape_byteAt c_Tape_byteAt 2 ((some .int)) 1 21 [.inr (1, 0), .inl (.int i)] S (some (.inl (.int (byteT S i)))) (S) := by
  refine MetS.of (lv0 := [some (.inr (1, 0)), some (.inl (.int i))]) pn_Tape rfl (Nat.le_of_ble_eq_true rfl) (fun p l e0 s m0 args below meth c0 G X => ?_)
  refine ws_aload_n (i := 0) X d_Tape_byteAt_0 rfl rfl ?_
  refine ws_iload_n (i := 1) X d_Tape_byteAt_1 rfl rfl ?_
  refine ws_callV1 X (m_Tape_has _ _) cv_Tape_has ml_Tape_19 ob1 rfl rfl (Nat.le_of_ble_eq_true rfl) ⟨Nat.le_of_ble_eq_true rfl, Nat.le_of_ble_eq_true rfl⟩ ⟨Nat.zero_le _, Nat.zero_le _⟩ d_Tape_byteAt_2 ?_
  refine ws_ifB_eq X d_Tape_byteAt_5 (fun h5 => ?_) (fun h5 => ?_)
  · refine ws_iconst (v := (-1)) X d_Tape_byteAt_17 rfl ?_
    refine ws_iret X d_Tape_byteAt_18 ?_
    exact ⟨by simp [byteT, *], rfl⟩
  · refine ws_aload_n (i := 0) X d_Tape_byteAt_8 rfl rfl ?_
    refine ws_getR X fl_Tape_11 ob1 d_Tape_byteAt_9 ?_
    refine ws_iload_n (i := 1) X d_Tape_byteAt_12 rfl rfl ?_
    refine ws_iald X ak9 ob9 (hasT_in (by assumption)) d_Tape_byteAt_13 ?_
    refine ws_goto X d_Tape_byteAt_14 ?_
    refine ws_iret X d_Tape_byteAt_18 ?_
    exact ⟨by simp [byteT, *], rfl⟩


