/-! the model judges: small methods -/
def mHas (o : Int32) : Bool := mIn o 1 4 || mIn o 19 21 || decide (o = 24)
theorem m_M_hasByte (S : MS) (o : Int32) : MetE y_M_hasByte c_M_hasByte 1 ((some .boolean)) 1 22 [.inl (.int o)] S (some (.inl (.int (bI (mHas o))))) (S) := by
  refine MetS.of (lv0 := [some (.inl (.int o))]) pn_M rfl (Nat.le_of_ble_eq_true rfl) (fun p0 l0 e0 s0 m0 args below meth c0 G X => ?_)
  refine ws_iload_n (i := 0) X d_M_hasByte_0 rfl rfl ?_
  refine ws_iconst (v := 1) X d_M_hasByte_1 rfl ?_
  refine ws_iconst (v := 4) X d_M_hasByte_2 rfl ?_
  refine ws_callS1 X (m_M_in _ _ _ _) cs_M_in ml_M_106 rfl rfl (Nat.le_of_ble_eq_true rfl) ⟨Nat.le_of_ble_eq_true rfl, Nat.le_of_ble_eq_true rfl⟩ ⟨Nat.zero_le _, Nat.zero_le _⟩ d_M_hasByte_3 ?_
  refine ws_ifB_ne X d_M_hasByte_6 (fun h6 => ?_) (fun h6 => ?_)
  · refine ws_iconst (v := 1) X d_M_hasByte_26 rfl ?_
    refine ws_goto X d_M_hasByte_27 ?_
    refine ws_zret X (rfl) d_M_hasByte_31 ?_
    exact ⟨by simp [mHas, bI, h6], rfl⟩
  · refine ws_iload_n (i := 0) X d_M_hasByte_9 rfl rfl ?_
    refine ws_bipush (v := 19) X d_M_hasByte_10 rfl ?_
    refine ws_bipush (v := 21) X d_M_hasByte_12 rfl ?_
    refine ws_callS1 X (m_M_in _ _ _ _) cs_M_in ml_M_106 rfl rfl (Nat.le_of_ble_eq_true rfl) ⟨Nat.le_of_ble_eq_true rfl, Nat.le_of_ble_eq_true rfl⟩ ⟨Nat.zero_le _, Nat.zero_le _⟩ d_M_hasByte_14 ?_
    refine ws_ifB_ne X d_M_hasByte_17 (fun h17 => ?_) (fun h17 => ?_)
    · refine ws_iconst (v := 1) X d_M_hasByte_26 rfl ?_
      refine ws_goto X d_M_hasByte_27 ?_
      refine ws_zret X (rfl) d_M_hasByte_31 ?_
      exact ⟨by simp [mHas, bI, h6, h17], rfl⟩
    · refine ws_iload_n (i := 0) X d_M_hasByte_20 rfl rfl ?_
      refine ws_bipush (v := 24) X d_M_hasByte_21 rfl ?_
      refine ws_icmp_ne X d_M_hasByte_23 (fun h23 => ?_) (fun h23 => ?_)
      · refine ws_iconst (v := 0) X d_M_hasByte_30 rfl ?_
        refine ws_zret X (rfl) d_M_hasByte_31 ?_
        exact ⟨by simp [mHas, bI, h6, h17, eq_false h23], rfl⟩
      · refine ws_iconst (v := 1) X d_M_hasByte_26 rfl ?_
        refine ws_goto X d_M_hasByte_27 ?_
        refine ws_zret X (rfl) d_M_hasByte_31 ?_
        exact ⟨by simp [mHas, bI, h6, h17, eq_true h23], rfl⟩

theorem m_M_fault (S : MS) : MetE y_M_fault c_M_fault 1 ((some .int)) 0 0 [.inr (8, 0)] S (some (.inl (.int (S.1 8 0 28)))) (S) := by
  refine MetS.of (lv0 := [some (.inr (8, 0))]) pn_M rfl (Nat.le_of_ble_eq_true rfl) (fun p0 l0 e0 s0 m0 args below meth c0 G X => ?_)
  refine ws_aload_n (i := 0) X d_M_fault_0 rfl rfl ?_
  refine ws_getI X fl_M_118 ob8 d_M_fault_1 ?_
  refine ws_iret X d_M_fault_4 ?_
  exact ⟨rfl, rfl⟩

theorem m_M_isMethod (S : MS) (m : Int32) : MetE y_M_isMethod c_M_isMethod 2 ((some .boolean)) 1 22 [.inr (8, 0), .inl (.int m)] S (some (.inl (.int (bI (mIn m 0 (S.1 8 0 9 - 1)))))) (S) := by
  refine MetS.of (lv0 := [some (.inr (8, 0)), some (.inl (.int m))]) pn_M rfl (Nat.le_of_ble_eq_true rfl) (fun p0 l0 e0 s0 m0 args below meth c0 G X => ?_)
  refine ws_iload_n (i := 1) X d_M_isMethod_0 rfl rfl ?_
  refine ws_iconst (v := 0) X d_M_isMethod_1 rfl ?_
  refine ws_aload_n (i := 0) X d_M_isMethod_2 rfl rfl ?_
  refine ws_getI X fl_M_162 ob8 d_M_isMethod_3 ?_
  refine ws_iconst (v := 1) X d_M_isMethod_6 rfl ?_
  refine ws_isub X d_M_isMethod_7 ?_
  refine ws_callS1 X (m_M_in _ _ _ _) cs_M_in ml_M_106 rfl rfl (Nat.le_of_ble_eq_true rfl) ⟨Nat.le_of_ble_eq_true rfl, Nat.le_of_ble_eq_true rfl⟩ ⟨Nat.zero_le _, Nat.zero_le _⟩ d_M_isMethod_8 ?_
  refine ws_zret X (nbI _) d_M_isMethod_11 ?_
  exact ⟨by simp [bI, if_true], rfl⟩

def mPops (S : MS) (o : Int32) (g : Nat) : Int32 := if o = 21 then S.1 31 0 g else if (mIn o 7 14 || decide (o = 17) || decide (o = 18)) = true then 2 else bI (mIn o 4 6 || decide (o = 15) || decide (o = 16) || decide (o = 20) || decide (21 < o))
theorem m_M_pops (S : MS) (o a : Int32) (ha : o = 21 → vp_in a 5) : MetE y_M_pops c_M_pops 3 ((some .int)) 1 22 [.inr (8, 0), .inl (.int o), .inl (.int a)] S (some (.inl (.int (mPops S o a.toNatClampNeg)))) (S) := by
  refine MetS.of (lv0 := [some (.inr (8, 0)), some (.inl (.int o)), some (.inl (.int a))]) pn_M rfl (Nat.le_of_ble_eq_true rfl) (fun p0 l0 e0 s0 m0 args below meth c0 G X => ?_)
  refine ws_iload_n (i := 1) X d_M_pops_0 rfl rfl ?_
  refine ws_bipush (v := 21) X d_M_pops_1 rfl ?_
  refine ws_icmp_ne X d_M_pops_3 (fun h3 => ?_) (fun h3 => ?_)
  · refine ws_iload_n (i := 1) X d_M_pops_13 rfl rfl ?_
    refine ws_bipush (v := 7) X d_M_pops_14 rfl ?_
    refine ws_bipush (v := 14) X d_M_pops_16 rfl ?_
    refine ws_callS1 X (m_M_in _ _ _ _) cs_M_in ml_M_106 rfl rfl (Nat.le_of_ble_eq_true rfl) ⟨Nat.le_of_ble_eq_true rfl, Nat.le_of_ble_eq_true rfl⟩ ⟨Nat.zero_le _, Nat.zero_le _⟩ d_M_pops_18 ?_
    refine ws_ifB_ne X d_M_pops_21 (fun h21 => ?_) (fun h21 => ?_)
    · refine ws_iconst (v := 2) X d_M_pops_36 rfl ?_
      refine ws_iret X d_M_pops_37 ?_
      exact ⟨by simp [mPops, bI, eq_false h3, h21], rfl⟩
    · refine ws_iload_n (i := 1) X d_M_pops_24 rfl rfl ?_
      refine ws_bipush (v := 17) X d_M_pops_25 rfl ?_
      refine ws_icmp_eq X d_M_pops_27 (fun h27 => ?_) (fun h27 => ?_)
      · refine ws_iconst (v := 2) X d_M_pops_36 rfl ?_
        refine ws_iret X d_M_pops_37 ?_
        exact ⟨by simp [mPops, bI, eq_false h3, h21, eq_true h27], rfl⟩
      · refine ws_iload_n (i := 1) X d_M_pops_30 rfl rfl ?_
        refine ws_bipush (v := 18) X d_M_pops_31 rfl ?_
        refine ws_icmp_ne X d_M_pops_33 (fun h33 => ?_) (fun h33 => ?_)
        · refine ws_iload_n (i := 1) X d_M_pops_38 rfl rfl ?_
          refine ws_iconst (v := 4) X d_M_pops_39 rfl ?_
          refine ws_bipush (v := 6) X d_M_pops_40 rfl ?_
          refine ws_callS1 X (m_M_in _ _ _ _) cs_M_in ml_M_106 rfl rfl (Nat.le_of_ble_eq_true rfl) ⟨Nat.le_of_ble_eq_true rfl, Nat.le_of_ble_eq_true rfl⟩ ⟨Nat.zero_le _, Nat.zero_le _⟩ d_M_pops_42 ?_
          refine ws_ifB_ne X d_M_pops_45 (fun h45 => ?_) (fun h45 => ?_)
          · refine ws_iconst (v := 1) X d_M_pops_72 rfl ?_
            refine ws_goto X d_M_pops_73 ?_
            refine ws_iret X d_M_pops_77 ?_
            exact ⟨by simp [mPops, bI, eq_false h3, h21, eq_false h27, eq_false h33, h45], rfl⟩
          · refine ws_iload_n (i := 1) X d_M_pops_48 rfl rfl ?_
            refine ws_bipush (v := 15) X d_M_pops_49 rfl ?_
            refine ws_icmp_eq X d_M_pops_51 (fun h51 => ?_) (fun h51 => ?_)
            · refine ws_iconst (v := 1) X d_M_pops_72 rfl ?_
              refine ws_goto X d_M_pops_73 ?_
              refine ws_iret X d_M_pops_77 ?_
              exact ⟨by simp [mPops, bI, eq_false h3, h21, eq_false h27, eq_false h33, h45, eq_true h51], rfl⟩
            · refine ws_iload_n (i := 1) X d_M_pops_54 rfl rfl ?_
              refine ws_bipush (v := 16) X d_M_pops_55 rfl ?_
              refine ws_icmp_eq X d_M_pops_57 (fun h57 => ?_) (fun h57 => ?_)
              · refine ws_iconst (v := 1) X d_M_pops_72 rfl ?_
                refine ws_goto X d_M_pops_73 ?_
                refine ws_iret X d_M_pops_77 ?_
                exact ⟨by simp [mPops, bI, eq_false h3, h21, eq_false h27, eq_false h33, h45, eq_false h51, eq_true h57], rfl⟩
              · refine ws_iload_n (i := 1) X d_M_pops_60 rfl rfl ?_
                refine ws_bipush (v := 20) X d_M_pops_61 rfl ?_
                refine ws_icmp_eq X d_M_pops_63 (fun h63 => ?_) (fun h63 => ?_)
                · refine ws_iconst (v := 1) X d_M_pops_72 rfl ?_
                  refine ws_goto X d_M_pops_73 ?_
                  refine ws_iret X d_M_pops_77 ?_
                  exact ⟨by simp [mPops, bI, eq_false h3, h21, eq_false h27, eq_false h33, h45, eq_false h51, eq_false h57, eq_true h63], rfl⟩
                · refine ws_iload_n (i := 1) X d_M_pops_66 rfl rfl ?_
                  refine ws_bipush (v := 21) X d_M_pops_67 rfl ?_
                  refine ws_icmp_le X d_M_pops_69 (fun h69 => ?_) (fun h69 => ?_)
                  · refine ws_iconst (v := 0) X d_M_pops_76 rfl ?_
                    refine ws_iret X d_M_pops_77 ?_
                    exact ⟨by simp [mPops, bI, eq_false h3, h21, eq_false h27, eq_false h33, h45, eq_false h51, eq_false h57, eq_false h63, eq_true h69], rfl⟩
                  · refine ws_iconst (v := 1) X d_M_pops_72 rfl ?_
                    refine ws_goto X d_M_pops_73 ?_
                    refine ws_iret X d_M_pops_77 ?_
                    exact ⟨by simp [mPops, bI, eq_false h3, h21, eq_false h27, eq_false h33, h45, eq_false h51, eq_false h57, eq_false h63, eq_false h69], rfl⟩
        · refine ws_iconst (v := 2) X d_M_pops_36 rfl ?_
          refine ws_iret X d_M_pops_37 ?_
          exact ⟨by simp [mPops, bI, eq_false h3, h21, eq_false h27, eq_true h33], rfl⟩
  · refine ws_aload_n (i := 0) X d_M_pops_6 rfl rfl ?_
    refine ws_getR X fl_M_33 ob8 d_M_pops_7 ?_
    refine ws_iload_n (i := 2) X d_M_pops_10 rfl rfl ?_
    refine ws_iald X ak31 ob31 (ha (by assumption)) d_M_pops_11 ?_
    refine ws_iret X d_M_pops_12 ?_
    exact ⟨by simp [mPops, bI, eq_true h3], rfl⟩


