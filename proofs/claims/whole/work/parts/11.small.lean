/-! small methods: Pool, Kinds, Ops, Method, Program -/
def hasP (S : MS) (e : Int32) : Bool := decide (¬ e < 0) && decide (¬ S.1 3 0 3 ≤ e) && decide (¬ 16 ≤ e)
theorem in_of3 {e : Int32} {n : Nat} {N : Int32} (hN : N.toInt = n) (h1 : ¬ e < 0) (h2 : ¬ N ≤ e) : vp_in e n := by
  rw [vp_in_iff]
  have h1 := Int32.le_iff_toInt_le.mp (Int32.not_lt.mp h1)
  have h2 := Int32.lt_iff_toInt_lt.mp (Int32.not_le.mp h2)
  rw [hN] at h2
  exact ⟨h1, h2⟩
theorem hasP_in {S : MS} {e : Int32} (h : hasP S e = true) : vp_in e 16 := by
  simp only [hasP, Bool.and_eq_true, decide_eq_true_eq] at h
  exact in_of3 (N := 16) rfl h.1.1 h.2
theorem m_Pool_has (S : MS) (e : Int32) : MetE y_Pool_has c_Pool_has 2 ((some .boolean)) 0 0 [.inr (3, 0), .inl (.int e)] S (some (.inl (.int (bI (hasP S e))))) (S) := by
  refine MetS.of (lv0 := [some (.inr (3, 0)), some (.inl (.int e))]) pn_Pool rfl (Nat.le_of_ble_eq_true rfl) (fun p l e0 s m0 args below meth c0 G X => ?_)
  refine ws_iload_n (i := 1) X d_Pool_has_0 rfl rfl ?_
  refine ws_if_lt X d_Pool_has_1 (fun h1 => ?_) (fun h1 => ?_)
  · refine ws_iconst (v := 0) X d_Pool_has_22 rfl ?_
    refine ws_zret X (rfl) d_Pool_has_23 ?_
    exact ⟨by simp [hasP, bI, *], rfl⟩
  · refine ws_iload_n (i := 1) X d_Pool_has_4 rfl rfl ?_
    refine ws_aload_n (i := 0) X d_Pool_has_5 rfl rfl ?_
    refine ws_getI X fl_Pool_22 ob3 d_Pool_has_6 ?_
    refine ws_icmp_ge X d_Pool_has_9 (fun h9 => ?_) (fun h9 => ?_)
    · refine ws_iconst (v := 0) X d_Pool_has_22 rfl ?_
      refine ws_zret X (rfl) d_Pool_has_23 ?_
      exact ⟨by simp [hasP, bI, *], rfl⟩
    · refine ws_iload_n (i := 1) X d_Pool_has_12 rfl rfl ?_
      refine ws_bipush (v := 16) X d_Pool_has_13 rfl ?_
      refine ws_icmp_ge X d_Pool_has_15 (fun h15 => ?_) (fun h15 => ?_)
      · refine ws_iconst (v := 0) X d_Pool_has_22 rfl ?_
        refine ws_zret X (rfl) d_Pool_has_23 ?_
        exact ⟨by simp [hasP, bI, *], rfl⟩
      · refine ws_iconst (v := 1) X d_Pool_has_18 rfl ?_
        refine ws_goto X d_Pool_has_19 ?_
        refine ws_zret X (rfl) d_Pool_has_23 ?_
        exact ⟨by simp [hasP, bI, *], rfl⟩

def tagP (S : MS) (e t : Int32) : Bool := hasP S e && decide (S.1 11 0 e.toNatClampNeg = t)
theorem m_Pool_isTagged (S : MS) (e t : Int32) : MetE y_Pool_isTagged c_Pool_isTagged 3 ((some .boolean)) 1 21 [.inr (3, 0), .inl (.int e), .inl (.int t)] S (some (.inl (.int (bI (tagP S e t))))) (S) := by
  refine MetS.of (lv0 := [some (.inr (3, 0)), some (.inl (.int e)), some (.inl (.int t))]) pn_Pool rfl (Nat.le_of_ble_eq_true rfl) (fun p l e0 s m0 args below meth c0 G X => ?_)
  refine ws_aload_n (i := 0) X d_Pool_isTagged_0 rfl rfl ?_
  refine ws_iload_n (i := 1) X d_Pool_isTagged_1 rfl rfl ?_
  refine ws_callV1 X (m_Pool_has _ _) cv_Pool_has ml_Pool_26 ob3 rfl rfl (Nat.le_of_ble_eq_true rfl) ⟨Nat.le_of_ble_eq_true rfl, Nat.le_of_ble_eq_true rfl⟩ ⟨Nat.zero_le _, Nat.zero_le _⟩ d_Pool_isTagged_2 ?_
  refine ws_ifB_eq X d_Pool_isTagged_5 (fun h5 => ?_) (fun h5 => ?_)
  · refine ws_iconst (v := 0) X d_Pool_isTagged_22 rfl ?_
    refine ws_zret X (rfl) d_Pool_isTagged_23 ?_
    exact ⟨by simp [tagP, bI, *], rfl⟩
  · refine ws_aload_n (i := 0) X d_Pool_isTagged_8 rfl rfl ?_
    refine ws_getR X fl_Pool_9 ob3 d_Pool_isTagged_9 ?_
    refine ws_iload_n (i := 1) X d_Pool_isTagged_12 rfl rfl ?_
    refine ws_iald X ak11 ob11 (hasP_in (by assumption)) d_Pool_isTagged_13 ?_
    refine ws_iload_n (i := 2) X d_Pool_isTagged_14 rfl rfl ?_
    refine ws_icmp_ne X d_Pool_isTagged_15 (fun h15 => ?_) (fun h15 => ?_)
    · refine ws_iconst (v := 0) X d_Pool_isTagged_22 rfl ?_
      refine ws_zret X (rfl) d_Pool_isTagged_23 ?_
      exact ⟨by simp [tagP, bI, *], rfl⟩
    · refine ws_iconst (v := 1) X d_Pool_isTagged_18 rfl ?_
      refine ws_goto X d_Pool_isTagged_19 ?_
      refine ws_zret X (rfl) d_Pool_isTagged_23 ?_
      exact ⟨by simp [tagP, bI, *], rfl⟩

def tagOfP (S : MS) (e : Int32) : Int32 := if hasP S e = true then S.1 11 0 e.toNatClampNeg else 0
def sizeOfP (S : MS) (e : Int32) : Int32 := if hasP S e = true then S.1 12 0 e.toNatClampNeg else 0
def valueOfP (S : MS) (e : Int32) : Int64 := if hasP S e = true then S.2.1 13 0 e.toNatClampNeg else 0
theorem m_Pool_tagOf (S : MS) (e : Int32) : MetE y_Pool_tagOf c_Pool_tagOf 2 ((some .int)) 1 21 [.inr (3, 0), .inl (.int e)] S (some (.inl (.int (tagOfP S e)))) (S) := by
  refine MetS.of (lv0 := [some (.inr (3, 0)), some (.inl (.int e))]) pn_Pool rfl (Nat.le_of_ble_eq_true rfl) (fun p l e0 s m0 args below meth c0 G X => ?_)
  refine ws_aload_n (i := 0) X d_Pool_tagOf_0 rfl rfl ?_
  refine ws_iload_n (i := 1) X d_Pool_tagOf_1 rfl rfl ?_
  refine ws_callV1 X (m_Pool_has _ _) cv_Pool_has ml_Pool_26 ob3 rfl rfl (Nat.le_of_ble_eq_true rfl) ⟨Nat.le_of_ble_eq_true rfl, Nat.le_of_ble_eq_true rfl⟩ ⟨Nat.zero_le _, Nat.zero_le _⟩ d_Pool_tagOf_2 ?_
  refine ws_ifB_eq X d_Pool_tagOf_5 (fun h5 => ?_) (fun h5 => ?_)
  · refine ws_iconst (v := 0) X d_Pool_tagOf_17 rfl ?_
    refine ws_iret X d_Pool_tagOf_18 ?_
    exact ⟨by simp [tagOfP, *], rfl⟩
  · refine ws_aload_n (i := 0) X d_Pool_tagOf_8 rfl rfl ?_
    refine ws_getR X fl_Pool_9 ob3 d_Pool_tagOf_9 ?_
    refine ws_iload_n (i := 1) X d_Pool_tagOf_12 rfl rfl ?_
    refine ws_iald X ak11 ob11 (hasP_in (by assumption)) d_Pool_tagOf_13 ?_
    refine ws_goto X d_Pool_tagOf_14 ?_
    refine ws_iret X d_Pool_tagOf_18 ?_
    exact ⟨by simp [tagOfP, *], rfl⟩

theorem m_Pool_sizeOf (S : MS) (e : Int32) : MetE y_Pool_sizeOf c_Pool_sizeOf 2 ((some .int)) 1 21 [.inr (3, 0), .inl (.int e)] S (some (.inl (.int (sizeOfP S e)))) (S) := by
  refine MetS.of (lv0 := [some (.inr (3, 0)), some (.inl (.int e))]) pn_Pool rfl (Nat.le_of_ble_eq_true rfl) (fun p l e0 s m0 args below meth c0 G X => ?_)
  refine ws_aload_n (i := 0) X d_Pool_sizeOf_0 rfl rfl ?_
  refine ws_iload_n (i := 1) X d_Pool_sizeOf_1 rfl rfl ?_
  refine ws_callV1 X (m_Pool_has _ _) cv_Pool_has ml_Pool_26 ob3 rfl rfl (Nat.le_of_ble_eq_true rfl) ⟨Nat.le_of_ble_eq_true rfl, Nat.le_of_ble_eq_true rfl⟩ ⟨Nat.zero_le _, Nat.zero_le _⟩ d_Pool_sizeOf_2 ?_
  refine ws_ifB_eq X d_Pool_sizeOf_5 (fun h5 => ?_) (fun h5 => ?_)
  · refine ws_iconst (v := 0) X d_Pool_sizeOf_17 rfl ?_
    refine ws_iret X d_Pool_sizeOf_18 ?_
    exact ⟨by simp [sizeOfP, *], rfl⟩
  · refine ws_aload_n (i := 0) X d_Pool_sizeOf_8 rfl rfl ?_
    refine ws_getR X fl_Pool_15 ob3 d_Pool_sizeOf_9 ?_
    refine ws_iload_n (i := 1) X d_Pool_sizeOf_12 rfl rfl ?_
    refine ws_iald X ak12 ob12 (hasP_in (by assumption)) d_Pool_sizeOf_13 ?_
    refine ws_goto X d_Pool_sizeOf_14 ?_
    refine ws_iret X d_Pool_sizeOf_18 ?_
    exact ⟨by simp [sizeOfP, *], rfl⟩

theorem m_Pool_valueOf (S : MS) (e : Int32) : MetE y_Pool_valueOf c_Pool_valueOf 2 ((some .long)) 1 21 [.inr (3, 0), .inl (.int e)] S (some (.inl (.long (valueOfP S e)))) (S) := by
  refine MetS.of (lv0 := [some (.inr (3, 0)), some (.inl (.int e))]) pn_Pool rfl (Nat.le_of_ble_eq_true rfl) (fun p l e0 s m0 args below meth c0 G X => ?_)
  refine ws_aload_n (i := 0) X d_Pool_valueOf_0 rfl rfl ?_
  refine ws_iload_n (i := 1) X d_Pool_valueOf_1 rfl rfl ?_
  refine ws_callV1 X (m_Pool_has _ _) cv_Pool_has ml_Pool_26 ob3 rfl rfl (Nat.le_of_ble_eq_true rfl) ⟨Nat.le_of_ble_eq_true rfl, Nat.le_of_ble_eq_true rfl⟩ ⟨Nat.zero_le _, Nat.zero_le _⟩ d_Pool_valueOf_2 ?_
  refine ws_ifB_eq X d_Pool_valueOf_5 (fun h5 => ?_) (fun h5 => ?_)
  · refine ws_lconst (v := 0) X d_Pool_valueOf_17 rfl ?_
    refine ws_lret X d_Pool_valueOf_18 ?_
    exact ⟨by simp [valueOfP, *], rfl⟩
  · refine ws_aload_n (i := 0) X d_Pool_valueOf_8 rfl rfl ?_
    refine ws_getR X fl_Pool_18 ob3 d_Pool_valueOf_9 ?_
    refine ws_iload_n (i := 1) X d_Pool_valueOf_12 rfl rfl ?_
    refine ws_lald X ak13 ob13 (hasP_in (by assumption)) d_Pool_valueOf_13 ?_
    refine ws_goto X d_Pool_valueOf_14 ?_
    refine ws_lret X d_Pool_valueOf_18 ?_
    exact ⟨by simp [valueOfP, *], rfl⟩

def listedP (S : MS) (e : Int32) : Bool := tagP S e 3 && (decide (valueOfP S e = 6382195) || decide (valueOfP S e = 1919905652) || decide (valueOfP S e = 439905906546) || decide (valueOfP S e = 1936287598))
theorem m_Pool_isListed (S : MS) (e : Int32) : MetE y_Pool_isListed c_Pool_isListed 4 ((some .boolean)) 2 43 [.inr (3, 0), .inl (.int e)] S (some (.inl (.int (bI (listedP S e))))) (S) := by
  refine MetS.of (lv0 := [some (.inr (3, 0)), some (.inl (.int e)), none, none]) pn_Pool rfl (Nat.le_of_ble_eq_true rfl) (fun p l e0 s m0 args below meth c0 G X => ?_)
  refine ws_aload_n (i := 0) X d_Pool_isListed_0 rfl rfl ?_
  refine ws_iload_n (i := 1) X d_Pool_isListed_1 rfl rfl ?_
  refine ws_callV1 X (m_Pool_valueOf _ _) cv_Pool_valueOf ml_Pool_30 ob3 rfl rfl (Nat.le_of_ble_eq_true rfl) ⟨Nat.le_of_ble_eq_true rfl, Nat.le_of_ble_eq_true rfl⟩ ⟨Nat.zero_le _, Nat.zero_le _⟩ d_Pool_isListed_2 ?_
  refine ws_lstn_2 X rfl d_Pool_isListed_5 (by decide) ?_
  refine ws_aload_n (i := 0) X d_Pool_isListed_6 rfl rfl ?_
  refine ws_iload_n (i := 1) X d_Pool_isListed_7 rfl rfl ?_
  refine ws_iconst (v := 3) X d_Pool_isListed_8 rfl ?_
  refine ws_callV1 X (m_Pool_isTagged _ _ _) cv_Pool_isTagged ml_Pool_34 ob3 rfl rfl (Nat.le_of_ble_eq_true rfl) ⟨Nat.le_of_ble_eq_true rfl, Nat.le_of_ble_eq_true rfl⟩ ⟨Nat.zero_le _, Nat.zero_le _⟩ d_Pool_isListed_9 ?_
  refine ws_ifB_eq X d_Pool_isListed_12 (fun h12 => ?_) (fun h12 => ?_)
  · refine ws_iconst (v := 0) X d_Pool_isListed_51 rfl ?_
    refine ws_zret X (rfl) d_Pool_isListed_52 ?_
    exact ⟨by simp [listedP, bI, *], rfl⟩
  · refine ws_lload_n (i := 2) X d_Pool_isListed_15 rfl rfl ?_
    refine ws_ldc2 X d_Pool_isListed_16 ct_Pool_38 ?_
    refine ws_lcmp_eq X d_Pool_isListed_19 d_Pool_isListed_20 (fun h19 => ?_) (fun h19 => ?_)
    · refine ws_iconst (v := 1) X d_Pool_isListed_47 rfl ?_
      refine ws_goto X d_Pool_isListed_48 ?_
      refine ws_zret X (rfl) d_Pool_isListed_52 ?_
      exact ⟨by simp [listedP, bI, *], rfl⟩
    · refine ws_lload_n (i := 2) X d_Pool_isListed_23 rfl rfl ?_
      refine ws_ldc2 X d_Pool_isListed_24 ct_Pool_40 ?_
      refine ws_lcmp_eq X d_Pool_isListed_27 d_Pool_isListed_28 (fun h27 => ?_) (fun h27 => ?_)
      · refine ws_iconst (v := 1) X d_Pool_isListed_47 rfl ?_
        refine ws_goto X d_Pool_isListed_48 ?_
        refine ws_zret X (rfl) d_Pool_isListed_52 ?_
        exact ⟨by simp [listedP, bI, *], rfl⟩
      · refine ws_lload_n (i := 2) X d_Pool_isListed_31 rfl rfl ?_
        refine ws_ldc2 X d_Pool_isListed_32 ct_Pool_42 ?_
        refine ws_lcmp_eq X d_Pool_isListed_35 d_Pool_isListed_36 (fun h35 => ?_) (fun h35 => ?_)
        · refine ws_iconst (v := 1) X d_Pool_isListed_47 rfl ?_
          refine ws_goto X d_Pool_isListed_48 ?_
          refine ws_zret X (rfl) d_Pool_isListed_52 ?_
          exact ⟨by simp [listedP, bI, *], rfl⟩
        · refine ws_lload_n (i := 2) X d_Pool_isListed_39 rfl rfl ?_
          refine ws_ldc2 X d_Pool_isListed_40 ct_Pool_44 ?_
          refine ws_lcmp_ne X d_Pool_isListed_43 d_Pool_isListed_44 (fun h43 => ?_) (fun h43 => ?_)
          · refine ws_iconst (v := 0) X d_Pool_isListed_51 rfl ?_
            refine ws_zret X (rfl) d_Pool_isListed_52 ?_
            exact ⟨by simp [listedP, bI, *], rfl⟩
          · refine ws_iconst (v := 1) X d_Pool_isListed_47 rfl ?_
            refine ws_goto X d_Pool_isListed_48 ?_
            refine ws_zret X (rfl) d_Pool_isListed_52 ?_
            exact ⟨by simp [listedP, bI, *], rfl⟩

def appP (S : MS) (t z : Int32) (v : Int64) : MS := if ¬ S.1 3 0 3 < 0 ∧ ¬ 16 ≤ S.1 3 0 3 then wI (wL (wI (wI S 11 0 (S.1 3 0 3).toNatClampNeg t) 12 0 (S.1 3 0 3).toNatClampNeg z) 13 0 (S.1 3 0 3).toNatClampNeg v) 3 0 3 (S.1 3 0 3 + 1) else S
theorem m_Pool_append (S : MS) (t z : Int32) (v : Int64) : MetE y_Pool_append c_Pool_append 5 (none) 0 0 [.inr (3, 0), .inl (.int t), .inl (.int z), .inl (.long v)] S (none) (appP S t z v) := by
  refine MetS.of (lv0 := [some (.inr (3, 0)), some (.inl (.int t)), some (.inl (.int z)), some (.inl (.long v)), none]) pn_Pool rfl (Nat.le_of_ble_eq_true rfl) (fun p l e0 s m0 args below meth c0 G X => ?_)
  refine ws_aload_n (i := 0) X d_Pool_append_0 rfl rfl ?_
  refine ws_getI X fl_Pool_22 ob3 d_Pool_append_1 ?_
  refine ws_if_lt X d_Pool_append_4 (fun h4 => ?_) (fun h4 => ?_)
  · refine ws_vret X d_Pool_append_56 ?_
    exact ⟨rfl, by simp [appP, wI, wL, *]⟩
  · refine ws_aload_n (i := 0) X d_Pool_append_7 rfl rfl ?_
    refine ws_getI X fl_Pool_22 ob3 d_Pool_append_8 ?_
    refine ws_bipush (v := 16) X d_Pool_append_11 rfl ?_
    refine ws_icmp_ge X d_Pool_append_13 (fun h13 => ?_) (fun h13 => ?_)
    · refine ws_vret X d_Pool_append_56 ?_
      exact ⟨rfl, by simp [appP, wI, wL, *]⟩
    · refine ws_aload_n (i := 0) X d_Pool_append_16 rfl rfl ?_
      refine ws_getR X fl_Pool_9 ob3 d_Pool_append_17 ?_
      refine ws_aload_n (i := 0) X d_Pool_append_20 rfl rfl ?_
      refine ws_getI X fl_Pool_22 ob3 d_Pool_append_21 ?_
      refine ws_iload_n (i := 1) X d_Pool_append_24 rfl rfl ?_
      refine ws_iast X ak11 ob11 (in_of3 (N := 16) rfl (by assumption) (by assumption)) d_Pool_append_25 ?_
      refine ws_aload_n (i := 0) X d_Pool_append_26 rfl rfl ?_
      refine ws_getR X fl_Pool_15 ob3 d_Pool_append_27 ?_
      refine ws_aload_n (i := 0) X d_Pool_append_30 rfl rfl ?_
      refine ws_getI X fl_Pool_22 ob3 d_Pool_append_31 ?_
      refine ws_iload_n (i := 2) X d_Pool_append_34 rfl rfl ?_
      refine ws_iast X ak12 ob12 (in_of3 (N := 16) rfl (by assumption) (by assumption)) d_Pool_append_35 ?_
      refine ws_aload_n (i := 0) X d_Pool_append_36 rfl rfl ?_
      refine ws_getR X fl_Pool_18 ob3 d_Pool_append_37 ?_
      refine ws_aload_n (i := 0) X d_Pool_append_40 rfl rfl ?_
      refine ws_getI X fl_Pool_22 ob3 d_Pool_append_41 ?_
      refine ws_lload_n (i := 3) X d_Pool_append_44 rfl rfl ?_
      refine ws_last X ak13 ob13 (in_of3 (N := 16) rfl (by assumption) (by assumption)) d_Pool_append_45 ?_
      refine ws_aload_n (i := 0) X d_Pool_append_46 rfl rfl ?_
      refine ws_dup X d_Pool_append_47 rfl ?_
      refine ws_getI X fl_Pool_22 ob3 d_Pool_append_48 ?_
      refine ws_iconst (v := 1) X d_Pool_append_51 rfl ?_
      refine ws_iadd X d_Pool_append_52 ?_
      refine ws_putI X fl_Pool_22 ob3 d_Pool_append_53 ?_
      refine ws_vret X d_Pool_append_56 ?_
      exact ⟨rfl, by simp [appP, wI, wL, *]⟩

/-! Kinds -/
def kDepth (k : Int32) : Int32 := ushr32 k 24
def kItem (k i : Int32) : Int32 := if ¬ i < 0 ∧ ¬ 6 ≤ i then ushr32 k (2 * i) &&& 3 else 0
def kLocal (k i : Int32) : Int32 := if ¬ i < 0 ∧ ¬ 6 ≤ i then ushr32 k (12 + 2 * i) &&& 3 else 0
def kPush (k x : Int32) : Int32 := if ¬ 6 ≤ kDepth k then (k ||| shl32 x (2 * kDepth k)) + 16777216 else k
def kPop (k : Int32) : Int32 := if ¬ kDepth k - 1 < 0 then (k &&& (shl32 3 (2 * (kDepth k - 1)) ^^^ (-1))) - 16777216 else k
def kWith (k l x : Int32) : Int32 := if ¬ l < 0 ∧ ¬ 6 ≤ l then (k &&& (shl32 3 (12 + 2 * l) ^^^ (-1))) ||| shl32 x (12 + 2 * l) else k
theorem m_Kinds_depth (S : MS) (k : Int32) : MetE y_Kinds_depth c_Kinds_depth 1 ((some .int)) 0 0 [.inl (.int k)] S (some (.inl (.int (kDepth k)))) (S) := by
  refine MetS.of (lv0 := [some (.inl (.int k))]) pn_Kinds rfl (Nat.le_of_ble_eq_true rfl) (fun p l e0 s m0 args below meth c0 G X => ?_)
  refine ws_iload_n (i := 0) X d_Kinds_depth_0 rfl rfl ?_
  refine ws_bipush (v := 24) X d_Kinds_depth_1 rfl ?_
  refine ws_iushr X d_Kinds_depth_3 ?_
  refine ws_iret X d_Kinds_depth_4 ?_
  exact ⟨rfl, rfl⟩

theorem m_Kinds_item (S : MS) (k i : Int32) : MetE y_Kinds_item c_Kinds_item 2 ((some .int)) 0 0 [.inl (.int k), .inl (.int i)] S (some (.inl (.int (kItem k i)))) (S) := by
  refine MetS.of (lv0 := [some (.inl (.int k)), some (.inl (.int i))]) pn_Kinds rfl (Nat.le_of_ble_eq_true rfl) (fun p l e0 s m0 args below meth c0 G X => ?_)
  refine ws_iload_n (i := 1) X d_Kinds_item_0 rfl rfl ?_
  refine ws_if_lt X d_Kinds_item_1 (fun h1 => ?_) (fun h1 => ?_)
  · refine ws_iconst (v := 0) X d_Kinds_item_20 rfl ?_
    refine ws_iret X d_Kinds_item_21 ?_
    exact ⟨by simp [kItem, *], rfl⟩
  · refine ws_iload_n (i := 1) X d_Kinds_item_4 rfl rfl ?_
    refine ws_bipush (v := 6) X d_Kinds_item_5 rfl ?_
    refine ws_icmp_ge X d_Kinds_item_7 (fun h7 => ?_) (fun h7 => ?_)
    · refine ws_iconst (v := 0) X d_Kinds_item_20 rfl ?_
      refine ws_iret X d_Kinds_item_21 ?_
      exact ⟨by simp [kItem, *], rfl⟩
    · refine ws_iload_n (i := 0) X d_Kinds_item_10 rfl rfl ?_
      refine ws_iconst (v := 2) X d_Kinds_item_11 rfl ?_
      refine ws_iload_n (i := 1) X d_Kinds_item_12 rfl rfl ?_
      refine ws_imul X d_Kinds_item_13 ?_
      refine ws_iushr X d_Kinds_item_14 ?_
      refine ws_iconst (v := 3) X d_Kinds_item_15 rfl ?_
      refine ws_iand X d_Kinds_item_16 ?_
      refine ws_goto X d_Kinds_item_17 ?_
      refine ws_iret X d_Kinds_item_21 ?_
      exact ⟨by simp [kItem, *], rfl⟩

theorem m_Kinds_local (S : MS) (k i : Int32) : MetE y_Kinds_local c_Kinds_local 2 ((some .int)) 0 0 [.inl (.int k), .inl (.int i)] S (some (.inl (.int (kLocal k i)))) (S) := by
  refine MetS.of (lv0 := [some (.inl (.int k)), some (.inl (.int i))]) pn_Kinds rfl (Nat.le_of_ble_eq_true rfl) (fun p l e0 s m0 args below meth c0 G X => ?_)
  refine ws_iload_n (i := 1) X d_Kinds_local_0 rfl rfl ?_
  refine ws_if_lt X d_Kinds_local_1 (fun h1 => ?_) (fun h1 => ?_)
  · refine ws_iconst (v := 0) X d_Kinds_local_23 rfl ?_
    refine ws_iret X d_Kinds_local_24 ?_
    exact ⟨by simp [kLocal, *], rfl⟩
  · refine ws_iload_n (i := 1) X d_Kinds_local_4 rfl rfl ?_
    refine ws_bipush (v := 6) X d_Kinds_local_5 rfl ?_
    refine ws_icmp_ge X d_Kinds_local_7 (fun h7 => ?_) (fun h7 => ?_)
    · refine ws_iconst (v := 0) X d_Kinds_local_23 rfl ?_
      refine ws_iret X d_Kinds_local_24 ?_
      exact ⟨by simp [kLocal, *], rfl⟩
    · refine ws_iload_n (i := 0) X d_Kinds_local_10 rfl rfl ?_
      refine ws_bipush (v := 12) X d_Kinds_local_11 rfl ?_
      refine ws_iconst (v := 2) X d_Kinds_local_13 rfl ?_
      refine ws_iload_n (i := 1) X d_Kinds_local_14 rfl rfl ?_
      refine ws_imul X d_Kinds_local_15 ?_
      refine ws_iadd X d_Kinds_local_16 ?_
      refine ws_iushr X d_Kinds_local_17 ?_
      refine ws_iconst (v := 3) X d_Kinds_local_18 rfl ?_
      refine ws_iand X d_Kinds_local_19 ?_
      refine ws_goto X d_Kinds_local_20 ?_
      refine ws_iret X d_Kinds_local_24 ?_
      exact ⟨by simp [kLocal, *], rfl⟩

theorem m_Kinds_push (S : MS) (k x : Int32) : MetE y_Kinds_push c_Kinds_push 2 ((some .int)) 1 20 [.inl (.int k), .inl (.int x)] S (some (.inl (.int (kPush k x)))) (S) := by
  refine MetS.of (lv0 := [some (.inl (.int k)), some (.inl (.int x))]) pn_Kinds rfl (Nat.le_of_ble_eq_true rfl) (fun p l e0 s m0 args below meth c0 G X => ?_)
  refine ws_iload_n (i := 0) X d_Kinds_push_0 rfl rfl ?_
  refine ws_callS1 X (m_Kinds_depth _ _) cs_Kinds_depth ml_Kinds_11 rfl rfl (Nat.le_of_ble_eq_true rfl) ⟨Nat.le_of_ble_eq_true rfl, Nat.le_of_ble_eq_true rfl⟩ ⟨Nat.zero_le _, Nat.zero_le _⟩ d_Kinds_push_1 ?_
  refine ws_bipush (v := 6) X d_Kinds_push_4 rfl ?_
  refine ws_icmp_ge X d_Kinds_push_6 (fun h6 => ?_) (fun h6 => ?_)
  · refine ws_iload_n (i := 0) X d_Kinds_push_25 rfl rfl ?_
    refine ws_iret X d_Kinds_push_26 ?_
    exact ⟨by simp [kPush, *], rfl⟩
  · refine ws_iload_n (i := 0) X d_Kinds_push_9 rfl rfl ?_
    refine ws_iload_n (i := 1) X d_Kinds_push_10 rfl rfl ?_
    refine ws_iconst (v := 2) X d_Kinds_push_11 rfl ?_
    refine ws_iload_n (i := 0) X d_Kinds_push_12 rfl rfl ?_
    refine ws_callS1 X (m_Kinds_depth _ _) cs_Kinds_depth ml_Kinds_11 rfl rfl (Nat.le_of_ble_eq_true rfl) ⟨Nat.le_of_ble_eq_true rfl, Nat.le_of_ble_eq_true rfl⟩ ⟨Nat.zero_le _, Nat.zero_le _⟩ d_Kinds_push_13 ?_
    refine ws_imul X d_Kinds_push_16 ?_
    refine ws_ishl X d_Kinds_push_17 ?_
    refine ws_ior X d_Kinds_push_18 ?_
    refine ws_ldc X d_Kinds_push_19 ct_Kinds_15 ?_
    refine ws_iadd X d_Kinds_push_21 ?_
    refine ws_goto X d_Kinds_push_22 ?_
    refine ws_iret X d_Kinds_push_26 ?_
    exact ⟨by simp [kPush, *], rfl⟩

theorem m_Kinds_pop (S : MS) (k : Int32) : MetE y_Kinds_pop c_Kinds_pop 2 ((some .int)) 1 20 [.inl (.int k)] S (some (.inl (.int (kPop k)))) (S) := by
  refine MetS.of (lv0 := [some (.inl (.int k)), none]) pn_Kinds rfl (Nat.le_of_ble_eq_true rfl) (fun p l e0 s m0 args below meth c0 G X => ?_)
  refine ws_iload_n (i := 0) X d_Kinds_pop_0 rfl rfl ?_
  refine ws_callS1 X (m_Kinds_depth _ _) cs_Kinds_depth ml_Kinds_11 rfl rfl (Nat.le_of_ble_eq_true rfl) ⟨Nat.le_of_ble_eq_true rfl, Nat.le_of_ble_eq_true rfl⟩ ⟨Nat.zero_le _, Nat.zero_le _⟩ d_Kinds_pop_1 ?_
  refine ws_iconst (v := 1) X d_Kinds_pop_4 rfl ?_
  refine ws_isub X d_Kinds_pop_5 ?_
  refine ws_istn_1 X rfl d_Kinds_pop_6 (by decide) ?_
  refine ws_iload_n (i := 1) X d_Kinds_pop_7 rfl rfl ?_
  refine ws_if_lt X d_Kinds_pop_8 (fun h8 => ?_) (fun h8 => ?_)
  · refine ws_iload_n (i := 0) X d_Kinds_pop_26 rfl rfl ?_
    refine ws_iret X d_Kinds_pop_27 ?_
    exact ⟨by simp [kPop, *], rfl⟩
  · refine ws_iload_n (i := 0) X d_Kinds_pop_11 rfl rfl ?_
    refine ws_iconst (v := 3) X d_Kinds_pop_12 rfl ?_
    refine ws_iconst (v := 2) X d_Kinds_pop_13 rfl ?_
    refine ws_iload_n (i := 1) X d_Kinds_pop_14 rfl rfl ?_
    refine ws_imul X d_Kinds_pop_15 ?_
    refine ws_ishl X d_Kinds_pop_16 ?_
    refine ws_iconst (v := (-1)) X d_Kinds_pop_17 rfl ?_
    refine ws_ixor X d_Kinds_pop_18 ?_
    refine ws_iand X d_Kinds_pop_19 ?_
    refine ws_ldc X d_Kinds_pop_20 ct_Kinds_15 ?_
    refine ws_isub X d_Kinds_pop_22 ?_
    refine ws_goto X d_Kinds_pop_23 ?_
    refine ws_iret X d_Kinds_pop_27 ?_
    exact ⟨by simp [kPop, *], rfl⟩

theorem m_Kinds_withLocal (S : MS) (k l x : Int32) : MetE y_Kinds_withLocal c_Kinds_withLocal 4 ((some .int)) 0 0 [.inl (.int k), .inl (.int l), .inl (.int x)] S (some (.inl (.int (kWith k l x)))) (S) := by
  refine MetS.of (lv0 := [some (.inl (.int k)), some (.inl (.int l)), some (.inl (.int x)), none]) pn_Kinds rfl (Nat.le_of_ble_eq_true rfl) (fun p l e0 s m0 args below meth c0 G X => ?_)
  refine ws_bipush (v := 12) X d_Kinds_withLocal_0 rfl ?_
  refine ws_iconst (v := 2) X d_Kinds_withLocal_2 rfl ?_
  refine ws_iload_n (i := 1) X d_Kinds_withLocal_3 rfl rfl ?_
  refine ws_imul X d_Kinds_withLocal_4 ?_
  refine ws_iadd X d_Kinds_withLocal_5 ?_
  refine ws_istn_3 X rfl d_Kinds_withLocal_6 (by decide) ?_
  refine ws_iload_n (i := 1) X d_Kinds_withLocal_7 rfl rfl ?_
  refine ws_if_lt X d_Kinds_withLocal_8 (fun h8 => ?_) (fun h8 => ?_)
  · refine ws_iload_n (i := 0) X d_Kinds_withLocal_31 rfl rfl ?_
    refine ws_iret X d_Kinds_withLocal_32 ?_
    exact ⟨by simp [kWith, *], rfl⟩
  · refine ws_iload_n (i := 1) X d_Kinds_withLocal_11 rfl rfl ?_
    refine ws_bipush (v := 6) X d_Kinds_withLocal_12 rfl ?_
    refine ws_icmp_ge X d_Kinds_withLocal_14 (fun h14 => ?_) (fun h14 => ?_)
    · refine ws_iload_n (i := 0) X d_Kinds_withLocal_31 rfl rfl ?_
      refine ws_iret X d_Kinds_withLocal_32 ?_
      exact ⟨by simp [kWith, *], rfl⟩
    · refine ws_iload_n (i := 0) X d_Kinds_withLocal_17 rfl rfl ?_
      refine ws_iconst (v := 3) X d_Kinds_withLocal_18 rfl ?_
      refine ws_iload_n (i := 3) X d_Kinds_withLocal_19 rfl rfl ?_
      refine ws_ishl X d_Kinds_withLocal_20 ?_
      refine ws_iconst (v := (-1)) X d_Kinds_withLocal_21 rfl ?_
      refine ws_ixor X d_Kinds_withLocal_22 ?_
      refine ws_iand X d_Kinds_withLocal_23 ?_
      refine ws_iload_n (i := 2) X d_Kinds_withLocal_24 rfl rfl ?_
      refine ws_iload_n (i := 3) X d_Kinds_withLocal_25 rfl rfl ?_
      refine ws_ishl X d_Kinds_withLocal_26 ?_
      refine ws_ior X d_Kinds_withLocal_27 ?_
      refine ws_goto X d_Kinds_withLocal_28 ?_
      refine ws_iret X d_Kinds_withLocal_32 ?_
      exact ⟨by simp [kWith, *], rfl⟩

/-! Ops -/
def opIs (o : Int32) : Bool := decide (¬ o < 0) && decide (¬ 24 < o)
theorem m_Ops_isOp (S : MS) (o : Int32) : MetE y_Ops_isOp c_Ops_isOp 1 ((some .boolean)) 0 0 [.inl (.int o)] S (some (.inl (.int (bI (opIs o))))) (S) := by
  refine MetS.of (lv0 := [some (.inl (.int o))]) pn_Ops rfl (Nat.le_of_ble_eq_true rfl) (fun p l e0 s m0 args below meth c0 G X => ?_)
  refine ws_iload_n (i := 0) X d_Ops_isOp_0 rfl rfl ?_
  refine ws_if_lt X d_Ops_isOp_1 (fun h1 => ?_) (fun h1 => ?_)
  · refine ws_iconst (v := 0) X d_Ops_isOp_14 rfl ?_
    refine ws_zret X (rfl) d_Ops_isOp_15 ?_
    exact ⟨by simp [opIs, bI, *], rfl⟩
  · refine ws_iload_n (i := 0) X d_Ops_isOp_4 rfl rfl ?_
    refine ws_bipush (v := 24) X d_Ops_isOp_5 rfl ?_
    refine ws_icmp_gt X d_Ops_isOp_7 (fun h7 => ?_) (fun h7 => ?_)
    · refine ws_iconst (v := 0) X d_Ops_isOp_14 rfl ?_
      refine ws_zret X (rfl) d_Ops_isOp_15 ?_
      exact ⟨by simp [opIs, bI, *], rfl⟩
    · refine ws_iconst (v := 1) X d_Ops_isOp_10 rfl ?_
      refine ws_goto X d_Ops_isOp_11 ?_
      refine ws_zret X (rfl) d_Ops_isOp_15 ?_
      exact ⟨by simp [opIs, bI, *], rfl⟩

def opByte (o : Int32) : Bool := (decide (¬ o < 1) && decide (¬ 4 < o)) || (decide (¬ o < 19) && decide (¬ 21 < o)) || decide (o = 24)
theorem m_Ops_hasByte (S : MS) (o : Int32) : MetE y_Ops_hasByte c_Ops_hasByte 1 ((some .boolean)) 0 0 [.inl (.int o)] S (some (.inl (.int (bI (opByte o))))) (S) := by
  refine MetS.of (lv0 := [some (.inl (.int o))]) pn_Ops rfl (Nat.le_of_ble_eq_true rfl) (fun p l e0 s m0 args below meth c0 G X => ?_)
  refine ws_iload_n (i := 0) X d_Ops_hasByte_0 rfl rfl ?_
  refine ws_iconst (v := 1) X d_Ops_hasByte_1 rfl ?_
  refine ws_icmp_lt X d_Ops_hasByte_2 (fun h2 => ?_) (fun h2 => ?_)
  · refine ws_iload_n (i := 0) X d_Ops_hasByte_10 rfl rfl ?_
    refine ws_bipush (v := 19) X d_Ops_hasByte_11 rfl ?_
    refine ws_icmp_lt X d_Ops_hasByte_13 (fun h13 => ?_) (fun h13 => ?_)
    · refine ws_iload_n (i := 0) X d_Ops_hasByte_22 rfl rfl ?_
      refine ws_bipush (v := 24) X d_Ops_hasByte_23 rfl ?_
      refine ws_icmp_ne X d_Ops_hasByte_25 (fun h25 => ?_) (fun h25 => ?_)
      · refine ws_iconst (v := 0) X d_Ops_hasByte_32 rfl ?_
        refine ws_zret X (rfl) d_Ops_hasByte_33 ?_
        exact ⟨by simp [opByte, bI, *], rfl⟩
      · refine ws_iconst (v := 1) X d_Ops_hasByte_28 rfl ?_
        refine ws_goto X d_Ops_hasByte_29 ?_
        refine ws_zret X (rfl) d_Ops_hasByte_33 ?_
        exact ⟨by simp [opByte, bI, *], rfl⟩
    · refine ws_iload_n (i := 0) X d_Ops_hasByte_16 rfl rfl ?_
      refine ws_bipush (v := 21) X d_Ops_hasByte_17 rfl ?_
      refine ws_icmp_le X d_Ops_hasByte_19 (fun h19 => ?_) (fun h19 => ?_)
      · refine ws_iconst (v := 1) X d_Ops_hasByte_28 rfl ?_
        refine ws_goto X d_Ops_hasByte_29 ?_
        refine ws_zret X (rfl) d_Ops_hasByte_33 ?_
        exact ⟨by simp [opByte, bI, *], rfl⟩
      · refine ws_iload_n (i := 0) X d_Ops_hasByte_22 rfl rfl ?_
        refine ws_bipush (v := 24) X d_Ops_hasByte_23 rfl ?_
        refine ws_icmp_ne X d_Ops_hasByte_25 (fun h25 => ?_) (fun h25 => ?_)
        · refine ws_iconst (v := 0) X d_Ops_hasByte_32 rfl ?_
          refine ws_zret X (rfl) d_Ops_hasByte_33 ?_
          exact ⟨by simp [opByte, bI, *], rfl⟩
        · refine ws_iconst (v := 1) X d_Ops_hasByte_28 rfl ?_
          refine ws_goto X d_Ops_hasByte_29 ?_
          refine ws_zret X (rfl) d_Ops_hasByte_33 ?_
          exact ⟨by simp [opByte, bI, *], rfl⟩
  · refine ws_iload_n (i := 0) X d_Ops_hasByte_5 rfl rfl ?_
    refine ws_iconst (v := 4) X d_Ops_hasByte_6 rfl ?_
    refine ws_icmp_le X d_Ops_hasByte_7 (fun h7 => ?_) (fun h7 => ?_)
    · refine ws_iconst (v := 1) X d_Ops_hasByte_28 rfl ?_
      refine ws_goto X d_Ops_hasByte_29 ?_
      refine ws_zret X (rfl) d_Ops_hasByte_33 ?_
      exact ⟨by simp [opByte, bI, *], rfl⟩
    · refine ws_iload_n (i := 0) X d_Ops_hasByte_10 rfl rfl ?_
      refine ws_bipush (v := 19) X d_Ops_hasByte_11 rfl ?_
      refine ws_icmp_lt X d_Ops_hasByte_13 (fun h13 => ?_) (fun h13 => ?_)
      · refine ws_iload_n (i := 0) X d_Ops_hasByte_22 rfl rfl ?_
        refine ws_bipush (v := 24) X d_Ops_hasByte_23 rfl ?_
        refine ws_icmp_ne X d_Ops_hasByte_25 (fun h25 => ?_) (fun h25 => ?_)
        · refine ws_iconst (v := 0) X d_Ops_hasByte_32 rfl ?_
          refine ws_zret X (rfl) d_Ops_hasByte_33 ?_
          exact ⟨by simp [opByte, bI, *], rfl⟩
        · refine ws_iconst (v := 1) X d_Ops_hasByte_28 rfl ?_
          refine ws_goto X d_Ops_hasByte_29 ?_
          refine ws_zret X (rfl) d_Ops_hasByte_33 ?_
          exact ⟨by simp [opByte, bI, *], rfl⟩
      · refine ws_iload_n (i := 0) X d_Ops_hasByte_16 rfl rfl ?_
        refine ws_bipush (v := 21) X d_Ops_hasByte_17 rfl ?_
        refine ws_icmp_le X d_Ops_hasByte_19 (fun h19 => ?_) (fun h19 => ?_)
        · refine ws_iconst (v := 1) X d_Ops_hasByte_28 rfl ?_
          refine ws_goto X d_Ops_hasByte_29 ?_
          refine ws_zret X (rfl) d_Ops_hasByte_33 ?_
          exact ⟨by simp [opByte, bI, *], rfl⟩
        · refine ws_iload_n (i := 0) X d_Ops_hasByte_22 rfl rfl ?_
          refine ws_bipush (v := 24) X d_Ops_hasByte_23 rfl ?_
          refine ws_icmp_ne X d_Ops_hasByte_25 (fun h25 => ?_) (fun h25 => ?_)
          · refine ws_iconst (v := 0) X d_Ops_hasByte_32 rfl ?_
            refine ws_zret X (rfl) d_Ops_hasByte_33 ?_
            exact ⟨by simp [opByte, bI, *], rfl⟩
          · refine ws_iconst (v := 1) X d_Ops_hasByte_28 rfl ?_
            refine ws_goto X d_Ops_hasByte_29 ?_
            refine ws_zret X (rfl) d_Ops_hasByte_33 ?_
            exact ⟨by simp [opByte, bI, *], rfl⟩

def opSize (o : Int32) : Int32 := if opByte o = true then 2 else 1
theorem m_Ops_size (S : MS) (o : Int32) : MetE y_Ops_size c_Ops_size 1 ((some .int)) 1 20 [.inl (.int o)] S (some (.inl (.int (opSize o)))) (S) := by
  refine MetS.of (lv0 := [some (.inl (.int o))]) pn_Ops rfl (Nat.le_of_ble_eq_true rfl) (fun p l e0 s m0 args below meth c0 G X => ?_)
  refine ws_iload_n (i := 0) X d_Ops_size_0 rfl rfl ?_
  refine ws_callS1 X (m_Ops_hasByte _ _) cs_Ops_hasByte ml_Ops_9 rfl rfl (Nat.le_of_ble_eq_true rfl) ⟨Nat.le_of_ble_eq_true rfl, Nat.le_of_ble_eq_true rfl⟩ ⟨Nat.zero_le _, Nat.zero_le _⟩ d_Ops_size_1 ?_
  refine ws_ifB_eq X d_Ops_size_4 (fun h4 => ?_) (fun h4 => ?_)
  · refine ws_iconst (v := 1) X d_Ops_size_11 rfl ?_
    refine ws_iret X d_Ops_size_12 ?_
    exact ⟨by simp [opSize, *], rfl⟩
  · refine ws_iconst (v := 2) X d_Ops_size_7 rfl ?_
    refine ws_goto X d_Ops_size_8 ?_
    refine ws_iret X d_Ops_size_12 ?_
    exact ⟨by simp [opSize, *], rfl⟩

def opGoes (o : Int32) : Bool := decide (¬ o = 19) && decide (¬ o = 22)
theorem m_Ops_goesOn (S : MS) (o : Int32) : MetE y_Ops_goesOn c_Ops_goesOn 1 ((some .boolean)) 0 0 [.inl (.int o)] S (some (.inl (.int (bI (opGoes o))))) (S) := by
  refine MetS.of (lv0 := [some (.inl (.int o))]) pn_Ops rfl (Nat.le_of_ble_eq_true rfl) (fun p l e0 s m0 args below meth c0 G X => ?_)
  refine ws_iload_n (i := 0) X d_Ops_goesOn_0 rfl rfl ?_
  refine ws_bipush (v := 19) X d_Ops_goesOn_1 rfl ?_
  refine ws_icmp_eq X d_Ops_goesOn_3 (fun h3 => ?_) (fun h3 => ?_)
  · refine ws_iconst (v := 0) X d_Ops_goesOn_16 rfl ?_
    refine ws_zret X (rfl) d_Ops_goesOn_17 ?_
    exact ⟨by simp [opGoes, bI, *], rfl⟩
  · refine ws_iload_n (i := 0) X d_Ops_goesOn_6 rfl rfl ?_
    refine ws_bipush (v := 22) X d_Ops_goesOn_7 rfl ?_
    refine ws_icmp_eq X d_Ops_goesOn_9 (fun h9 => ?_) (fun h9 => ?_)
    · refine ws_iconst (v := 0) X d_Ops_goesOn_16 rfl ?_
      refine ws_zret X (rfl) d_Ops_goesOn_17 ?_
      exact ⟨by simp [opGoes, bI, *], rfl⟩
    · refine ws_iconst (v := 1) X d_Ops_goesOn_12 rfl ?_
      refine ws_goto X d_Ops_goesOn_13 ?_
      refine ws_zret X (rfl) d_Ops_goesOn_17 ?_
      exact ⟨by simp [opGoes, bI, *], rfl⟩

def opJumps (o : Int32) : Bool := decide (o = 19) || decide (o = 20)
theorem m_Ops_jumps (S : MS) (o : Int32) : MetE y_Ops_jumps c_Ops_jumps 1 ((some .boolean)) 0 0 [.inl (.int o)] S (some (.inl (.int (bI (opJumps o))))) (S) := by
  refine MetS.of (lv0 := [some (.inl (.int o))]) pn_Ops rfl (Nat.le_of_ble_eq_true rfl) (fun p l e0 s m0 args below meth c0 G X => ?_)
  refine ws_iload_n (i := 0) X d_Ops_jumps_0 rfl rfl ?_
  refine ws_bipush (v := 19) X d_Ops_jumps_1 rfl ?_
  refine ws_icmp_eq X d_Ops_jumps_3 (fun h3 => ?_) (fun h3 => ?_)
  · refine ws_iconst (v := 1) X d_Ops_jumps_12 rfl ?_
    refine ws_goto X d_Ops_jumps_13 ?_
    refine ws_zret X (rfl) d_Ops_jumps_17 ?_
    exact ⟨by simp [opJumps, bI, *], rfl⟩
  · refine ws_iload_n (i := 0) X d_Ops_jumps_6 rfl rfl ?_
    refine ws_bipush (v := 20) X d_Ops_jumps_7 rfl ?_
    refine ws_icmp_ne X d_Ops_jumps_9 (fun h9 => ?_) (fun h9 => ?_)
    · refine ws_iconst (v := 0) X d_Ops_jumps_16 rfl ?_
      refine ws_zret X (rfl) d_Ops_jumps_17 ?_
      exact ⟨by simp [opJumps, bI, *], rfl⟩
    · refine ws_iconst (v := 1) X d_Ops_jumps_12 rfl ?_
      refine ws_goto X d_Ops_jumps_13 ?_
      refine ws_zret X (rfl) d_Ops_jumps_17 ?_
      exact ⟨by simp [opJumps, bI, *], rfl⟩

def opTab (k : Nat) (o : Int32) : Int32 := if ¬ o < 0 ∧ ¬ 25 ≤ o then (stv k).getD o.toNatClampNeg 0 else 0
theorem m_Ops_taken (S : MS) (o : Int32) : MetE y_Ops_taken c_Ops_taken 1 ((some .int)) 0 0 [.inl (.int o)] S (some (.inl (.int (opTab 0 o)))) (S) := by
  refine MetS.of (lv0 := [some (.inl (.int o))]) pn_Ops rfl (Nat.le_of_ble_eq_true rfl) (fun p l e0 s m0 args below meth c0 G X => ?_)
  refine ws_iload_n (i := 0) X d_Ops_taken_0 rfl rfl ?_
  refine ws_if_lt X d_Ops_taken_1 (fun h1 => ?_) (fun h1 => ?_)
  · refine ws_iconst (v := 0) X d_Ops_taken_20 rfl ?_
    refine ws_iret X d_Ops_taken_21 ?_
    exact ⟨by simp [opTab, *], rfl⟩
  · refine ws_iload_n (i := 0) X d_Ops_taken_4 rfl rfl ?_
    refine ws_gets X 0 (by decide) sl_Ops_13 d_Ops_taken_5 ?_
    refine ws_tlen X 0 (by decide) d_Ops_taken_8 ?_
    refine ws_icmp_ge X d_Ops_taken_9 (fun h9 => ?_) (fun h9 => ?_)
    · refine ws_iconst (v := 0) X d_Ops_taken_20 rfl ?_
      refine ws_iret X d_Ops_taken_21 ?_
      exact ⟨by simp [opTab, *], rfl⟩
    · refine ws_gets X 0 (by decide) sl_Ops_13 d_Ops_taken_12 ?_
      refine ws_iload_n (i := 0) X d_Ops_taken_15 rfl rfl ?_
      refine ws_tald X 0 (by decide) (in_of3 (N := 25) rfl (by assumption) (by assumption)) d_Ops_taken_16 ?_
      refine ws_goto X d_Ops_taken_17 ?_
      refine ws_iret X d_Ops_taken_21 ?_
      exact ⟨by simp [opTab, *], rfl⟩

theorem m_Ops_takenKind (S : MS) (o : Int32) : MetE y_Ops_takenKind c_Ops_takenKind 1 ((some .int)) 0 0 [.inl (.int o)] S (some (.inl (.int (opTab 1 o)))) (S) := by
  refine MetS.of (lv0 := [some (.inl (.int o))]) pn_Ops rfl (Nat.le_of_ble_eq_true rfl) (fun p l e0 s m0 args below meth c0 G X => ?_)
  refine ws_iload_n (i := 0) X d_Ops_takenKind_0 rfl rfl ?_
  refine ws_if_lt X d_Ops_takenKind_1 (fun h1 => ?_) (fun h1 => ?_)
  · refine ws_iconst (v := 0) X d_Ops_takenKind_20 rfl ?_
    refine ws_iret X d_Ops_takenKind_21 ?_
    exact ⟨by simp [opTab, *], rfl⟩
  · refine ws_iload_n (i := 0) X d_Ops_takenKind_4 rfl rfl ?_
    refine ws_gets X 1 (by decide) sl_Ops_17 d_Ops_takenKind_5 ?_
    refine ws_tlen X 1 (by decide) d_Ops_takenKind_8 ?_
    refine ws_icmp_ge X d_Ops_takenKind_9 (fun h9 => ?_) (fun h9 => ?_)
    · refine ws_iconst (v := 0) X d_Ops_takenKind_20 rfl ?_
      refine ws_iret X d_Ops_takenKind_21 ?_
      exact ⟨by simp [opTab, *], rfl⟩
    · refine ws_gets X 1 (by decide) sl_Ops_17 d_Ops_takenKind_12 ?_
      refine ws_iload_n (i := 0) X d_Ops_takenKind_15 rfl rfl ?_
      refine ws_tald X 1 (by decide) (in_of3 (N := 25) rfl (by assumption) (by assumption)) d_Ops_takenKind_16 ?_
      refine ws_goto X d_Ops_takenKind_17 ?_
      refine ws_iret X d_Ops_takenKind_21 ?_
      exact ⟨by simp [opTab, *], rfl⟩

theorem m_Ops_pushedKind (S : MS) (o : Int32) : MetE y_Ops_pushedKind c_Ops_pushedKind 1 ((some .int)) 0 0 [.inl (.int o)] S (some (.inl (.int (opTab 2 o)))) (S) := by
  refine MetS.of (lv0 := [some (.inl (.int o))]) pn_Ops rfl (Nat.le_of_ble_eq_true rfl) (fun p l e0 s m0 args below meth c0 G X => ?_)
  refine ws_iload_n (i := 0) X d_Ops_pushedKind_0 rfl rfl ?_
  refine ws_if_lt X d_Ops_pushedKind_1 (fun h1 => ?_) (fun h1 => ?_)
  · refine ws_iconst (v := 0) X d_Ops_pushedKind_20 rfl ?_
    refine ws_iret X d_Ops_pushedKind_21 ?_
    exact ⟨by simp [opTab, *], rfl⟩
  · refine ws_iload_n (i := 0) X d_Ops_pushedKind_4 rfl rfl ?_
    refine ws_gets X 2 (by decide) sl_Ops_20 d_Ops_pushedKind_5 ?_
    refine ws_tlen X 2 (by decide) d_Ops_pushedKind_8 ?_
    refine ws_icmp_ge X d_Ops_pushedKind_9 (fun h9 => ?_) (fun h9 => ?_)
    · refine ws_iconst (v := 0) X d_Ops_pushedKind_20 rfl ?_
      refine ws_iret X d_Ops_pushedKind_21 ?_
      exact ⟨by simp [opTab, *], rfl⟩
    · refine ws_gets X 2 (by decide) sl_Ops_20 d_Ops_pushedKind_12 ?_
      refine ws_iload_n (i := 0) X d_Ops_pushedKind_15 rfl rfl ?_
      refine ws_tald X 2 (by decide) (in_of3 (N := 25) rfl (by assumption) (by assumption)) d_Ops_pushedKind_16 ?_
      refine ws_goto X d_Ops_pushedKind_17 ?_
      refine ws_iret X d_Ops_pushedKind_21 ?_
      exact ⟨by simp [opTab, *], rfl⟩

/-! Method (number q) -/
def asideM (S : MS) (q : Nat) : Bool := decide (¬ S.1 4 q 7 < 3)
theorem m_Meth_isAside (S : MS) (q : Nat) (hq : q < 5) : MetE y_Meth_isAside c_Meth_isAside 1 ((some .boolean)) 0 0 [.inr (4, q)] S (some (.inl (.int (bI (asideM S q))))) (S) := by
  refine MetS.of (lv0 := [some (.inr (4, q))]) pn_Meth rfl (Nat.le_of_ble_eq_true rfl) (fun p l e0 s m0 args below meth c0 G X => ?_)
  refine ws_aload_n (i := 0) X d_Meth_isAside_0 rfl rfl ?_
  refine ws_getI X fl_Meth_24 (ob4 (by assumption)) d_Meth_isAside_1 ?_
  refine ws_iconst (v := 3) X d_Meth_isAside_4 rfl ?_
  refine ws_icmp_lt X d_Meth_isAside_5 (fun h5 => ?_) (fun h5 => ?_)
  · refine ws_iconst (v := 0) X d_Meth_isAside_12 rfl ?_
    refine ws_zret X (rfl) d_Meth_isAside_13 ?_
    exact ⟨by simp [asideM, bI, *], rfl⟩
  · refine ws_iconst (v := 1) X d_Meth_isAside_8 rfl ?_
    refine ws_goto X d_Meth_isAside_9 ?_
    refine ws_zret X (rfl) d_Meth_isAside_13 ?_
    exact ⟨by simp [asideM, bI, *], rfl⟩

theorem m_Meth_takenKind (S : MS) (q : Nat) (hq : q < 5) (i : Int32) : MetE y_Meth_takenKind c_Meth_takenKind 2 ((some .int)) 1 21 [.inr (4, q), .inl (.int i)] S (some (.inl (.int (kLocal (S.1 4 q 8) i)))) (S) := by
  refine MetS.of (lv0 := [some (.inr (4, q)), some (.inl (.int i))]) pn_Meth rfl (Nat.le_of_ble_eq_true rfl) (fun p l e0 s m0 args below meth c0 G X => ?_)
  refine ws_aload_n (i := 0) X d_Meth_takenKind_0 rfl rfl ?_
  refine ws_getI X fl_Meth_28 (ob4 (by assumption)) d_Meth_takenKind_1 ?_
  refine ws_iload_n (i := 1) X d_Meth_takenKind_4 rfl rfl ?_
  refine ws_callS1 X (m_Kinds_local _ _ _) cs_Kinds_local ml_Meth_31 rfl rfl (Nat.le_of_ble_eq_true rfl) ⟨Nat.le_of_ble_eq_true rfl, Nat.le_of_ble_eq_true rfl⟩ ⟨Nat.zero_le _, Nat.zero_le _⟩ d_Meth_takenKind_5 ?_
  refine ws_iret X d_Meth_takenKind_8 ?_
  exact ⟨rfl, rfl⟩

def codeM (S : MS) (q : Nat) (p : Int32) : Int32 := if ¬ p < 0 ∧ ¬ S.1 4 q 5 ≤ p ∧ ¬ 48 ≤ p then S.1 14 q p.toNatClampNeg else -1
theorem m_Meth_codeAt (S : MS) (q : Nat) (hq : q < 5) (p : Int32) : MetE y_Meth_codeAt c_Meth_codeAt 2 ((some .int)) 0 0 [.inr (4, q), .inl (.int p)] S (some (.inl (.int (codeM S q p)))) (S) := by
  refine MetS.of (lv0 := [some (.inr (4, q)), some (.inl (.int p))]) pn_Meth rfl (Nat.le_of_ble_eq_true rfl) (fun p l e0 s m0 args below meth c0 G X => ?_)
  refine ws_iload_n (i := 1) X d_Meth_codeAt_0 rfl rfl ?_
  refine ws_if_lt X d_Meth_codeAt_1 (fun h1 => ?_) (fun h1 => ?_)
  · refine ws_iconst (v := (-1)) X d_Meth_codeAt_27 rfl ?_
    refine ws_iret X d_Meth_codeAt_28 ?_
    exact ⟨by simp [codeM, *], rfl⟩
  · refine ws_iload_n (i := 1) X d_Meth_codeAt_4 rfl rfl ?_
    refine ws_aload_n (i := 0) X d_Meth_codeAt_5 rfl rfl ?_
    refine ws_getI X fl_Meth_37 (ob4 (by assumption)) d_Meth_codeAt_6 ?_
    refine ws_icmp_ge X d_Meth_codeAt_9 (fun h9 => ?_) (fun h9 => ?_)
    · refine ws_iconst (v := (-1)) X d_Meth_codeAt_27 rfl ?_
      refine ws_iret X d_Meth_codeAt_28 ?_
      exact ⟨by simp [codeM, *], rfl⟩
    · refine ws_iload_n (i := 1) X d_Meth_codeAt_12 rfl rfl ?_
      refine ws_bipush (v := 48) X d_Meth_codeAt_13 rfl ?_
      refine ws_icmp_ge X d_Meth_codeAt_15 (fun h15 => ?_) (fun h15 => ?_)
      · refine ws_iconst (v := (-1)) X d_Meth_codeAt_27 rfl ?_
        refine ws_iret X d_Meth_codeAt_28 ?_
        exact ⟨by simp [codeM, *], rfl⟩
      · refine ws_aload_n (i := 0) X d_Meth_codeAt_18 rfl rfl ?_
        refine ws_getR X fl_Meth_9 (ob4 (by assumption)) d_Meth_codeAt_19 ?_
        refine ws_iload_n (i := 1) X d_Meth_codeAt_22 rfl rfl ?_
        refine ws_iald X ak14 (ob14 (by assumption)) (in_of3 (N := 48) rfl (by assumption) (by assumption)) d_Meth_codeAt_23 ?_
        refine ws_goto X d_Meth_codeAt_24 ?_
        refine ws_iret X d_Meth_codeAt_28 ?_
        exact ⟨by simp [codeM, *], rfl⟩

def setCodeM (S : MS) (q : Nat) (p v : Int32) : MS := if ¬ p < 0 ∧ ¬ 48 ≤ p then wI S 14 q p.toNatClampNeg v else S
theorem m_Meth_setCode (S : MS) (q : Nat) (hq : q < 5) (p v : Int32) : MetE y_Meth_setCode c_Meth_setCode 3 (none) 0 0 [.inr (4, q), .inl (.int p), .inl (.int v)] S (none) (setCodeM S q p v) := by
  refine MetS.of (lv0 := [some (.inr (4, q)), some (.inl (.int p)), some (.inl (.int v))]) pn_Meth rfl (Nat.le_of_ble_eq_true rfl) (fun p l e0 s m0 args below meth c0 G X => ?_)
  refine ws_iload_n (i := 1) X d_Meth_setCode_0 rfl rfl ?_
  refine ws_if_lt X d_Meth_setCode_1 (fun h1 => ?_) (fun h1 => ?_)
  · refine ws_vret X d_Meth_setCode_17 ?_
    exact ⟨rfl, by simp [setCodeM, *]⟩
  · refine ws_iload_n (i := 1) X d_Meth_setCode_4 rfl rfl ?_
    refine ws_bipush (v := 48) X d_Meth_setCode_5 rfl ?_
    refine ws_icmp_ge X d_Meth_setCode_7 (fun h7 => ?_) (fun h7 => ?_)
    · refine ws_vret X d_Meth_setCode_17 ?_
      exact ⟨rfl, by simp [setCodeM, *]⟩
    · refine ws_aload_n (i := 0) X d_Meth_setCode_10 rfl rfl ?_
      refine ws_getR X fl_Meth_9 (ob4 (by assumption)) d_Meth_setCode_11 ?_
      refine ws_iload_n (i := 1) X d_Meth_setCode_14 rfl rfl ?_
      refine ws_iload_n (i := 2) X d_Meth_setCode_15 rfl rfl ?_
      refine ws_iast X ak14 (ob14 (by assumption)) (in_of3 (N := 48) rfl (by assumption) (by assumption)) d_Meth_setCode_16 ?_
      refine ws_vret X d_Meth_setCode_17 ?_
      exact ⟨rfl, by simp [setCodeM, *]⟩

def appMapM (S : MS) (q : Nat) (p k : Int32) : MS := if ¬ S.1 4 q 6 < 0 ∧ ¬ 8 ≤ S.1 4 q 6 then wI (wI (wI S 15 q (S.1 4 q 6).toNatClampNeg p) 16 q (S.1 4 q 6).toNatClampNeg k) 4 q 6 (S.1 4 q 6 + 1) else S
theorem m_Meth_appendMap (S : MS) (q : Nat) (hq : q < 5) (p k : Int32) : MetE y_Meth_appendMap c_Meth_appendMap 3 (none) 0 0 [.inr (4, q), .inl (.int p), .inl (.int k)] S (none) (appMapM S q p k) := by
  refine MetS.of (lv0 := [some (.inr (4, q)), some (.inl (.int p)), some (.inl (.int k))]) pn_Meth rfl (Nat.le_of_ble_eq_true rfl) (fun p l e0 s m0 args below meth c0 G X => ?_)
  refine ws_aload_n (i := 0) X d_Meth_appendMap_0 rfl rfl ?_
  refine ws_getI X fl_Meth_40 (ob4 (by assumption)) d_Meth_appendMap_1 ?_
  refine ws_if_lt X d_Meth_appendMap_4 (fun h4 => ?_) (fun h4 => ?_)
  · refine ws_vret X d_Meth_appendMap_46 ?_
    exact ⟨rfl, by simp [appMapM, wI, *]⟩
  · refine ws_aload_n (i := 0) X d_Meth_appendMap_7 rfl rfl ?_
    refine ws_getI X fl_Meth_40 (ob4 (by assumption)) d_Meth_appendMap_8 ?_
    refine ws_bipush (v := 8) X d_Meth_appendMap_11 rfl ?_
    refine ws_icmp_ge X d_Meth_appendMap_13 (fun h13 => ?_) (fun h13 => ?_)
    · refine ws_vret X d_Meth_appendMap_46 ?_
      exact ⟨rfl, by simp [appMapM, wI, *]⟩
    · refine ws_aload_n (i := 0) X d_Meth_appendMap_16 rfl rfl ?_
      refine ws_getR X fl_Meth_15 (ob4 (by assumption)) d_Meth_appendMap_17 ?_
      refine ws_aload_n (i := 0) X d_Meth_appendMap_20 rfl rfl ?_
      refine ws_getI X fl_Meth_40 (ob4 (by assumption)) d_Meth_appendMap_21 ?_
      refine ws_iload_n (i := 1) X d_Meth_appendMap_24 rfl rfl ?_
      refine ws_iast X ak15 (ob15 (by assumption)) (in_of3 (N := 8) rfl (by assumption) (by assumption)) d_Meth_appendMap_25 ?_
      refine ws_aload_n (i := 0) X d_Meth_appendMap_26 rfl rfl ?_
      refine ws_getR X fl_Meth_18 (ob4 (by assumption)) d_Meth_appendMap_27 ?_
      refine ws_aload_n (i := 0) X d_Meth_appendMap_30 rfl rfl ?_
      refine ws_getI X fl_Meth_40 (ob4 (by assumption)) d_Meth_appendMap_31 ?_
      refine ws_iload_n (i := 2) X d_Meth_appendMap_34 rfl rfl ?_
      refine ws_iast X ak16 (ob16 (by assumption)) (in_of3 (N := 8) rfl (by assumption) (by assumption)) d_Meth_appendMap_35 ?_
      refine ws_aload_n (i := 0) X d_Meth_appendMap_36 rfl rfl ?_
      refine ws_dup X d_Meth_appendMap_37 rfl ?_
      refine ws_getI X fl_Meth_40 (ob4 (by assumption)) d_Meth_appendMap_38 ?_
      refine ws_iconst (v := 1) X d_Meth_appendMap_41 rfl ?_
      refine ws_iadd X d_Meth_appendMap_42 ?_
      refine ws_putI X fl_Meth_40 (ob4 (by assumption)) d_Meth_appendMap_43 ?_
      refine ws_vret X d_Meth_appendMap_46 ?_
      exact ⟨rfl, by simp [appMapM, wI, *]⟩

def mapPlaceM (S : MS) (q : Nat) (i : Int32) : Int32 := if ¬ i < 0 ∧ ¬ S.1 4 q 6 ≤ i ∧ ¬ 8 ≤ i then S.1 15 q i.toNatClampNeg else -1
theorem m_Meth_mapPlace (S : MS) (q : Nat) (hq : q < 5) (i : Int32) : MetE y_Meth_mapPlace c_Meth_mapPlace 2 ((some .int)) 0 0 [.inr (4, q), .inl (.int i)] S (some (.inl (.int (mapPlaceM S q i)))) (S) := by
  refine MetS.of (lv0 := [some (.inr (4, q)), some (.inl (.int i))]) pn_Meth rfl (Nat.le_of_ble_eq_true rfl) (fun p l e0 s m0 args below meth c0 G X => ?_)
  refine ws_iload_n (i := 1) X d_Meth_mapPlace_0 rfl rfl ?_
  refine ws_if_lt X d_Meth_mapPlace_1 (fun h1 => ?_) (fun h1 => ?_)
  · refine ws_iconst (v := (-1)) X d_Meth_mapPlace_27 rfl ?_
    refine ws_iret X d_Meth_mapPlace_28 ?_
    exact ⟨by simp [mapPlaceM, *], rfl⟩
  · refine ws_iload_n (i := 1) X d_Meth_mapPlace_4 rfl rfl ?_
    refine ws_aload_n (i := 0) X d_Meth_mapPlace_5 rfl rfl ?_
    refine ws_getI X fl_Meth_40 (ob4 (by assumption)) d_Meth_mapPlace_6 ?_
    refine ws_icmp_ge X d_Meth_mapPlace_9 (fun h9 => ?_) (fun h9 => ?_)
    · refine ws_iconst (v := (-1)) X d_Meth_mapPlace_27 rfl ?_
      refine ws_iret X d_Meth_mapPlace_28 ?_
      exact ⟨by simp [mapPlaceM, *], rfl⟩
    · refine ws_iload_n (i := 1) X d_Meth_mapPlace_12 rfl rfl ?_
      refine ws_bipush (v := 8) X d_Meth_mapPlace_13 rfl ?_
      refine ws_icmp_ge X d_Meth_mapPlace_15 (fun h15 => ?_) (fun h15 => ?_)
      · refine ws_iconst (v := (-1)) X d_Meth_mapPlace_27 rfl ?_
        refine ws_iret X d_Meth_mapPlace_28 ?_
        exact ⟨by simp [mapPlaceM, *], rfl⟩
      · refine ws_aload_n (i := 0) X d_Meth_mapPlace_18 rfl rfl ?_
        refine ws_getR X fl_Meth_15 (ob4 (by assumption)) d_Meth_mapPlace_19 ?_
        refine ws_iload_n (i := 1) X d_Meth_mapPlace_22 rfl rfl ?_
        refine ws_iald X ak15 (ob15 (by assumption)) (in_of3 (N := 8) rfl (by assumption) (by assumption)) d_Meth_mapPlace_23 ?_
        refine ws_goto X d_Meth_mapPlace_24 ?_
        refine ws_iret X d_Meth_mapPlace_28 ?_
        exact ⟨by simp [mapPlaceM, *], rfl⟩

def kindsAtM (S : MS) (q : Nat) (p : Int32) : Int32 := if ¬ p < 0 ∧ ¬ S.1 4 q 5 ≤ p ∧ ¬ 48 ≤ p then S.1 17 q p.toNatClampNeg else -1
theorem m_Meth_kindsAt (S : MS) (q : Nat) (hq : q < 5) (p : Int32) : MetE y_Meth_kindsAt c_Meth_kindsAt 2 ((some .int)) 0 0 [.inr (4, q), .inl (.int p)] S (some (.inl (.int (kindsAtM S q p)))) (S) := by
  refine MetS.of (lv0 := [some (.inr (4, q)), some (.inl (.int p))]) pn_Meth rfl (Nat.le_of_ble_eq_true rfl) (fun p l e0 s m0 args below meth c0 G X => ?_)
  refine ws_iload_n (i := 1) X d_Meth_kindsAt_0 rfl rfl ?_
  refine ws_if_lt X d_Meth_kindsAt_1 (fun h1 => ?_) (fun h1 => ?_)
  · refine ws_iconst (v := (-1)) X d_Meth_kindsAt_27 rfl ?_
    refine ws_iret X d_Meth_kindsAt_28 ?_
    exact ⟨by simp [kindsAtM, *], rfl⟩
  · refine ws_iload_n (i := 1) X d_Meth_kindsAt_4 rfl rfl ?_
    refine ws_aload_n (i := 0) X d_Meth_kindsAt_5 rfl rfl ?_
    refine ws_getI X fl_Meth_37 (ob4 (by assumption)) d_Meth_kindsAt_6 ?_
    refine ws_icmp_ge X d_Meth_kindsAt_9 (fun h9 => ?_) (fun h9 => ?_)
    · refine ws_iconst (v := (-1)) X d_Meth_kindsAt_27 rfl ?_
      refine ws_iret X d_Meth_kindsAt_28 ?_
      exact ⟨by simp [kindsAtM, *], rfl⟩
    · refine ws_iload_n (i := 1) X d_Meth_kindsAt_12 rfl rfl ?_
      refine ws_bipush (v := 48) X d_Meth_kindsAt_13 rfl ?_
      refine ws_icmp_ge X d_Meth_kindsAt_15 (fun h15 => ?_) (fun h15 => ?_)
      · refine ws_iconst (v := (-1)) X d_Meth_kindsAt_27 rfl ?_
        refine ws_iret X d_Meth_kindsAt_28 ?_
        exact ⟨by simp [kindsAtM, *], rfl⟩
      · refine ws_aload_n (i := 0) X d_Meth_kindsAt_18 rfl rfl ?_
        refine ws_getR X fl_Meth_21 (ob4 (by assumption)) d_Meth_kindsAt_19 ?_
        refine ws_iload_n (i := 1) X d_Meth_kindsAt_22 rfl rfl ?_
        refine ws_iald X ak17 (ob17 (by assumption)) (in_of3 (N := 48) rfl (by assumption) (by assumption)) d_Meth_kindsAt_23 ?_
        refine ws_goto X d_Meth_kindsAt_24 ?_
        refine ws_iret X d_Meth_kindsAt_28 ?_
        exact ⟨by simp [kindsAtM, *], rfl⟩

def setKindsM (S : MS) (q : Nat) (p v : Int32) : MS := if ¬ p < 0 ∧ ¬ 48 ≤ p then wI S 17 q p.toNatClampNeg v else S
theorem m_Meth_setKinds (S : MS) (q : Nat) (hq : q < 5) (p v : Int32) : MetE y_Meth_setKinds c_Meth_setKinds 3 (none) 0 0 [.inr (4, q), .inl (.int p), .inl (.int v)] S (none) (setKindsM S q p v) := by
  refine MetS.of (lv0 := [some (.inr (4, q)), some (.inl (.int p)), some (.inl (.int v))]) pn_Meth rfl (Nat.le_of_ble_eq_true rfl) (fun p l e0 s m0 args below meth c0 G X => ?_)
  refine ws_iload_n (i := 1) X d_Meth_setKinds_0 rfl rfl ?_
  refine ws_if_lt X d_Meth_setKinds_1 (fun h1 => ?_) (fun h1 => ?_)
  · refine ws_vret X d_Meth_setKinds_17 ?_
    exact ⟨rfl, by simp [setKindsM, *]⟩
  · refine ws_iload_n (i := 1) X d_Meth_setKinds_4 rfl rfl ?_
    refine ws_bipush (v := 48) X d_Meth_setKinds_5 rfl ?_
    refine ws_icmp_ge X d_Meth_setKinds_7 (fun h7 => ?_) (fun h7 => ?_)
    · refine ws_vret X d_Meth_setKinds_17 ?_
      exact ⟨rfl, by simp [setKindsM, *]⟩
    · refine ws_aload_n (i := 0) X d_Meth_setKinds_10 rfl rfl ?_
      refine ws_getR X fl_Meth_21 (ob4 (by assumption)) d_Meth_setKinds_11 ?_
      refine ws_iload_n (i := 1) X d_Meth_setKinds_14 rfl rfl ?_
      refine ws_iload_n (i := 2) X d_Meth_setKinds_15 rfl rfl ?_
      refine ws_iast X ak17 (ob17 (by assumption)) (in_of3 (N := 48) rfl (by assumption) (by assumption)) d_Meth_setKinds_16 ?_
      refine ws_vret X d_Meth_setKinds_17 ?_
      exact ⟨rfl, by simp [setKindsM, *]⟩

/-! Tape, what writes -/
def replT (S : MS) (i v : Int32) : MS := if hasT S i = true then wI S 9 0 i.toNatClampNeg v else S
theorem m_Tape_replace (S : MS) (i v : Int32) : MetE y_Tape_replace c_Tape_replace 3 ((some .int)) 1 21 [.inr (1, 0), .inl (.int i), .inl (.int v)] S (some (.inl (.int v))) (replT S i v) := by
  refine MetS.of (lv0 := [some (.inr (1, 0)), some (.inl (.int i)), some (.inl (.int v))]) pn_Tape rfl (Nat.le_of_ble_eq_true rfl) (fun p l e0 s m0 args below meth c0 G X => ?_)
  refine ws_aload_n (i := 0) X d_Tape_replace_0 rfl rfl ?_
  refine ws_iload_n (i := 1) X d_Tape_replace_1 rfl rfl ?_
  refine ws_callV1 X (m_Tape_has _ _) cv_Tape_has ml_Tape_19 ob1 rfl rfl (Nat.le_of_ble_eq_true rfl) ⟨Nat.le_of_ble_eq_true rfl, Nat.le_of_ble_eq_true rfl⟩ ⟨Nat.zero_le _, Nat.zero_le _⟩ d_Tape_replace_2 ?_
  refine ws_ifB_eq X d_Tape_replace_5 (fun h5 => ?_) (fun h5 => ?_)
  · refine ws_iload_n (i := 2) X d_Tape_replace_15 rfl rfl ?_
    refine ws_iret X d_Tape_replace_16 ?_
    exact ⟨rfl, by simp [replT, *]⟩
  · refine ws_aload_n (i := 0) X d_Tape_replace_8 rfl rfl ?_
    refine ws_getR X fl_Tape_11 ob1 d_Tape_replace_9 ?_
    refine ws_iload_n (i := 1) X d_Tape_replace_12 rfl rfl ?_
    refine ws_iload_n (i := 2) X d_Tape_replace_13 rfl rfl ?_
    refine ws_iast X ak9 ob9 (hasT_in (by assumption)) d_Tape_replace_14 ?_
    refine ws_iload_n (i := 2) X d_Tape_replace_15 rfl rfl ?_
    refine ws_iret X d_Tape_replace_16 ?_
    exact ⟨rfl, by simp [replT, *]⟩

def appT (S : MS) (v : Int32) : MS := if ¬ S.1 1 0 1 < 0 ∧ ¬ 500 ≤ S.1 1 0 1 then wI (wI S 9 0 (S.1 1 0 1).toNatClampNeg v) 1 0 1 (S.1 1 0 1 + 1) else S
theorem m_Tape_append (S : MS) (v : Int32) : MetE y_Tape_append c_Tape_append 2 (none) 0 0 [.inr (1, 0), .inl (.int v)] S (none) (appT S v) := by
  refine MetS.of (lv0 := [some (.inr (1, 0)), some (.inl (.int v))]) pn_Tape rfl (Nat.le_of_ble_eq_true rfl) (fun p l e0 s m0 args below meth c0 G X => ?_)
  refine ws_aload_n (i := 0) X d_Tape_append_0 rfl rfl ?_
  refine ws_getI X fl_Tape_15 ob1 d_Tape_append_1 ?_
  refine ws_if_lt X d_Tape_append_4 (fun h4 => ?_) (fun h4 => ?_)
  · refine ws_vret X d_Tape_append_39 ?_
    exact ⟨rfl, by simp [appT, wI, *]⟩
  · refine ws_aload_n (i := 0) X d_Tape_append_7 rfl rfl ?_
    refine ws_getI X fl_Tape_15 ob1 d_Tape_append_8 ?_
    refine ws_aload_n (i := 0) X d_Tape_append_11 rfl rfl ?_
    refine ws_getR X fl_Tape_11 ob1 d_Tape_append_12 ?_
    refine ws_alen (v := 500) X ak9 ob9 rfl d_Tape_append_15 ?_
    refine ws_icmp_ge X d_Tape_append_16 (fun h16 => ?_) (fun h16 => ?_)
    · refine ws_vret X d_Tape_append_39 ?_
      exact ⟨rfl, by simp [appT, wI, *]⟩
    · refine ws_aload_n (i := 0) X d_Tape_append_19 rfl rfl ?_
      refine ws_getR X fl_Tape_11 ob1 d_Tape_append_20 ?_
      refine ws_aload_n (i := 0) X d_Tape_append_23 rfl rfl ?_
      refine ws_getI X fl_Tape_15 ob1 d_Tape_append_24 ?_
      refine ws_iload_n (i := 1) X d_Tape_append_27 rfl rfl ?_
      refine ws_iast X ak9 ob9 (in_of3 (N := 500) rfl (by assumption) (by assumption)) d_Tape_append_28 ?_
      refine ws_aload_n (i := 0) X d_Tape_append_29 rfl rfl ?_
      refine ws_dup X d_Tape_append_30 rfl ?_
      refine ws_getI X fl_Tape_15 ob1 d_Tape_append_31 ?_
      refine ws_iconst (v := 1) X d_Tape_append_34 rfl ?_
      refine ws_iadd X d_Tape_append_35 ?_
      refine ws_putI X fl_Tape_15 ob1 d_Tape_append_36 ?_
      refine ws_vret X d_Tape_append_39 ?_
      exact ⟨rfl, by simp [appT, wI, *]⟩

/-! Program -/
def forgetG (S : MS) : MS := wI (wI (wI S 2 0 2 0) 2 0 3 0) 3 0 3 0
theorem m_Prog_forget (S : MS) : MetE y_Prog_forget c_Prog_forget 1 (none) 0 0 [.inr (2, 0)] S (none) (forgetG S) := by
  refine MetS.of (lv0 := [some (.inr (2, 0))]) pn_Prog rfl (Nat.le_of_ble_eq_true rfl) (fun p l e0 s m0 args below meth c0 G X => ?_)
  refine ws_aload_n (i := 0) X d_Prog_forget_0 rfl rfl ?_
  refine ws_iconst (v := 0) X d_Prog_forget_1 rfl ?_
  refine ws_putI X fl_Prog_25 ob2 d_Prog_forget_2 ?_
  refine ws_aload_n (i := 0) X d_Prog_forget_5 rfl rfl ?_
  refine ws_iconst (v := 0) X d_Prog_forget_6 rfl ?_
  refine ws_putI X fl_Prog_29 ob2 d_Prog_forget_7 ?_
  refine ws_aload_n (i := 0) X d_Prog_forget_10 rfl rfl ?_
  refine ws_getR X fl_Prog_12 ob2 d_Prog_forget_11 ?_
  refine ws_iconst (v := 0) X d_Prog_forget_14 rfl ?_
  refine ws_putI X fl_Prog_32 ob3 d_Prog_forget_15 ?_
  refine ws_vret X d_Prog_forget_18 ?_
  exact ⟨rfl, rfl⟩

def okG (S : MS) (m : Int32) : Bool := decide (¬ m < 0) && decide (¬ S.1 2 0 3 ≤ m) && decide (¬ 5 ≤ m)
theorem okG_in {S : MS} {m : Int32} (h : okG S m = true) : vp_in m 5 := by
  simp only [okG, Bool.and_eq_true, decide_eq_true_eq] at h
  exact in_of3 (N := 5) rfl h.1.1 h.2
theorem m_Prog_methodAt_y (S : MS) (m : Int32) (hm : okG S m = true) : MetE y_Prog_methodAt c_Prog_methodAt 2 ((some (.object "InstrumentFiles$Method"))) 0 0 [.inr (2, 0), .inl (.int m)] S (some (.inr (4, m.toNatClampNeg))) (S) := by
  refine MetS.of (lv0 := [some (.inr (2, 0)), some (.inl (.int m))]) pn_Prog rfl (Nat.le_of_ble_eq_true rfl) (fun p l e0 s m0 args below meth c0 G X => ?_)
  refine ws_iload_n (i := 1) X d_Prog_methodAt_0 rfl rfl ?_
  refine ws_if_lt X d_Prog_methodAt_1 (fun h1 => ?_) (fun h1 => ?_)
  · refine ws_null X d_Prog_methodAt_26 ?_
    refine ws_aret X (Or.inl rfl) d_Prog_methodAt_27 ?_
    first | exact ⟨rfl, rfl⟩ | (exfalso; simp [okG, *] at hm)
  · refine ws_iload_n (i := 1) X d_Prog_methodAt_4 rfl rfl ?_
    refine ws_aload_n (i := 0) X d_Prog_methodAt_5 rfl rfl ?_
    refine ws_getI X fl_Prog_29 ob2 d_Prog_methodAt_6 ?_
    refine ws_icmp_ge X d_Prog_methodAt_9 (fun h9 => ?_) (fun h9 => ?_)
    · refine ws_null X d_Prog_methodAt_26 ?_
      refine ws_aret X (Or.inl rfl) d_Prog_methodAt_27 ?_
      first | exact ⟨rfl, rfl⟩ | (exfalso; simp [okG, *] at hm)
    · refine ws_iload_n (i := 1) X d_Prog_methodAt_12 rfl rfl ?_
      refine ws_iconst (v := 5) X d_Prog_methodAt_13 rfl ?_
      refine ws_icmp_ge X d_Prog_methodAt_14 (fun h14 => ?_) (fun h14 => ?_)
      · refine ws_null X d_Prog_methodAt_26 ?_
        refine ws_aret X (Or.inl rfl) d_Prog_methodAt_27 ?_
        first | exact ⟨rfl, rfl⟩ | (exfalso; simp [okG, *] at hm)
      · refine ws_aload_n (i := 0) X d_Prog_methodAt_17 rfl rfl ?_
        refine ws_getR X fl_Prog_20 ob2 d_Prog_methodAt_18 ?_
        refine ws_iload_n (i := 1) X d_Prog_methodAt_21 rfl rfl ?_
        refine ws_aald X ak10 ob10 (okG_in hm) d_Prog_methodAt_22 ?_
        refine ws_goto X d_Prog_methodAt_23 ?_
        refine ws_aret X (Or.inr ⟨_, rfl⟩) d_Prog_methodAt_27 ?_
        first | exact ⟨rfl, rfl⟩ | (exfalso; simp [okG, *] at hm)

theorem m_Prog_methodAt_n (S : MS) (m : Int32) (hm : okG S m = false) : MetE y_Prog_methodAt c_Prog_methodAt 2 ((some (.object "InstrumentFiles$Method"))) 0 0 [.inr (2, 0), .inl (.int m)] S (some (.inl .null)) (S) := by
  refine MetS.of (lv0 := [some (.inr (2, 0)), some (.inl (.int m))]) pn_Prog rfl (Nat.le_of_ble_eq_true rfl) (fun p l e0 s m0 args below meth c0 G X => ?_)
  refine ws_iload_n (i := 1) X d_Prog_methodAt_0 rfl rfl ?_
  refine ws_if_lt X d_Prog_methodAt_1 (fun h1 => ?_) (fun h1 => ?_)
  · refine ws_null X d_Prog_methodAt_26 ?_
    refine ws_aret X (Or.inl rfl) d_Prog_methodAt_27 ?_
    first | exact ⟨rfl, rfl⟩ | (exfalso; simp [okG, *] at hm)
  · refine ws_iload_n (i := 1) X d_Prog_methodAt_4 rfl rfl ?_
    refine ws_aload_n (i := 0) X d_Prog_methodAt_5 rfl rfl ?_
    refine ws_getI X fl_Prog_29 ob2 d_Prog_methodAt_6 ?_
    refine ws_icmp_ge X d_Prog_methodAt_9 (fun h9 => ?_) (fun h9 => ?_)
    · refine ws_null X d_Prog_methodAt_26 ?_
      refine ws_aret X (Or.inl rfl) d_Prog_methodAt_27 ?_
      first | exact ⟨rfl, rfl⟩ | (exfalso; simp [okG, *] at hm)
    · refine ws_iload_n (i := 1) X d_Prog_methodAt_12 rfl rfl ?_
      refine ws_iconst (v := 5) X d_Prog_methodAt_13 rfl ?_
      refine ws_icmp_ge X d_Prog_methodAt_14 (fun h14 => ?_) (fun h14 => ?_)
      · refine ws_null X d_Prog_methodAt_26 ?_
        refine ws_aret X (Or.inl rfl) d_Prog_methodAt_27 ?_
        first | exact ⟨rfl, rfl⟩ | (exfalso; simp [okG, *] at hm)
      · refine ws_aload_n (i := 0) X d_Prog_methodAt_17 rfl rfl ?_
        refine ws_getR X fl_Prog_20 ob2 d_Prog_methodAt_18 ?_
        refine ws_iload_n (i := 1) X d_Prog_methodAt_21 rfl rfl ?_
        refine ws_aald X ak10 ob10 (in_of3 (N := 5) rfl (by assumption) (by assumption)) d_Prog_methodAt_22 ?_
        refine ws_goto X d_Prog_methodAt_23 ?_
        refine ws_aret X (Or.inr ⟨_, rfl⟩) d_Prog_methodAt_27 ?_
        first | exact ⟨rfl, rfl⟩ | (exfalso; simp [okG, *] at hm)

def okN (S : MS) : Bool := decide (¬ S.1 2 0 3 < 0) && decide (¬ 5 ≤ S.1 2 0 3)
theorem m_Prog_nextMethod_y (S : MS) (hm : okN S = true) : MetE y_Prog_nextMethod c_Prog_nextMethod 1 ((some (.object "InstrumentFiles$Method"))) 0 0 [.inr (2, 0)] S (some (.inr (4, (S.1 2 0 3).toNatClampNeg))) (S) := by
  refine MetS.of (lv0 := [some (.inr (2, 0))]) pn_Prog rfl (Nat.le_of_ble_eq_true rfl) (fun p l e0 s m0 args below meth c0 G X => ?_)
  refine ws_aload_n (i := 0) X d_Prog_nextMethod_0 rfl rfl ?_
  refine ws_getI X fl_Prog_29 ob2 d_Prog_nextMethod_1 ?_
  refine ws_if_lt X d_Prog_nextMethod_4 (fun h4 => ?_) (fun h4 => ?_)
  · refine ws_null X d_Prog_nextMethod_27 ?_
    refine ws_aret X (Or.inl rfl) d_Prog_nextMethod_28 ?_
    first | exact ⟨rfl, rfl⟩ | (exfalso; simp [okN, *] at hm)
  · refine ws_aload_n (i := 0) X d_Prog_nextMethod_7 rfl rfl ?_
    refine ws_getI X fl_Prog_29 ob2 d_Prog_nextMethod_8 ?_
    refine ws_iconst (v := 5) X d_Prog_nextMethod_11 rfl ?_
    refine ws_icmp_ge X d_Prog_nextMethod_12 (fun h12 => ?_) (fun h12 => ?_)
    · refine ws_null X d_Prog_nextMethod_27 ?_
      refine ws_aret X (Or.inl rfl) d_Prog_nextMethod_28 ?_
      first | exact ⟨rfl, rfl⟩ | (exfalso; simp [okN, *] at hm)
    · refine ws_aload_n (i := 0) X d_Prog_nextMethod_15 rfl rfl ?_
      refine ws_getR X fl_Prog_20 ob2 d_Prog_nextMethod_16 ?_
      refine ws_aload_n (i := 0) X d_Prog_nextMethod_19 rfl rfl ?_
      refine ws_getI X fl_Prog_29 ob2 d_Prog_nextMethod_20 ?_
      refine ws_aald X ak10 ob10 (in_of3 (N := 5) rfl (by assumption) (by assumption)) d_Prog_nextMethod_23 ?_
      refine ws_goto X d_Prog_nextMethod_24 ?_
      refine ws_aret X (Or.inr ⟨_, rfl⟩) d_Prog_nextMethod_28 ?_
      first | exact ⟨rfl, rfl⟩ | (exfalso; simp [okN, *] at hm)

theorem m_Prog_nextMethod_n (S : MS) (hm : okN S = false) : MetE y_Prog_nextMethod c_Prog_nextMethod 1 ((some (.object "InstrumentFiles$Method"))) 0 0 [.inr (2, 0)] S (some (.inl .null)) (S) := by
  refine MetS.of (lv0 := [some (.inr (2, 0))]) pn_Prog rfl (Nat.le_of_ble_eq_true rfl) (fun p l e0 s m0 args below meth c0 G X => ?_)
  refine ws_aload_n (i := 0) X d_Prog_nextMethod_0 rfl rfl ?_
  refine ws_getI X fl_Prog_29 ob2 d_Prog_nextMethod_1 ?_
  refine ws_if_lt X d_Prog_nextMethod_4 (fun h4 => ?_) (fun h4 => ?_)
  · refine ws_null X d_Prog_nextMethod_27 ?_
    refine ws_aret X (Or.inl rfl) d_Prog_nextMethod_28 ?_
    first | exact ⟨rfl, rfl⟩ | (exfalso; simp [okN, *] at hm)
  · refine ws_aload_n (i := 0) X d_Prog_nextMethod_7 rfl rfl ?_
    refine ws_getI X fl_Prog_29 ob2 d_Prog_nextMethod_8 ?_
    refine ws_iconst (v := 5) X d_Prog_nextMethod_11 rfl ?_
    refine ws_icmp_ge X d_Prog_nextMethod_12 (fun h12 => ?_) (fun h12 => ?_)
    · refine ws_null X d_Prog_nextMethod_27 ?_
      refine ws_aret X (Or.inl rfl) d_Prog_nextMethod_28 ?_
      first | exact ⟨rfl, rfl⟩ | (exfalso; simp [okN, *] at hm)
    · refine ws_aload_n (i := 0) X d_Prog_nextMethod_15 rfl rfl ?_
      refine ws_getR X fl_Prog_20 ob2 d_Prog_nextMethod_16 ?_
      refine ws_aload_n (i := 0) X d_Prog_nextMethod_19 rfl rfl ?_
      refine ws_getI X fl_Prog_29 ob2 d_Prog_nextMethod_20 ?_
      refine ws_aald X ak10 ob10 (in_of3 (N := 5) rfl (by assumption) (by assumption)) d_Prog_nextMethod_23 ?_
      refine ws_goto X d_Prog_nextMethod_24 ?_
      refine ws_aret X (Or.inr ⟨_, rfl⟩) d_Prog_nextMethod_28 ?_
      first | exact ⟨rfl, rfl⟩ | (exfalso; simp [okN, *] at hm)


