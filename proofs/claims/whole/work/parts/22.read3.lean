/-! Reader: the METHODS, the FILE; read -/
section L17
variable {p : Program} {l : Launch} {e0 : Env} {s : State} {m0 : MethodId} {args : Array Value} {below : List Frame} {meth : Method} {c0 : Code} {G : GG} {A : Nat → Prop} {Q : State → Prop}
theorem l_sumG (X : CX p s m0 args meth c0 G A c_Tape_sumAhead y_Tape_sumAhead.cls 4 ((some .int))) {S : MS} {x : Int32} : ∀ (n i : Nat), i + n = min x.toNatClampNeg 500 → (∀ j : Int32, WS p l e0 (rmS 0 0) s m0 args below meth c0 G A 4 0 0 Q 33 [some (.inr (1, 0)), some (.inl (.int x)), some (.inl (.int (sumTo (S.1 9 0) (min x.toNatClampNeg 500)))), some (.inl (.int j))] [] (S)) → WS p l e0 (rmS 0 0) s m0 args below meth c0 G A 4 0 0 Q 4 [some (.inr (1, 0)), some (.inl (.int x)), some (.inl (.int (sumTo (S.1 9 0) i))), some (.inl (.int (nI i)))] [] (S) := by
  intro n
  have hx := cl_lt x
  induction n with
  | zero =>
    intro i hi K
    have e : i = min x.toNatClampNeg 500 := by omega
    have h5 : x ≤ nI i ∨ (500 : Int32) ≤ nI i := by
      rw [le_cl x (by omega), show (500 : Int32) = nI 500 from rfl, nI_leI (by omega) (by omega)]; omega
    rw [← e] at K
    refine ws_iload_n (i := 3) X d_Tape_sumAhead_4 rfl rfl ?_
    refine ws_iload_n (i := 1) X d_Tape_sumAhead_5 rfl rfl ?_
    refine ws_icmp_ge X d_Tape_sumAhead_6 (fun h6 => ?_) (fun h6 => ?_)
    · exact K _
    · refine ws_iload_n (i := 3) X d_Tape_sumAhead_9 rfl rfl ?_
      refine ws_aload_n (i := 0) X d_Tape_sumAhead_10 rfl rfl ?_
      refine ws_getR X fl_Tape_11 ob1 d_Tape_sumAhead_11 ?_
      refine ws_alen (v := 500) X ak9 ob9 rfl d_Tape_sumAhead_14 ?_
      refine ws_icmp_ge X d_Tape_sumAhead_15 (fun h15 => ?_) (fun h15 => ?_)
      · exact K _
      · exact (h5.elim h6 h15).elim
  | succ n ih =>
    intro i hi K
    have e := nI_c (i := i) (by omega)
    have hh : ¬ x ≤ nI i := by rw [le_cl x (by omega)]; omega
    have h5 : ¬ (500 : Int32) ≤ nI i := by rw [show (500 : Int32) = nI 500 from rfl, nI_leI (by omega) (by omega)]; omega
    have hin : vp_in (nI i) 500 := vp_in_nI (by omega) (by omega)
    refine ws_iload_n (i := 3) X d_Tape_sumAhead_4 rfl rfl ?_
    refine ws_iload_n (i := 1) X d_Tape_sumAhead_5 rfl rfl ?_
    refine ws_icmp_ge X d_Tape_sumAhead_6 (fun h6 => ?_) (fun h6 => ?_)
    · exact absurd h6 hh
    · refine ws_iload_n (i := 3) X d_Tape_sumAhead_9 rfl rfl ?_
      refine ws_aload_n (i := 0) X d_Tape_sumAhead_10 rfl rfl ?_
      refine ws_getR X fl_Tape_11 ob1 d_Tape_sumAhead_11 ?_
      refine ws_alen (v := 500) X ak9 ob9 rfl d_Tape_sumAhead_14 ?_
      refine ws_icmp_ge X d_Tape_sumAhead_15 (fun h15 => ?_) (fun h15 => ?_)
      · exact absurd h15 h5
      · refine ws_iload_n (i := 2) X d_Tape_sumAhead_18 rfl rfl ?_
        refine ws_aload_n (i := 0) X d_Tape_sumAhead_19 rfl rfl ?_
        refine ws_getR X fl_Tape_11 ob1 d_Tape_sumAhead_20 ?_
        refine ws_iload_n (i := 3) X d_Tape_sumAhead_23 rfl rfl ?_
        refine ws_iald X ak9 ob9 (by assumption) d_Tape_sumAhead_24 ?_
        refine ws_iadd X d_Tape_sumAhead_25 ?_
        refine ws_istn_2 X rfl d_Tape_sumAhead_26 (by decide) ?_
        refine ws_iinc_3 X rfl d_Tape_sumAhead_27 rfl (by decide) ?_
        refine ws_goto X d_Tape_sumAhead_30 ?_
        rw [e, nI_inc]; exact ih (i + 1) (by omega) K
end L17
def sumX (S : MS) (x : Int32) : Int32 := sumTo (S.1 9 0) (min x.toNatClampNeg 500) &&& 255
theorem m_Tape_sumAhead_g (S : MS) (x : Int32) : MetE y_Tape_sumAhead c_Tape_sumAhead 4 ((some .int)) 0 0 [.inr (1, 0), .inl (.int x)] S (some (.inl (.int (sumX S x)))) (S) := by
  refine MetS.of (lv0 := [some (.inr (1, 0)), some (.inl (.int x)), none, none]) pn_Tape rfl (Nat.le_of_ble_eq_true rfl) (fun p0 l0 e0 s0 m0 args below meth c0 G X => ?_)
  refine ws_iconst (v := 0) X d_Tape_sumAhead_0 rfl ?_
  refine ws_istn_2 X rfl d_Tape_sumAhead_1 (by decide) ?_
  refine ws_iconst (v := 0) X d_Tape_sumAhead_2 rfl ?_
  refine ws_istn_3 X rfl d_Tape_sumAhead_3 (by decide) ?_
  refine l_sumG X (min x.toNatClampNeg 500) 0 (by omega) (fun j => ?_)
  refine ws_iload_n (i := 2) X d_Tape_sumAhead_33 rfl rfl ?_
  refine ws_sipush (v := 255) X d_Tape_sumAhead_34 rfl ?_
  refine ws_iand X d_Tape_sumAhead_37 ?_
  refine ws_iret X d_Tape_sumAhead_38 ?_
  exact ⟨rfl, rfl⟩

def mtQ (S : MS) : Nat := (S.1 2 0 3).toNatClampNeg
def mt1 (S : MS) : MS := wI (takeS (nameS0 S) 0 255 6) 4 (mtQ S) 0 (takeV (nameS0 S) 0 255)
def mt2 (S : MS) : MS := hd5 (mt1 S) (mtQ S)
def mt3 (S : MS) : MS := codeS (mt2 S) (mtQ S)
def mt4 (S : MS) : MS := mapsS (mt3 S) (mtQ S)
def mtS (S : MS) : MS := wI (mt4 S) 2 0 3 ((mt4 S).1 2 0 3 + 1)
def mtGo : Nat → MS → MS
  | 0, S => S
  | n + 1, S => if S.1 5 0 1 = 0 then mtGo n (if okN S = true then mtS S else S) else S
theorem okN_lt {S : MS} (h : okN S = true) : (S.1 2 0 3).toNatClampNeg < 5 := by
  simp only [okN, Bool.and_eq_true, decide_eq_true_eq] at h
  have h2 := in_of3 (N := 5) (n := 5) rfl h.1 h.2
  exact Nat.not_le.mp fun z => h2 (Or.inr z)
section L18
variable {p : Program} {l : Launch} {e0 : Env} {s : State} {m0 : MethodId} {args : Array Value} {below : List Frame} {meth : Method} {c0 : Code} {G : GG} {A : Nat → Prop} {Q : State → Prop}
theorem l_mt (X : CX p s m0 args meth c0 G A c_Read_readMethods y_Read_readMethods.cls 6 (none)) {x : Int32} : ∀ (n i : Nat) (S : MS) (a5 : Option MV), i + n = x.toNatClampNeg → (∀ (j : Int32) (a5 : Option MV), WS p l e0 (rmS 5 118) s m0 args below meth c0 G A 6 0 0 Q 84 [some (.inr (5, 0)), some (.inr (1, 0)), some (.inr (2, 0)), some (.inl (.int x)), some (.inl (.int j)), a5] [] (mtGo n S)) → WS p l e0 (rmS 5 118) s m0 args below meth c0 G A 6 0 0 Q 12 [some (.inr (5, 0)), some (.inr (1, 0)), some (.inr (2, 0)), some (.inl (.int x)), some (.inl (.int (nI i))), a5] [] (S) := by
  intro n
  have hx := cl_lt x
  induction n with
  | zero =>
    intro i S a5 hi' K
    have hh : x ≤ nI i := by rw [le_cl x (by omega)]; omega
    refine ws_iload (i := 4) X d_Read_readMethods_12 rfl ?_
    refine ws_iload_n (i := 3) X d_Read_readMethods_14 rfl rfl ?_
    refine ws_icmp_ge X d_Read_readMethods_15 (fun h15 => ?_) (fun h15 => ?_)
    · exact K _ _
    · exact absurd hh h15
  | succ n ih =>
    intro i S a5 hi' K
    have hh : ¬ x ≤ nI i := by rw [le_cl x (by omega)]; omega
    rw [mtGo] at K
    refine ws_iload (i := 4) X d_Read_readMethods_12 rfl ?_
    refine ws_iload_n (i := 3) X d_Read_readMethods_14 rfl rfl ?_
    refine ws_icmp_ge X d_Read_readMethods_15 (fun h15 => ?_) (fun h15 => ?_)
    · exact absurd h15 hh
    · refine ws_aload_n (i := 0) X d_Read_readMethods_18 rfl rfl ?_
      refine ws_getI X fl_Read_15 ob5 d_Read_readMethods_19 ?_
      refine ws_if_ne X d_Read_readMethods_22 (fun h22 => ?_) (fun h22 => ?_)
      · simp only [eq_false h15, eq_false h22, if_true, if_false] at K; exact K _ _
      · rcases hm : okN S with _ | _
        · refine ws_aload_n (i := 2) X d_Read_readMethods_25 rfl rfl ?_
          refine ws_callV1 X (m_Prog_nextMethod_n _ hm) cv_Prog_nextMethod ml_Read_71 ob2 rfl rfl (Nat.le_of_ble_eq_true rfl) ⟨Nat.le_of_ble_eq_true rfl, Nat.le_of_ble_eq_true rfl⟩ ⟨Nat.zero_le _, Nat.zero_le _⟩ d_Read_readMethods_26 ?_
          refine ws_aNst_5 X rfl d_Read_readMethods_29 (by decide) ?_
          refine ws_aNload (i := 5) X d_Read_readMethods_31 rfl ?_
          refine ws_ifnull_n X d_Read_readMethods_33 ?_
          refine ws_iinc_4 X rfl d_Read_readMethods_78 rfl (by decide) ?_
          refine ws_goto X d_Read_readMethods_81 ?_
          rw [nI_inc]; simp only [eq_false h15, eq_true h22, hm, if_true, if_false, Bool.false_eq_true] at K; exact ih (i + 1) _ _ (by omega) K
        · refine ws_aload_n (i := 2) X d_Read_readMethods_25 rfl rfl ?_
          refine ws_callV1 X (m_Prog_nextMethod_y _ hm) cv_Prog_nextMethod ml_Read_71 ob2 rfl rfl (Nat.le_of_ble_eq_true rfl) ⟨Nat.le_of_ble_eq_true rfl, Nat.le_of_ble_eq_true rfl⟩ ⟨Nat.zero_le _, Nat.zero_le _⟩ d_Read_readMethods_26 ?_
          have hq := okN_lt hm
          refine ws_ast_5 X rfl d_Read_readMethods_29 (by decide) ?_
          refine ws_aload (i := 5) X d_Read_readMethods_31 rfl ?_
          refine ws_ifnull_r X d_Read_readMethods_33 ?_
          refine ws_aload (i := 5) X d_Read_readMethods_36 rfl ?_
          refine ws_aload_n (i := 0) X d_Read_readMethods_38 rfl rfl ?_
          refine ws_aload_n (i := 1) X d_Read_readMethods_39 rfl rfl ?_
          refine ws_aload_n (i := 2) X d_Read_readMethods_40 rfl rfl ?_
          refine ws_callV1 X (m_Read_takeName _ (m3_of hm).1 (m3_of hm).2) cv_Read_takeName ml_Read_75 ob5 rfl rfl (Nat.le_of_ble_eq_true rfl) ⟨Nat.le_of_ble_eq_true rfl, Nat.le_of_ble_eq_true rfl⟩ ⟨Nat.zero_le _, Nat.zero_le _⟩ d_Read_readMethods_41 ?_
          refine ws_putI X fl_Read_79 (ob4 (by assumption)) d_Read_readMethods_44 ?_
          refine ws_aload_n (i := 0) X d_Read_readMethods_47 rfl rfl ?_
          refine ws_aload_n (i := 1) X d_Read_readMethods_48 rfl rfl ?_
          refine ws_aload (i := 5) X d_Read_readMethods_49 rfl ?_
          refine ws_callV0 X (m_Read_readHead _ _ (by assumption)) cv_Read_readHead ml_Read_84 ob5 rfl rfl (Nat.le_of_ble_eq_true rfl) ⟨Nat.le_of_ble_eq_true rfl, Nat.le_of_ble_eq_true rfl⟩ ⟨Nat.zero_le _, Nat.zero_le _⟩ d_Read_readMethods_51 ?_
          refine ws_aload_n (i := 0) X d_Read_readMethods_54 rfl rfl ?_
          refine ws_aload_n (i := 1) X d_Read_readMethods_55 rfl rfl ?_
          refine ws_aload (i := 5) X d_Read_readMethods_56 rfl ?_
          refine ws_callV0 X (m_Read_readCode _ _ (by assumption)) cv_Read_readCode ml_Read_88 ob5 rfl rfl (Nat.le_of_ble_eq_true rfl) ⟨Nat.le_of_ble_eq_true rfl, Nat.le_of_ble_eq_true rfl⟩ ⟨Nat.zero_le _, Nat.zero_le _⟩ d_Read_readMethods_58 ?_
          refine ws_aload_n (i := 0) X d_Read_readMethods_61 rfl rfl ?_
          refine ws_aload_n (i := 1) X d_Read_readMethods_62 rfl rfl ?_
          refine ws_aload (i := 5) X d_Read_readMethods_63 rfl ?_
          refine ws_callV0 X (m_Read_readMaps _ _ (by assumption)) cv_Read_readMaps ml_Read_91 ob5 rfl rfl (Nat.le_of_ble_eq_true rfl) ⟨Nat.le_of_ble_eq_true rfl, Nat.le_of_ble_eq_true rfl⟩ ⟨Nat.zero_le _, Nat.zero_le _⟩ d_Read_readMethods_65 ?_
          refine ws_aload_n (i := 2) X d_Read_readMethods_68 rfl rfl ?_
          refine ws_dup X d_Read_readMethods_69 rfl ?_
          refine ws_getI X fl_Read_94 ob2 d_Read_readMethods_70 ?_
          refine ws_iconst (v := 1) X d_Read_readMethods_73 rfl ?_
          refine ws_iadd X d_Read_readMethods_74 ?_
          refine ws_putI X fl_Read_94 ob2 d_Read_readMethods_75 ?_
          refine ws_iinc_4 X rfl d_Read_readMethods_78 rfl (by decide) ?_
          refine ws_goto X d_Read_readMethods_81 ?_
          rw [nI_inc]; simp only [eq_false h15, eq_true h22, hm, if_true, if_false] at K; exact ih (i + 1) _ _ (by omega) K
end L18
def methodsS (S : MS) : MS := mtGo (takeV S 1 5).toNatClampNeg (takeS S 1 5 3)
theorem m_Read_readMethods (S : MS) : MetE y_Read_readMethods c_Read_readMethods 6 (none) 5 118 [.inr (5, 0), .inr (1, 0), .inr (2, 0)] S (none) (methodsS S) := by
  refine MetS.of (lv0 := [some (.inr (5, 0)), some (.inr (1, 0)), some (.inr (2, 0)), none, none, none]) pn_Read rfl (Nat.le_of_ble_eq_true rfl) (fun p0 l0 e0 s0 m0 args below meth c0 G X => ?_)
  refine ws_aload_n (i := 0) X d_Read_readMethods_0 rfl rfl ?_
  refine ws_aload_n (i := 1) X d_Read_readMethods_1 rfl rfl ?_
  refine ws_iconst (v := 1) X d_Read_readMethods_2 rfl ?_
  refine ws_iconst (v := 5) X d_Read_readMethods_3 rfl ?_
  refine ws_iconst (v := 3) X d_Read_readMethods_4 rfl ?_
  refine ws_callV1 X (m_Read_take _ _ _ _) cv_Read_take ml_Read_23 ob5 rfl rfl (Nat.le_of_ble_eq_true rfl) ⟨Nat.le_of_ble_eq_true rfl, Nat.le_of_ble_eq_true rfl⟩ ⟨Nat.zero_le _, Nat.zero_le _⟩ d_Read_readMethods_5 ?_
  refine ws_istn_3 X rfl d_Read_readMethods_8 (by decide) ?_
  refine ws_iconst (v := 0) X d_Read_readMethods_9 rfl ?_
  refine ws_ist_4 X rfl d_Read_readMethods_10 (by decide) ?_
  refine l_mt X (takeV S 1 5).toNatClampNeg 0 _ none (by omega) (fun j a5 => ?_)
  refine ws_vret X d_Read_readMethods_84 ?_
  exact ⟨rfl, rfl⟩

def rf0 (S : MS) : MS := forgetG (wI (wI S 5 0 0 0) 5 0 1 0)
def rf2 (S : MS) : MS := takeS (takeS (rf0 S) 73 73 2) 78 78 2
def rf3 (S : MS) : MS := wI (takeS (rf2 S) 1 2 2) 2 0 2 (takeV (rf2 S) 1 2)
def rf5 (S : MS) : MS := methodsS (poolS (rf3 S))
def rf6 (S : MS) : MS := takeS (rf5 S) (sumX (rf5 S) ((rf5 S).1 5 0 0)) (sumX (rf5 S) ((rf5 S).1 5 0 0)) 9
def rfS (S : MS) : MS := if (rf6 S).1 5 0 1 = 0 then (if hasT (rf6 S) ((rf6 S).1 5 0 0) = true then wI (rf6 S) 5 0 1 10 else rf6 S) else rf6 S
theorem m_Read_readFile (S : MS) : MetE y_Read_readFile c_Read_readFile 4 (none) 6 143 [.inr (5, 0), .inr (1, 0), .inr (2, 0)] S (none) (rfS S) := by
  refine MetS.of (lv0 := [some (.inr (5, 0)), some (.inr (1, 0)), some (.inr (2, 0)), none]) pn_Read rfl (Nat.le_of_ble_eq_true rfl) (fun p0 l0 e0 s0 m0 args below meth c0 G X => ?_)
  refine ws_aload_n (i := 0) X d_Read_readFile_0 rfl rfl ?_
  refine ws_iconst (v := 0) X d_Read_readFile_1 rfl ?_
  refine ws_putI X fl_Read_9 ob5 d_Read_readFile_2 ?_
  refine ws_aload_n (i := 0) X d_Read_readFile_5 rfl rfl ?_
  refine ws_iconst (v := 0) X d_Read_readFile_6 rfl ?_
  refine ws_putI X fl_Read_15 ob5 d_Read_readFile_7 ?_
  refine ws_aload_n (i := 2) X d_Read_readFile_10 rfl rfl ?_
  refine ws_callV0 X (m_Prog_forget _) cv_Prog_forget ml_Read_18 ob2 rfl rfl (Nat.le_of_ble_eq_true rfl) ⟨Nat.le_of_ble_eq_true rfl, Nat.le_of_ble_eq_true rfl⟩ ⟨Nat.zero_le _, Nat.zero_le _⟩ d_Read_readFile_11 ?_
  show WS _ _ _ _ _ _ _ _ _ _ _ _ _ _ _ _ _ _ _ (rf0 S)
  refine ws_aload_n (i := 0) X d_Read_readFile_14 rfl rfl ?_
  refine ws_aload_n (i := 1) X d_Read_readFile_15 rfl rfl ?_
  refine ws_bipush (v := 73) X d_Read_readFile_16 rfl ?_
  refine ws_bipush (v := 73) X d_Read_readFile_18 rfl ?_
  refine ws_iconst (v := 2) X d_Read_readFile_20 rfl ?_
  refine ws_callV1 X (m_Read_take _ _ _ _) cv_Read_take ml_Read_23 ob5 rfl rfl (Nat.le_of_ble_eq_true rfl) ⟨Nat.le_of_ble_eq_true rfl, Nat.le_of_ble_eq_true rfl⟩ ⟨Nat.zero_le _, Nat.zero_le _⟩ d_Read_readFile_21 ?_
  refine ws_pop X d_Read_readFile_24 rfl ?_
  refine ws_aload_n (i := 0) X d_Read_readFile_25 rfl rfl ?_
  refine ws_aload_n (i := 1) X d_Read_readFile_26 rfl rfl ?_
  refine ws_bipush (v := 78) X d_Read_readFile_27 rfl ?_
  refine ws_bipush (v := 78) X d_Read_readFile_29 rfl ?_
  refine ws_iconst (v := 2) X d_Read_readFile_31 rfl ?_
  refine ws_callV1 X (m_Read_take _ _ _ _) cv_Read_take ml_Read_23 ob5 rfl rfl (Nat.le_of_ble_eq_true rfl) ⟨Nat.le_of_ble_eq_true rfl, Nat.le_of_ble_eq_true rfl⟩ ⟨Nat.zero_le _, Nat.zero_le _⟩ d_Read_readFile_32 ?_
  refine ws_pop X d_Read_readFile_35 rfl ?_
  show WS _ _ _ _ _ _ _ _ _ _ _ _ _ _ _ _ _ _ _ (rf2 S)
  refine ws_aload_n (i := 2) X d_Read_readFile_36 rfl rfl ?_
  refine ws_aload_n (i := 0) X d_Read_readFile_37 rfl rfl ?_
  refine ws_aload_n (i := 1) X d_Read_readFile_38 rfl rfl ?_
  refine ws_iconst (v := 1) X d_Read_readFile_39 rfl ?_
  refine ws_iconst (v := 2) X d_Read_readFile_40 rfl ?_
  refine ws_iconst (v := 2) X d_Read_readFile_41 rfl ?_
  refine ws_callV1 X (m_Read_take _ _ _ _) cv_Read_take ml_Read_23 ob5 rfl rfl (Nat.le_of_ble_eq_true rfl) ⟨Nat.le_of_ble_eq_true rfl, Nat.le_of_ble_eq_true rfl⟩ ⟨Nat.zero_le _, Nat.zero_le _⟩ d_Read_readFile_42 ?_
  refine ws_putI X fl_Read_27 ob2 d_Read_readFile_45 ?_
  show WS _ _ _ _ _ _ _ _ _ _ _ _ _ _ _ _ _ _ _ (rf3 S)
  refine ws_aload_n (i := 0) X d_Read_readFile_48 rfl rfl ?_
  refine ws_aload_n (i := 1) X d_Read_readFile_49 rfl rfl ?_
  refine ws_aload_n (i := 2) X d_Read_readFile_50 rfl rfl ?_
  refine ws_getR X fl_Read_30 ob2 d_Read_readFile_51 ?_
  refine ws_callV0 X (m_Read_readPool _) cv_Read_readPool ml_Read_34 ob5 rfl rfl (Nat.le_of_ble_eq_true rfl) ⟨Nat.le_of_ble_eq_true rfl, Nat.le_of_ble_eq_true rfl⟩ ⟨Nat.zero_le _, Nat.zero_le _⟩ d_Read_readFile_54 ?_
  refine ws_aload_n (i := 0) X d_Read_readFile_57 rfl rfl ?_
  refine ws_aload_n (i := 1) X d_Read_readFile_58 rfl rfl ?_
  refine ws_aload_n (i := 2) X d_Read_readFile_59 rfl rfl ?_
  refine ws_callV0 X (m_Read_readMethods _) cv_Read_readMethods ml_Read_38 ob5 rfl rfl (Nat.le_of_ble_eq_true rfl) ⟨Nat.le_of_ble_eq_true rfl, Nat.le_of_ble_eq_true rfl⟩ ⟨Nat.zero_le _, Nat.zero_le _⟩ d_Read_readFile_60 ?_
  show WS _ _ _ _ _ _ _ _ _ _ _ _ _ _ _ _ _ _ _ (rf5 S)
  refine ws_aload_n (i := 1) X d_Read_readFile_63 rfl rfl ?_
  refine ws_aload_n (i := 0) X d_Read_readFile_64 rfl rfl ?_
  refine ws_getI X fl_Read_9 ob5 d_Read_readFile_65 ?_
  refine ws_callV1 X (m_Tape_sumAhead_g _ _) cv_Tape_sumAhead ml_Read_42 ob1 rfl rfl (Nat.le_of_ble_eq_true rfl) ⟨Nat.le_of_ble_eq_true rfl, Nat.le_of_ble_eq_true rfl⟩ ⟨Nat.zero_le _, Nat.zero_le _⟩ d_Read_readFile_68 ?_
  refine ws_istn_3 X rfl d_Read_readFile_71 (by decide) ?_
  refine ws_aload_n (i := 0) X d_Read_readFile_72 rfl rfl ?_
  refine ws_aload_n (i := 1) X d_Read_readFile_73 rfl rfl ?_
  refine ws_iload_n (i := 3) X d_Read_readFile_74 rfl rfl ?_
  refine ws_iload_n (i := 3) X d_Read_readFile_75 rfl rfl ?_
  refine ws_bipush (v := 9) X d_Read_readFile_76 rfl ?_
  refine ws_callV1 X (m_Read_take _ _ _ _) cv_Read_take ml_Read_23 ob5 rfl rfl (Nat.le_of_ble_eq_true rfl) ⟨Nat.le_of_ble_eq_true rfl, Nat.le_of_ble_eq_true rfl⟩ ⟨Nat.zero_le _, Nat.zero_le _⟩ d_Read_readFile_78 ?_
  show WS _ _ _ _ _ _ _ _ _ _ _ _ _ _ _ _ _ _ _ (rf6 S)
  refine ws_pop X d_Read_readFile_81 rfl ?_
  refine ws_aload_n (i := 0) X d_Read_readFile_82 rfl rfl ?_
  refine ws_getI X fl_Read_15 ob5 d_Read_readFile_83 ?_
  refine ws_if_ne X d_Read_readFile_86 (fun h86 => ?_) (fun h86 => ?_)
  · refine ws_vret X d_Read_readFile_106 ?_
    exact ⟨rfl, by simp [rfS, eq_false h86]⟩
  · refine ws_aload_n (i := 1) X d_Read_readFile_89 rfl rfl ?_
    refine ws_aload_n (i := 0) X d_Read_readFile_90 rfl rfl ?_
    refine ws_getI X fl_Read_9 ob5 d_Read_readFile_91 ?_
    refine ws_callV1 X (m_Tape_has _ _) cv_Tape_has ml_Read_48 ob1 rfl rfl (Nat.le_of_ble_eq_true rfl) ⟨Nat.le_of_ble_eq_true rfl, Nat.le_of_ble_eq_true rfl⟩ ⟨Nat.zero_le _, Nat.zero_le _⟩ d_Read_readFile_94 ?_
    refine ws_ifB_eq X d_Read_readFile_97 (fun h97 => ?_) (fun h97 => ?_)
    · refine ws_vret X d_Read_readFile_106 ?_
      exact ⟨rfl, by simp [rfS, eq_true h86, h97]⟩
    · refine ws_aload_n (i := 0) X d_Read_readFile_100 rfl rfl ?_
      refine ws_bipush (v := 10) X d_Read_readFile_101 rfl ?_
      refine ws_putI X fl_Read_15 ob5 d_Read_readFile_103 ?_
      refine ws_vret X d_Read_readFile_106 ?_
      exact ⟨rfl, by simp [rfS, eq_true h86, h97]⟩


