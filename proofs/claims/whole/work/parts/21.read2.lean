/-! Reader: heads, code, maps, methods, the FILE -/
def hd1 (S : MS) (q : Nat) : MS := wI (takeS (wI (wI S 4 q 7 0) 4 q 8 0) 0 3 3) 4 q 1 (takeV (wI (wI S 4 q 7 0) 4 q 8 0) 0 3)
def hd2 (S : MS) (q : Nat) : MS := headGo q ((hd1 S q).1 4 q 1).toNatClampNeg 0 (hd1 S q)
def hd3 (S : MS) (q : Nat) : MS := wI (takeS (hd2 S q) 1 2 7) 4 q 2 (takeV (hd2 S q) 1 2)
def hd4 (S : MS) (q : Nat) : MS := wI (takeS (hd3 S q) ((hd3 S q).1 4 q 1) 6 3) 4 q 3 (takeV (hd3 S q) ((hd3 S q).1 4 q 1) 6)
def hd5 (S : MS) (q : Nat) : MS := wI (takeS (hd4 S q) 1 6 3) 4 q 4 (takeV (hd4 S q) 1 6)
theorem m_Read_readHead (S : MS) (q : Nat) (hq : q < 5) : MetE y_Read_readHead c_Read_readHead 4 (none) 3 67 [.inr (5, 0), .inr (1, 0), .inr (4, q)] S (none) (hd5 S q) := by
  refine MetS.of (lv0 := [some (.inr (5, 0)), some (.inr (1, 0)), some (.inr (4, q)), none]) pn_Read rfl (Nat.le_of_ble_eq_true rfl) (fun p0 l0 e0 s0 m0 args below meth c0 G X => ?_)
  refine ws_aload_n (i := 2) X d_Read_readHead_0 rfl rfl ?_
  refine ws_iconst (v := 0) X d_Read_readHead_1 rfl ?_
  refine ws_putI X fl_Read_100 (ob4 (by assumption)) d_Read_readHead_2 ?_
  refine ws_aload_n (i := 2) X d_Read_readHead_5 rfl rfl ?_
  refine ws_iconst (v := 0) X d_Read_readHead_6 rfl ?_
  refine ws_putI X fl_Read_103 (ob4 (by assumption)) d_Read_readHead_7 ?_
  refine ws_aload_n (i := 2) X d_Read_readHead_10 rfl rfl ?_
  refine ws_aload_n (i := 0) X d_Read_readHead_11 rfl rfl ?_
  refine ws_aload_n (i := 1) X d_Read_readHead_12 rfl rfl ?_
  refine ws_iconst (v := 0) X d_Read_readHead_13 rfl ?_
  refine ws_iconst (v := 3) X d_Read_readHead_14 rfl ?_
  refine ws_iconst (v := 3) X d_Read_readHead_15 rfl ?_
  refine ws_callV1 X (m_Read_take _ _ _ _) cv_Read_take ml_Read_23 ob5 rfl rfl (Nat.le_of_ble_eq_true rfl) ⟨Nat.le_of_ble_eq_true rfl, Nat.le_of_ble_eq_true rfl⟩ ⟨Nat.zero_le _, Nat.zero_le _⟩ d_Read_readHead_16 ?_
  refine ws_putI X fl_Read_106 (ob4 (by assumption)) d_Read_readHead_19 ?_
  show WS _ _ _ _ _ _ _ _ _ _ _ _ _ _ _ _ _ _ _ (hd1 S q)
  refine ws_iconst (v := 0) X d_Read_readHead_22 rfl ?_
  refine ws_istn_3 X rfl d_Read_readHead_23 (by decide) ?_
  refine l_head X hq ((hd1 S q).1 4 q 1).toNatClampNeg 0 _ rfl (by omega) (fun j => ?_)
  refine ws_aload_n (i := 2) X d_Read_readHead_59 rfl rfl ?_
  refine ws_aload_n (i := 0) X d_Read_readHead_60 rfl rfl ?_
  refine ws_aload_n (i := 1) X d_Read_readHead_61 rfl rfl ?_
  refine ws_iconst (v := 1) X d_Read_readHead_62 rfl ?_
  refine ws_iconst (v := 2) X d_Read_readHead_63 rfl ?_
  refine ws_bipush (v := 7) X d_Read_readHead_64 rfl ?_
  refine ws_callV1 X (m_Read_take _ _ _ _) cv_Read_take ml_Read_23 ob5 rfl rfl (Nat.le_of_ble_eq_true rfl) ⟨Nat.le_of_ble_eq_true rfl, Nat.le_of_ble_eq_true rfl⟩ ⟨Nat.zero_le _, Nat.zero_le _⟩ d_Read_readHead_66 ?_
  refine ws_putI X fl_Read_115 (ob4 (by assumption)) d_Read_readHead_69 ?_
  refine ws_aload_n (i := 2) X d_Read_readHead_72 rfl rfl ?_
  refine ws_aload_n (i := 0) X d_Read_readHead_73 rfl rfl ?_
  refine ws_aload_n (i := 1) X d_Read_readHead_74 rfl rfl ?_
  refine ws_aload_n (i := 2) X d_Read_readHead_75 rfl rfl ?_
  refine ws_getI X fl_Read_106 (ob4 (by assumption)) d_Read_readHead_76 ?_
  refine ws_bipush (v := 6) X d_Read_readHead_79 rfl ?_
  refine ws_iconst (v := 3) X d_Read_readHead_81 rfl ?_
  refine ws_callV1 X (m_Read_take _ _ _ _) cv_Read_take ml_Read_23 ob5 rfl rfl (Nat.le_of_ble_eq_true rfl) ⟨Nat.le_of_ble_eq_true rfl, Nat.le_of_ble_eq_true rfl⟩ ⟨Nat.zero_le _, Nat.zero_le _⟩ d_Read_readHead_82 ?_
  refine ws_putI X fl_Read_118 (ob4 (by assumption)) d_Read_readHead_85 ?_
  refine ws_aload_n (i := 2) X d_Read_readHead_88 rfl rfl ?_
  refine ws_aload_n (i := 0) X d_Read_readHead_89 rfl rfl ?_
  refine ws_aload_n (i := 1) X d_Read_readHead_90 rfl rfl ?_
  refine ws_iconst (v := 1) X d_Read_readHead_91 rfl ?_
  refine ws_bipush (v := 6) X d_Read_readHead_92 rfl ?_
  refine ws_iconst (v := 3) X d_Read_readHead_94 rfl ?_
  refine ws_callV1 X (m_Read_take _ _ _ _) cv_Read_take ml_Read_23 ob5 rfl rfl (Nat.le_of_ble_eq_true rfl) ⟨Nat.le_of_ble_eq_true rfl, Nat.le_of_ble_eq_true rfl⟩ ⟨Nat.zero_le _, Nat.zero_le _⟩ d_Read_readHead_95 ?_
  refine ws_putI X fl_Read_121 (ob4 (by assumption)) d_Read_readHead_98 ?_
  refine ws_vret X d_Read_readHead_101 ?_
  exact ⟨rfl, rfl⟩

def codeGo (q : Nat) : Nat → Nat → MS → MS
  | 0, _, S => S
  | n + 1, i, S => codeGo q n (i + 1) (setCodeM (takeS S 0 255 1) q (nI i) (takeV S 0 255))
theorem setCodeM_o (S : MS) (q : Nat) (p v : Int32) (a b d : Nat) (h : a ≠ 14) : (setCodeM S q p v).1 a b d = S.1 a b d := by
  unfold setCodeM
  by_cases h1 : ¬ p < 0 ∧ ¬ 48 ≤ p
  · rw [if_pos h1, wI_o _ _ _ _ _ _ _ _ (fun z => h z.1)]
  · rw [if_neg h1]
section L14
variable {p : Program} {l : Launch} {e0 : Env} {s : State} {m0 : MethodId} {args : Array Value} {below : List Frame} {meth : Method} {c0 : Code} {G : GG} {A : Nat → Prop} {Q : State → Prop}
theorem l_code (X : CX p s m0 args meth c0 G A c_Read_readCode y_Read_readCode.cls 4 (none)) {q : Nat} (hq : q < 5) {x : Int32} : ∀ (n i : Nat) (S : MS), S.1 4 q 5 = x → i + n = x.toNatClampNeg → (∀ j : Int32, WS p l e0 (rmS 3 67) s m0 args below meth c0 G A 4 0 0 Q 44 [some (.inr (5, 0)), some (.inr (1, 0)), some (.inr (4, q)), some (.inl (.int j))] [] (codeGo q n i S)) → WS p l e0 (rmS 3 67) s m0 args below meth c0 G A 4 0 0 Q 15 [some (.inr (5, 0)), some (.inr (1, 0)), some (.inr (4, q)), some (.inl (.int (nI i)))] [] (S) := by
  intro n
  have hx := cl_lt x
  induction n with
  | zero =>
    intro i S hS hi' K
    have hh : S.1 4 q 5 ≤ nI i := by rw [hS, le_cl x (by omega)]; omega
    refine ws_iload_n (i := 3) X d_Read_readCode_15 rfl rfl ?_
    refine ws_aload_n (i := 2) X d_Read_readCode_16 rfl rfl ?_
    refine ws_getI X fl_Read_124 (ob4 (by assumption)) d_Read_readCode_17 ?_
    refine ws_icmp_ge X d_Read_readCode_20 (fun h20 => ?_) (fun h20 => ?_)
    · exact K _
    · exact absurd hh h20
  | succ n ih =>
    intro i S hS hi' K
    have hh : ¬ S.1 4 q 5 ≤ nI i := by rw [hS, le_cl x (by omega)]; omega
    rw [codeGo] at K
    refine ws_iload_n (i := 3) X d_Read_readCode_15 rfl rfl ?_
    refine ws_aload_n (i := 2) X d_Read_readCode_16 rfl rfl ?_
    refine ws_getI X fl_Read_124 (ob4 (by assumption)) d_Read_readCode_17 ?_
    refine ws_icmp_ge X d_Read_readCode_20 (fun h20 => ?_) (fun h20 => ?_)
    · exact absurd h20 hh
    · refine ws_aload_n (i := 2) X d_Read_readCode_23 rfl rfl ?_
      refine ws_iload_n (i := 3) X d_Read_readCode_24 rfl rfl ?_
      refine ws_aload_n (i := 0) X d_Read_readCode_25 rfl rfl ?_
      refine ws_aload_n (i := 1) X d_Read_readCode_26 rfl rfl ?_
      refine ws_iconst (v := 0) X d_Read_readCode_27 rfl ?_
      refine ws_sipush (v := 255) X d_Read_readCode_28 rfl ?_
      refine ws_iconst (v := 1) X d_Read_readCode_31 rfl ?_
      refine ws_callV1 X (m_Read_take _ _ _ _) cv_Read_take ml_Read_23 ob5 rfl rfl (Nat.le_of_ble_eq_true rfl) ⟨Nat.le_of_ble_eq_true rfl, Nat.le_of_ble_eq_true rfl⟩ ⟨Nat.zero_le _, Nat.zero_le _⟩ d_Read_readCode_32 ?_
      refine ws_callV0 X (m_Meth_setCode _ _ (by assumption) _ _) cv_Meth_setCode ml_Read_127 (ob4 (by assumption)) rfl rfl (Nat.le_of_ble_eq_true rfl) ⟨Nat.le_of_ble_eq_true rfl, Nat.le_of_ble_eq_true rfl⟩ ⟨Nat.zero_le _, Nat.zero_le _⟩ d_Read_readCode_35 ?_
      refine ws_iinc_3 X rfl d_Read_readCode_38 rfl (by decide) ?_
      refine ws_goto X d_Read_readCode_41 ?_
      rw [nI_inc]; exact ih (i + 1) _ (by rw [setCodeM_o _ _ _ _ _ _ _ (by decide), takeS_o _ _ _ _ _ _ _ (by decide)]; exact hS) (by omega) K
end L14
def code1 (S : MS) (q : Nat) : MS := wI (takeS S 1 48 3) 4 q 5 (takeV S 1 48)
def codeS (S : MS) (q : Nat) : MS := codeGo q ((code1 S q).1 4 q 5).toNatClampNeg 0 (code1 S q)
theorem m_Read_readCode (S : MS) (q : Nat) (hq : q < 5) : MetE y_Read_readCode c_Read_readCode 4 (none) 3 67 [.inr (5, 0), .inr (1, 0), .inr (4, q)] S (none) (codeS S q) := by
  refine MetS.of (lv0 := [some (.inr (5, 0)), some (.inr (1, 0)), some (.inr (4, q)), none]) pn_Read rfl (Nat.le_of_ble_eq_true rfl) (fun p0 l0 e0 s0 m0 args below meth c0 G X => ?_)
  refine ws_aload_n (i := 2) X d_Read_readCode_0 rfl rfl ?_
  refine ws_aload_n (i := 0) X d_Read_readCode_1 rfl rfl ?_
  refine ws_aload_n (i := 1) X d_Read_readCode_2 rfl rfl ?_
  refine ws_iconst (v := 1) X d_Read_readCode_3 rfl ?_
  refine ws_bipush (v := 48) X d_Read_readCode_4 rfl ?_
  refine ws_iconst (v := 3) X d_Read_readCode_6 rfl ?_
  refine ws_callV1 X (m_Read_take _ _ _ _) cv_Read_take ml_Read_23 ob5 rfl rfl (Nat.le_of_ble_eq_true rfl) ⟨Nat.le_of_ble_eq_true rfl, Nat.le_of_ble_eq_true rfl⟩ ⟨Nat.zero_le _, Nat.zero_le _⟩ d_Read_readCode_7 ?_
  refine ws_putI X fl_Read_124 (ob4 (by assumption)) d_Read_readCode_10 ?_
  show WS _ _ _ _ _ _ _ _ _ _ _ _ _ _ _ _ _ _ _ (code1 S q)
  refine ws_iconst (v := 0) X d_Read_readCode_13 rfl ?_
  refine ws_istn_3 X rfl d_Read_readCode_14 (by decide) ?_
  refine l_code X hq ((code1 S q).1 4 q 5).toNatClampNeg 0 _ rfl (by omega) (fun j => ?_)
  refine ws_vret X d_Read_readCode_44 ?_
  exact ⟨rfl, rfl⟩

def mkGo : Nat → Nat → Int32 → MS → Int32 × MS
  | 0, _, k, S => (k, S)
  | n + 1, i, k, S => mkGo n (i + 1) (kWith k (nI i) (takeV S 0 2)) (takeS S 0 2 7)
def mdGo : Nat → Int32 → MS → Int32 × MS
  | 0, k, S => (k, S)
  | n + 1, k, S => mdGo n (kPush k (takeV S 1 2)) (takeS S 1 2 7)
section L15
variable {p : Program} {l : Launch} {e0 : Env} {s : State} {m0 : MethodId} {args : Array Value} {below : List Frame} {meth : Method} {c0 : Code} {G : GG} {A : Nat → Prop} {Q : State → Prop}
theorem l_mk (X : CX p s m0 args meth c0 G A c_Read_takeMapKinds y_Read_takeMapKinds.cls 6 ((some .int))) {q : Nat} (hq : q < 5) {x : Int32} {a5 : Option MV} : ∀ (n i : Nat) (k : Int32) (S : MS), S.1 4 q 3 = x → i + n = x.toNatClampNeg → (∀ j : Int32, WS p l e0 (rmS 3 67) s m0 args below meth c0 G A 6 0 0 Q 36 [some (.inr (5, 0)), some (.inr (1, 0)), some (.inr (4, q)), some (.inl (.int (mkGo n i k S).1)), some (.inl (.int j)), a5] [] ((mkGo n i k S).2)) → WS p l e0 (rmS 3 67) s m0 args below meth c0 G A 6 0 0 Q 5 [some (.inr (5, 0)), some (.inr (1, 0)), some (.inr (4, q)), some (.inl (.int k)), some (.inl (.int (nI i))), a5] [] (S) := by
  intro n
  have hx := cl_lt x
  induction n with
  | zero =>
    intro i k S hS hi' K
    have hh : S.1 4 q 3 ≤ nI i := by rw [hS, le_cl x (by omega)]; omega
    refine ws_iload (i := 4) X d_Read_takeMapKinds_5 rfl ?_
    refine ws_aload_n (i := 2) X d_Read_takeMapKinds_7 rfl rfl ?_
    refine ws_getI X fl_Read_118 (ob4 (by assumption)) d_Read_takeMapKinds_8 ?_
    refine ws_icmp_ge X d_Read_takeMapKinds_11 (fun h11 => ?_) (fun h11 => ?_)
    · exact K _
    · exact absurd hh h11
  | succ n ih =>
    intro i k S hS hi' K
    have hh : ¬ S.1 4 q 3 ≤ nI i := by rw [hS, le_cl x (by omega)]; omega
    rw [mkGo] at K
    refine ws_iload (i := 4) X d_Read_takeMapKinds_5 rfl ?_
    refine ws_aload_n (i := 2) X d_Read_takeMapKinds_7 rfl rfl ?_
    refine ws_getI X fl_Read_118 (ob4 (by assumption)) d_Read_takeMapKinds_8 ?_
    refine ws_icmp_ge X d_Read_takeMapKinds_11 (fun h11 => ?_) (fun h11 => ?_)
    · exact absurd h11 hh
    · refine ws_iload_n (i := 3) X d_Read_takeMapKinds_14 rfl rfl ?_
      refine ws_iload (i := 4) X d_Read_takeMapKinds_15 rfl ?_
      refine ws_aload_n (i := 0) X d_Read_takeMapKinds_17 rfl rfl ?_
      refine ws_aload_n (i := 1) X d_Read_takeMapKinds_18 rfl rfl ?_
      refine ws_iconst (v := 0) X d_Read_takeMapKinds_19 rfl ?_
      refine ws_iconst (v := 2) X d_Read_takeMapKinds_20 rfl ?_
      refine ws_bipush (v := 7) X d_Read_takeMapKinds_21 rfl ?_
      refine ws_callV1 X (m_Read_take _ _ _ _) cv_Read_take ml_Read_23 ob5 rfl rfl (Nat.le_of_ble_eq_true rfl) ⟨Nat.le_of_ble_eq_true rfl, Nat.le_of_ble_eq_true rfl⟩ ⟨Nat.zero_le _, Nat.zero_le _⟩ d_Read_takeMapKinds_23 ?_
      refine ws_callS1 X (m_Kinds_withLocal _ _ _ _) cs_Kinds_withLocal ml_Read_109 rfl rfl (Nat.le_of_ble_eq_true rfl) ⟨Nat.le_of_ble_eq_true rfl, Nat.le_of_ble_eq_true rfl⟩ ⟨Nat.zero_le _, Nat.zero_le _⟩ d_Read_takeMapKinds_26 ?_
      refine ws_istn_3 X rfl d_Read_takeMapKinds_29 (by decide) ?_
      refine ws_iinc_4 X rfl d_Read_takeMapKinds_30 rfl (by decide) ?_
      refine ws_goto X d_Read_takeMapKinds_33 ?_
      rw [nI_inc]; exact ih (i + 1) _ _ (by rw [takeS_o _ _ _ _ _ _ _ (by decide)]; exact hS) (by omega) K
theorem l_md (X : CX p s m0 args meth c0 G A c_Read_takeMapKinds y_Read_takeMapKinds.cls 6 ((some .int))) {q : Nat} {x : Int32} : ∀ (n i : Nat) (k : Int32) (S : MS), i + n = x.toNatClampNeg → (∀ j : Int32, WS p l e0 (rmS 3 67) s m0 args below meth c0 G A 6 0 0 Q 79 [some (.inr (5, 0)), some (.inr (1, 0)), some (.inr (4, q)), some (.inl (.int (mdGo n k S).1)), some (.inl (.int x)), some (.inl (.int j))] [] ((mdGo n k S).2)) → WS p l e0 (rmS 3 67) s m0 args below meth c0 G A 6 0 0 Q 52 [some (.inr (5, 0)), some (.inr (1, 0)), some (.inr (4, q)), some (.inl (.int k)), some (.inl (.int x)), some (.inl (.int (nI i)))] [] (S) := by
  intro n
  have hx := cl_lt x
  induction n with
  | zero =>
    intro i k S hi' K
    have hh : x ≤ nI i := by rw [le_cl x (by omega)]; omega
    refine ws_iload (i := 5) X d_Read_takeMapKinds_52 rfl ?_
    refine ws_iload (i := 4) X d_Read_takeMapKinds_54 rfl ?_
    refine ws_icmp_ge X d_Read_takeMapKinds_56 (fun h56 => ?_) (fun h56 => ?_)
    · exact K _
    · exact absurd hh h56
  | succ n ih =>
    intro i k S hi' K
    have hh : ¬ x ≤ nI i := by rw [le_cl x (by omega)]; omega
    rw [mdGo] at K
    refine ws_iload (i := 5) X d_Read_takeMapKinds_52 rfl ?_
    refine ws_iload (i := 4) X d_Read_takeMapKinds_54 rfl ?_
    refine ws_icmp_ge X d_Read_takeMapKinds_56 (fun h56 => ?_) (fun h56 => ?_)
    · exact absurd h56 hh
    · refine ws_iload_n (i := 3) X d_Read_takeMapKinds_59 rfl rfl ?_
      refine ws_aload_n (i := 0) X d_Read_takeMapKinds_60 rfl rfl ?_
      refine ws_aload_n (i := 1) X d_Read_takeMapKinds_61 rfl rfl ?_
      refine ws_iconst (v := 1) X d_Read_takeMapKinds_62 rfl ?_
      refine ws_iconst (v := 2) X d_Read_takeMapKinds_63 rfl ?_
      refine ws_bipush (v := 7) X d_Read_takeMapKinds_64 rfl ?_
      refine ws_callV1 X (m_Read_take _ _ _ _) cv_Read_take ml_Read_23 ob5 rfl rfl (Nat.le_of_ble_eq_true rfl) ⟨Nat.le_of_ble_eq_true rfl, Nat.le_of_ble_eq_true rfl⟩ ⟨Nat.zero_le _, Nat.zero_le _⟩ d_Read_takeMapKinds_66 ?_
      refine ws_callS1 X (m_Kinds_push _ _ _) cs_Kinds_push ml_Read_141 rfl rfl (Nat.le_of_ble_eq_true rfl) ⟨Nat.le_of_ble_eq_true rfl, Nat.le_of_ble_eq_true rfl⟩ ⟨Nat.zero_le _, Nat.zero_le _⟩ d_Read_takeMapKinds_69 ?_
      refine ws_istn_3 X rfl d_Read_takeMapKinds_72 (by decide) ?_
      refine ws_iinc_5 X rfl d_Read_takeMapKinds_73 rfl (by decide) ?_
      refine ws_goto X d_Read_takeMapKinds_76 ?_
      rw [nI_inc]; exact ih (i + 1) _ _ (by omega) K
end L15
def mapK1 (S : MS) (q : Nat) : Int32 × MS := mkGo (S.1 4 q 3).toNatClampNeg 0 0 S
def mapKd (S : MS) (q : Nat) : Int32 := takeV (mapK1 S q).2 0 ((mapK1 S q).2.1 4 q 4)
def mapK2 (S : MS) (q : Nat) : MS := takeS (mapK1 S q).2 0 ((mapK1 S q).2.1 4 q 4) 3
def mapK (S : MS) (q : Nat) : Int32 × MS := mdGo (mapKd S q).toNatClampNeg (mapK1 S q).1 (mapK2 S q)
theorem m_Read_takeMapKinds (S : MS) (q : Nat) (hq : q < 5) : MetE y_Read_takeMapKinds c_Read_takeMapKinds 6 ((some .int)) 3 67 [.inr (5, 0), .inr (1, 0), .inr (4, q)] S (some (.inl (.int (mapK S q).1))) ((mapK S q).2) := by
  refine MetS.of (lv0 := [some (.inr (5, 0)), some (.inr (1, 0)), some (.inr (4, q)), none, none, none]) pn_Read rfl (Nat.le_of_ble_eq_true rfl) (fun p0 l0 e0 s0 m0 args below meth c0 G X => ?_)
  refine ws_iconst (v := 0) X d_Read_takeMapKinds_0 rfl ?_
  refine ws_istn_3 X rfl d_Read_takeMapKinds_1 (by decide) ?_
  refine ws_iconst (v := 0) X d_Read_takeMapKinds_2 rfl ?_
  refine ws_ist_4 X rfl d_Read_takeMapKinds_3 (by decide) ?_
  refine l_mk X hq (S.1 4 q 3).toNatClampNeg 0 _ S rfl (by omega) (fun j => ?_)
  refine ws_aload_n (i := 0) X d_Read_takeMapKinds_36 rfl rfl ?_
  refine ws_aload_n (i := 1) X d_Read_takeMapKinds_37 rfl rfl ?_
  refine ws_iconst (v := 0) X d_Read_takeMapKinds_38 rfl ?_
  refine ws_aload_n (i := 2) X d_Read_takeMapKinds_39 rfl rfl ?_
  refine ws_getI X fl_Read_121 (ob4 (by assumption)) d_Read_takeMapKinds_40 ?_
  refine ws_iconst (v := 3) X d_Read_takeMapKinds_43 rfl ?_
  refine ws_callV1 X (m_Read_take _ _ _ _) cv_Read_take ml_Read_23 ob5 rfl rfl (Nat.le_of_ble_eq_true rfl) ⟨Nat.le_of_ble_eq_true rfl, Nat.le_of_ble_eq_true rfl⟩ ⟨Nat.zero_le _, Nat.zero_le _⟩ d_Read_takeMapKinds_44 ?_
  refine ws_ist_4 X rfl d_Read_takeMapKinds_47 (by decide) ?_
  refine ws_iconst (v := 0) X d_Read_takeMapKinds_49 rfl ?_
  refine ws_ist_5 X rfl d_Read_takeMapKinds_50 (by decide) ?_
  refine l_md X (mapKd S q).toNatClampNeg 0 _ _ (by show 0 + (mapKd S q).toNatClampNeg = (mapKd S q).toNatClampNeg; omega) (fun j => ?_)
  refine ws_iload_n (i := 3) X d_Read_takeMapKinds_79 rfl rfl ?_
  refine ws_iret X d_Read_takeMapKinds_80 ?_
  exact ⟨rfl, rfl⟩

def rmGo (q : Nat) : Nat → Int32 → MS → MS
  | 0, _, S => S
  | n + 1, low, S => if S.1 5 0 1 = 0 then rmGo q n (takeV S low (S.1 4 q 5 - 1) + 1) (appMapM (mapK (takeS S low (S.1 4 q 5 - 1) 8) q).2 q (takeV S low (S.1 4 q 5 - 1)) (mapK (takeS S low (S.1 4 q 5 - 1) 8) q).1) else S
section L16
variable {p : Program} {l : Launch} {e0 : Env} {s : State} {m0 : MethodId} {args : Array Value} {below : List Frame} {meth : Method} {c0 : Code} {G : GG} {A : Nat → Prop} {Q : State → Prop}
theorem l_rm (X : CX p s m0 args meth c0 G A c_Read_readMaps y_Read_readMaps.cls 7 (none)) {q : Nat} (hq : q < 5) {x : Int32} : ∀ (n i : Nat) (low : Int32) (S : MS) (a6 : Option MV), i + n = x.toNatClampNeg → (∀ (lo2 j : Int32) (a6 : Option MV), WS p l e0 (rmS 4 92) s m0 args below meth c0 G A 7 0 0 Q 75 [some (.inr (5, 0)), some (.inr (1, 0)), some (.inr (4, q)), some (.inl (.int x)), some (.inl (.int lo2)), some (.inl (.int j)), a6] [] (rmGo q n low S)) → WS p l e0 (rmS 4 92) s m0 args below meth c0 G A 7 0 0 Q 21 [some (.inr (5, 0)), some (.inr (1, 0)), some (.inr (4, q)), some (.inl (.int x)), some (.inl (.int low)), some (.inl (.int (nI i))), a6] [] (S) := by
  intro n
  have hx := cl_lt x
  induction n with
  | zero =>
    intro i low S a6 hi' K
    have hh : x ≤ nI i := by rw [le_cl x (by omega)]; omega
    refine ws_iload (i := 5) X d_Read_readMaps_21 rfl ?_
    refine ws_iload_n (i := 3) X d_Read_readMaps_23 rfl rfl ?_
    refine ws_icmp_ge X d_Read_readMaps_24 (fun h24 => ?_) (fun h24 => ?_)
    · exact K _ _ _
    · exact absurd hh h24
  | succ n ih =>
    intro i low S a6 hi' K
    have hh : ¬ x ≤ nI i := by rw [le_cl x (by omega)]; omega
    rw [rmGo] at K
    refine ws_iload (i := 5) X d_Read_readMaps_21 rfl ?_
    refine ws_iload_n (i := 3) X d_Read_readMaps_23 rfl rfl ?_
    refine ws_icmp_ge X d_Read_readMaps_24 (fun h24 => ?_) (fun h24 => ?_)
    · exact absurd h24 hh
    · refine ws_aload_n (i := 0) X d_Read_readMaps_27 rfl rfl ?_
      refine ws_getI X fl_Read_15 ob5 d_Read_readMaps_28 ?_
      refine ws_if_ne X d_Read_readMaps_31 (fun h31 => ?_) (fun h31 => ?_)
      · simp only [eq_false h24, eq_false h31, if_true, if_false] at K; exact K _ _ _
      · refine ws_aload_n (i := 0) X d_Read_readMaps_34 rfl rfl ?_
        refine ws_aload_n (i := 1) X d_Read_readMaps_35 rfl rfl ?_
        refine ws_iload (i := 4) X d_Read_readMaps_36 rfl ?_
        refine ws_aload_n (i := 2) X d_Read_readMaps_38 rfl rfl ?_
        refine ws_getI X fl_Read_124 (ob4 (by assumption)) d_Read_readMaps_39 ?_
        refine ws_iconst (v := 1) X d_Read_readMaps_42 rfl ?_
        refine ws_isub X d_Read_readMaps_43 ?_
        refine ws_bipush (v := 8) X d_Read_readMaps_44 rfl ?_
        refine ws_callV1 X (m_Read_take _ _ _ _) cv_Read_take ml_Read_23 ob5 rfl rfl (Nat.le_of_ble_eq_true rfl) ⟨Nat.le_of_ble_eq_true rfl, Nat.le_of_ble_eq_true rfl⟩ ⟨Nat.zero_le _, Nat.zero_le _⟩ d_Read_readMaps_46 ?_
        refine ws_ist_6 X rfl d_Read_readMaps_49 (by decide) ?_
        refine ws_aload_n (i := 2) X d_Read_readMaps_51 rfl rfl ?_
        refine ws_iload (i := 6) X d_Read_readMaps_52 rfl ?_
        refine ws_aload_n (i := 0) X d_Read_readMaps_54 rfl rfl ?_
        refine ws_aload_n (i := 1) X d_Read_readMaps_55 rfl rfl ?_
        refine ws_aload_n (i := 2) X d_Read_readMaps_56 rfl rfl ?_
        refine ws_callV1 X (m_Read_takeMapKinds _ _ (by assumption)) cv_Read_takeMapKinds ml_Read_134 ob5 rfl rfl (Nat.le_of_ble_eq_true rfl) ⟨Nat.le_of_ble_eq_true rfl, Nat.le_of_ble_eq_true rfl⟩ ⟨Nat.zero_le _, Nat.zero_le _⟩ d_Read_readMaps_57 ?_
        refine ws_callV0 X (m_Meth_appendMap _ _ (by assumption) _ _) cv_Meth_appendMap ml_Read_138 (ob4 (by assumption)) rfl rfl (Nat.le_of_ble_eq_true rfl) ⟨Nat.le_of_ble_eq_true rfl, Nat.le_of_ble_eq_true rfl⟩ ⟨Nat.zero_le _, Nat.zero_le _⟩ d_Read_readMaps_60 ?_
        refine ws_iload (i := 6) X d_Read_readMaps_63 rfl ?_
        refine ws_iconst (v := 1) X d_Read_readMaps_65 rfl ?_
        refine ws_iadd X d_Read_readMaps_66 ?_
        refine ws_ist_4 X rfl d_Read_readMaps_67 (by decide) ?_
        refine ws_iinc_5 X rfl d_Read_readMaps_69 rfl (by decide) ?_
        refine ws_goto X d_Read_readMaps_72 ?_
        rw [nI_inc]; simp only [eq_false h24, eq_true h31, if_true, if_false] at K; exact ih (i + 1) _ _ _ (by omega) K
end L16
def mapsS (S : MS) (q : Nat) : MS := rmGo q (takeV (wI S 4 q 6 0) 0 8).toNatClampNeg 0 (takeS (wI S 4 q 6 0) 0 8 3)
theorem m_Read_readMaps (S : MS) (q : Nat) (hq : q < 5) : MetE y_Read_readMaps c_Read_readMaps 7 (none) 4 92 [.inr (5, 0), .inr (1, 0), .inr (4, q)] S (none) (mapsS S q) := by
  refine MetS.of (lv0 := [some (.inr (5, 0)), some (.inr (1, 0)), some (.inr (4, q)), none, none, none, none]) pn_Read rfl (Nat.le_of_ble_eq_true rfl) (fun p0 l0 e0 s0 m0 args below meth c0 G X => ?_)
  refine ws_aload_n (i := 2) X d_Read_readMaps_0 rfl rfl ?_
  refine ws_iconst (v := 0) X d_Read_readMaps_1 rfl ?_
  refine ws_putI X fl_Read_131 (ob4 (by assumption)) d_Read_readMaps_2 ?_
  refine ws_aload_n (i := 0) X d_Read_readMaps_5 rfl rfl ?_
  refine ws_aload_n (i := 1) X d_Read_readMaps_6 rfl rfl ?_
  refine ws_iconst (v := 0) X d_Read_readMaps_7 rfl ?_
  refine ws_bipush (v := 8) X d_Read_readMaps_8 rfl ?_
  refine ws_iconst (v := 3) X d_Read_readMaps_10 rfl ?_
  refine ws_callV1 X (m_Read_take _ _ _ _) cv_Read_take ml_Read_23 ob5 rfl rfl (Nat.le_of_ble_eq_true rfl) ⟨Nat.le_of_ble_eq_true rfl, Nat.le_of_ble_eq_true rfl⟩ ⟨Nat.zero_le _, Nat.zero_le _⟩ d_Read_readMaps_11 ?_
  refine ws_istn_3 X rfl d_Read_readMaps_14 (by decide) ?_
  refine ws_iconst (v := 0) X d_Read_readMaps_15 rfl ?_
  refine ws_ist_4 X rfl d_Read_readMaps_16 (by decide) ?_
  refine ws_iconst (v := 0) X d_Read_readMaps_18 rfl ?_
  refine ws_ist_5 X rfl d_Read_readMaps_19 (by decide) ?_
  refine l_rm X hq (takeV (wI S 4 q 6 0) 0 8).toNatClampNeg 0 0 _ none (by omega) (fun low j a6 => ?_)
  refine ws_vret X d_Read_readMaps_75 ?_
  exact ⟨rfl, rfl⟩


