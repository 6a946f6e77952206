/-! Reader: place S.1 5 0 0, wrong S.1 5 0 1 -/
def takeV (S : MS) (lo up : Int32) : Int32 := if S.1 5 0 1 = 0 then (if byteT S (S.1 5 0 0) = -1 then 0 else if byteT S (S.1 5 0 0) < lo then 0 else if byteT S (S.1 5 0 0) ≤ up then byteT S (S.1 5 0 0) else 0) else 0
def takeS (S : MS) (lo up f : Int32) : MS := if S.1 5 0 1 = 0 then (if byteT S (S.1 5 0 0) = -1 then wI S 5 0 1 1 else if byteT S (S.1 5 0 0) < lo then wI S 5 0 1 f else if byteT S (S.1 5 0 0) ≤ up then wI S 5 0 0 (S.1 5 0 0 + 1) else wI S 5 0 1 f) else S
theorem m_Read_take (S : MS) (lo up f : Int32) : MetE y_Read_take c_Read_take 6 ((some .int)) 2 42 [.inr (5, 0), .inr (1, 0), .inl (.int lo), .inl (.int up), .inl (.int f)] S (some (.inl (.int (takeV S lo up)))) (takeS S lo up f) := by
  refine MetS.of (lv0 := [some (.inr (5, 0)), some (.inr (1, 0)), some (.inl (.int lo)), some (.inl (.int up)), some (.inl (.int f)), none]) pn_Read rfl (Nat.le_of_ble_eq_true rfl) (fun p0 l0 e0 s0 m0 args below meth c0 G X => ?_)
  refine ws_aload_n (i := 0) X d_Read_take_0 rfl rfl ?_
  refine ws_getI X fl_Read_15 ob5 d_Read_take_1 ?_
  refine ws_if_eq X d_Read_take_4 (fun h4 => ?_) (fun h4 => ?_)
  · refine ws_aload_n (i := 1) X d_Read_take_9 rfl rfl ?_
    refine ws_aload_n (i := 0) X d_Read_take_10 rfl rfl ?_
    refine ws_getI X fl_Read_9 ob5 d_Read_take_11 ?_
    refine ws_callV1 X (m_Tape_byteAt _ _) cv_Tape_byteAt ml_Read_52 ob1 rfl rfl (Nat.le_of_ble_eq_true rfl) ⟨Nat.le_of_ble_eq_true rfl, Nat.le_of_ble_eq_true rfl⟩ ⟨Nat.zero_le _, Nat.zero_le _⟩ d_Read_take_14 ?_
    refine ws_ist_5 X rfl d_Read_take_17 (by decide) ?_
    refine ws_iload (i := 5) X d_Read_take_19 rfl ?_
    refine ws_iconst (v := (-1)) X d_Read_take_21 rfl ?_
    refine ws_icmp_ne X d_Read_take_22 (fun h22 => ?_) (fun h22 => ?_)
    · refine ws_iload (i := 5) X d_Read_take_32 rfl ?_
      refine ws_iload_n (i := 2) X d_Read_take_34 rfl rfl ?_
      refine ws_icmp_lt X d_Read_take_35 (fun h35 => ?_) (fun h35 => ?_)
      · refine ws_aload_n (i := 0) X d_Read_take_44 rfl rfl ?_
        refine ws_iload (i := 4) X d_Read_take_45 rfl ?_
        refine ws_putI X fl_Read_15 ob5 d_Read_take_47 ?_
        refine ws_iconst (v := 0) X d_Read_take_50 rfl ?_
        refine ws_iret X d_Read_take_51 ?_
        exact ⟨by simp [takeV, eq_true h4, eq_false h22, eq_true h35], by simp [takeS, eq_true h4, eq_false h22, eq_true h35]⟩
      · refine ws_iload (i := 5) X d_Read_take_38 rfl ?_
        refine ws_iload_n (i := 3) X d_Read_take_40 rfl rfl ?_
        refine ws_icmp_le X d_Read_take_41 (fun h41 => ?_) (fun h41 => ?_)
        · refine ws_aload_n (i := 0) X d_Read_take_52 rfl rfl ?_
          refine ws_dup X d_Read_take_53 rfl ?_
          refine ws_getI X fl_Read_9 ob5 d_Read_take_54 ?_
          refine ws_iconst (v := 1) X d_Read_take_57 rfl ?_
          refine ws_iadd X d_Read_take_58 ?_
          refine ws_putI X fl_Read_9 ob5 d_Read_take_59 ?_
          refine ws_iload (i := 5) X d_Read_take_62 rfl ?_
          refine ws_iret X d_Read_take_64 ?_
          exact ⟨by simp [takeV, eq_true h4, eq_false h22, eq_false h35, eq_true h41], by simp [takeS, eq_true h4, eq_false h22, eq_false h35, eq_true h41]⟩
        · refine ws_aload_n (i := 0) X d_Read_take_44 rfl rfl ?_
          refine ws_iload (i := 4) X d_Read_take_45 rfl ?_
          refine ws_putI X fl_Read_15 ob5 d_Read_take_47 ?_
          refine ws_iconst (v := 0) X d_Read_take_50 rfl ?_
          refine ws_iret X d_Read_take_51 ?_
          exact ⟨by simp [takeV, eq_true h4, eq_false h22, eq_false h35, eq_false h41], by simp [takeS, eq_true h4, eq_false h22, eq_false h35, eq_false h41]⟩
    · refine ws_aload_n (i := 0) X d_Read_take_25 rfl rfl ?_
      refine ws_iconst (v := 1) X d_Read_take_26 rfl ?_
      refine ws_putI X fl_Read_15 ob5 d_Read_take_27 ?_
      refine ws_iconst (v := 0) X d_Read_take_30 rfl ?_
      refine ws_iret X d_Read_take_31 ?_
      exact ⟨by simp [takeV, eq_true h4, eq_true h22], by simp [takeS, eq_true h4, eq_true h22]⟩
  · refine ws_iconst (v := 0) X d_Read_take_7 rfl ?_
    refine ws_iret X d_Read_take_8 ?_
    exact ⟨by simp [takeV, eq_false h4], by simp [takeS, eq_false h4]⟩

theorem le_cl (x : Int32) {i : Nat} (hi : i < 2 ^ 31) : x ≤ nI i ↔ x.toNatClampNeg ≤ i := by
  rw [Int32.le_iff_toInt_le, nI_toInt hi, ← Int32.toNat_toInt]
  omega
theorem cl_lt (x : Int32) : x.toNatClampNeg < 2 ^ 31 := by
  rw [← Int32.toNat_toInt]
  have := Int32.toInt_lt x
  omega
/-- so many taken, the first the highest -/
def manyGo (lo hi : Int32) : Nat → Int64 → MS → Int64 × MS
  | 0, v, S => (v, S)
  | n + 1, v, S => manyGo lo hi n (shl64 v 8 ||| (takeV S lo hi).toInt64) (takeS S lo hi 5)
section L11
variable {p : Program} {l : Launch} {e0 : Env} {s : State} {m0 : MethodId} {args : Array Value} {below : List Frame} {meth : Method} {c0 : Code} {G : GG} {A : Nat → Prop} {Q : State → Prop}
theorem l_many (X : CX p s m0 args meth c0 G A c_Read_takeMany y_Read_takeMany.cls 8 ((some .long))) {x lo hi : Int32} : ∀ (n i : Nat) (v : Int64) (S : MS), i + n = x.toNatClampNeg → (∀ j : Int32, WS p l e0 (rmS 3 67) s m0 args below meth c0 G A 8 0 0 Q 36 [some (.inr (5, 0)), some (.inr (1, 0)), some (.inl (.int x)), some (.inl (.int lo)), some (.inl (.int hi)), some (.inl (.long (manyGo lo hi n v S).1)), none, some (.inl (.int j))] [] ((manyGo lo hi n v S).2)) → WS p l e0 (rmS 3 67) s m0 args below meth c0 G A 8 0 0 Q 6 [some (.inr (5, 0)), some (.inr (1, 0)), some (.inl (.int x)), some (.inl (.int lo)), some (.inl (.int hi)), some (.inl (.long v)), none, some (.inl (.int (nI i)))] [] (S) := by
  intro n
  have hx := cl_lt x
  induction n with
  | zero =>
    intro i v S hi' K
    have hh : x ≤ nI i := by rw [le_cl x (by omega)]; omega
    refine ws_iload (i := 7) X d_Read_takeMany_6 rfl ?_
    refine ws_iload_n (i := 2) X d_Read_takeMany_8 rfl rfl ?_
    refine ws_icmp_ge X d_Read_takeMany_9 (fun h9 => ?_) (fun h9 => ?_)
    · exact K _
    · exact absurd hh h9
  | succ n ih =>
    intro i v S hi' K
    have hh : ¬ x ≤ nI i := by rw [le_cl x (by omega)]; omega
    rw [manyGo] at K
    refine ws_iload (i := 7) X d_Read_takeMany_6 rfl ?_
    refine ws_iload_n (i := 2) X d_Read_takeMany_8 rfl rfl ?_
    refine ws_icmp_ge X d_Read_takeMany_9 (fun h9 => ?_) (fun h9 => ?_)
    · exact absurd h9 hh
    · refine ws_lload (i := 5) X d_Read_takeMany_12 rfl ?_
      refine ws_bipush (v := 8) X d_Read_takeMany_14 rfl ?_
      refine ws_lshl X d_Read_takeMany_16 ?_
      refine ws_aload_n (i := 0) X d_Read_takeMany_17 rfl rfl ?_
      refine ws_aload_n (i := 1) X d_Read_takeMany_18 rfl rfl ?_
      refine ws_iload_n (i := 3) X d_Read_takeMany_19 rfl rfl ?_
      refine ws_iload (i := 4) X d_Read_takeMany_20 rfl ?_
      refine ws_iconst (v := 5) X d_Read_takeMany_22 rfl ?_
      refine ws_callV1 X (m_Read_take _ _ _ _) cv_Read_take ml_Read_23 ob5 rfl rfl (Nat.le_of_ble_eq_true rfl) ⟨Nat.le_of_ble_eq_true rfl, Nat.le_of_ble_eq_true rfl⟩ ⟨Nat.zero_le _, Nat.zero_le _⟩ d_Read_takeMany_23 ?_
      refine ws_i2l X d_Read_takeMany_26 ?_
      refine ws_lor X d_Read_takeMany_27 ?_
      refine ws_lst_5 X rfl d_Read_takeMany_28 (by decide) ?_
      refine ws_iinc_7 X rfl d_Read_takeMany_30 rfl (by decide) ?_
      refine ws_goto X d_Read_takeMany_33 ?_
      rw [nI_inc]; exact ih (i + 1) _ _ (by omega) K
end L11
theorem m_Read_takeMany (S : MS) (x lo up : Int32) : MetE y_Read_takeMany c_Read_takeMany 8 ((some .long)) 3 67 [.inr (5, 0), .inr (1, 0), .inl (.int x), .inl (.int lo), .inl (.int up)] S (some (.inl (.long (manyGo lo up x.toNatClampNeg 0 S).1))) ((manyGo lo up x.toNatClampNeg 0 S).2) := by
  refine MetS.of (lv0 := [some (.inr (5, 0)), some (.inr (1, 0)), some (.inl (.int x)), some (.inl (.int lo)), some (.inl (.int up)), none, none, none]) pn_Read rfl (Nat.le_of_ble_eq_true rfl) (fun p0 l0 e0 s0 m0 args below meth c0 G X => ?_)
  refine ws_lconst (v := 0) X d_Read_takeMany_0 rfl ?_
  refine ws_lst_5 X rfl d_Read_takeMany_1 (by decide) ?_
  refine ws_iconst (v := 0) X d_Read_takeMany_3 rfl ?_
  refine ws_ist_7 X rfl d_Read_takeMany_4 (by decide) ?_
  refine l_many X x.toNatClampNeg 0 0 S (by omega) (fun j => ?_)
  refine ws_lload (i := 5) X d_Read_takeMany_36 rfl ?_
  refine ws_lret X d_Read_takeMany_38 ?_
  exact ⟨rfl, rfl⟩

def entS (S : MS) : MS :=
  if takeV S 1 3 = 1 then appP (manyGo 0 255 4 0 (takeS S 1 3 4)).2 (takeV S 1 3) 4 (manyGo 0 255 4 0 (takeS S 1 3 4)).1.toInt32.toInt64
  else if takeV S 1 3 = 2 then appP (manyGo 0 255 8 0 (takeS S 1 3 4)).2 (takeV S 1 3) 8 (dCanon (manyGo 0 255 8 0 (takeS S 1 3 4)).1)
  else appP (manyGo 97 122 (takeV (takeS S 1 3 4) 1 8).toNatClampNeg 0 (takeS (takeS S 1 3 4) 1 8 3)).2 (takeV S 1 3) (takeV (takeS S 1 3 4) 1 8) (manyGo 97 122 (takeV (takeS S 1 3 4) 1 8).toNatClampNeg 0 (takeS (takeS S 1 3 4) 1 8 3)).1
def poolGo : Nat → MS → MS
  | 0, S => S
  | n + 1, S => if S.1 5 0 1 = 0 then poolGo n (entS S) else S
section L12
variable {p : Program} {l : Launch} {e0 : Env} {s : State} {m0 : MethodId} {args : Array Value} {below : List Frame} {meth : Method} {c0 : Code} {G : GG} {A : Nat → Prop} {Q : State → Prop}
theorem l_pool (X : CX p s m0 args meth c0 G A c_Read_readPool y_Read_readPool.cls 7 (none)) {x : Int32} : ∀ (n i : Nat) (S : MS) (a5 a6 : Option MV), i + n = x.toNatClampNeg → (∀ (j : Int32) (a5 a6 : Option MV), WS p l e0 (rmS 4 94) s m0 args below meth c0 G A 7 0 0 Q 131 [some (.inr (5, 0)), some (.inr (1, 0)), some (.inr (3, 0)), some (.inl (.int x)), some (.inl (.int j)), a5, a6] [] (poolGo n S)) → WS p l e0 (rmS 4 94) s m0 args below meth c0 G A 7 0 0 Q 13 [some (.inr (5, 0)), some (.inr (1, 0)), some (.inr (3, 0)), some (.inl (.int x)), some (.inl (.int (nI i))), a5, a6] [] (S) := by
  intro n
  have hx := cl_lt x
  induction n with
  | zero =>
    intro i S a5 a6 hi' K
    have hh : x ≤ nI i := by rw [le_cl x (by omega)]; omega
    refine ws_iload (i := 4) X d_Read_readPool_13 rfl ?_
    refine ws_iload_n (i := 3) X d_Read_readPool_15 rfl rfl ?_
    refine ws_icmp_ge X d_Read_readPool_16 (fun h16 => ?_) (fun h16 => ?_)
    · exact K _ _ _
    · exact absurd hh h16
  | succ n ih =>
    intro i S a5 a6 hi' K
    have hh : ¬ x ≤ nI i := by rw [le_cl x (by omega)]; omega
    rw [poolGo] at K
    refine ws_iload (i := 4) X d_Read_readPool_13 rfl ?_
    refine ws_iload_n (i := 3) X d_Read_readPool_15 rfl rfl ?_
    refine ws_icmp_ge X d_Read_readPool_16 (fun h16 => ?_) (fun h16 => ?_)
    · exact absurd h16 hh
    · refine ws_aload_n (i := 0) X d_Read_readPool_19 rfl rfl ?_
      refine ws_getI X fl_Read_15 ob5 d_Read_readPool_20 ?_
      refine ws_if_ne X d_Read_readPool_23 (fun h23 => ?_) (fun h23 => ?_)
      · simp only [eq_false h16, eq_false h23, if_true, if_false] at K; exact K _ _ _
      · refine ws_aload_n (i := 0) X d_Read_readPool_26 rfl rfl ?_
        refine ws_aload_n (i := 1) X d_Read_readPool_27 rfl rfl ?_
        refine ws_iconst (v := 1) X d_Read_readPool_28 rfl ?_
        refine ws_iconst (v := 3) X d_Read_readPool_29 rfl ?_
        refine ws_iconst (v := 4) X d_Read_readPool_30 rfl ?_
        refine ws_callV1 X (m_Read_take _ _ _ _) cv_Read_take ml_Read_23 ob5 rfl rfl (Nat.le_of_ble_eq_true rfl) ⟨Nat.le_of_ble_eq_true rfl, Nat.le_of_ble_eq_true rfl⟩ ⟨Nat.zero_le _, Nat.zero_le _⟩ d_Read_readPool_31 ?_
        refine ws_ist_5 X rfl d_Read_readPool_34 (by decide) ?_
        refine ws_iload (i := 5) X d_Read_readPool_36 rfl ?_
        refine ws_iconst (v := 1) X d_Read_readPool_38 rfl ?_
        refine ws_icmp_ne X d_Read_readPool_39 (fun h39 => ?_) (fun h39 => ?_)
        · refine ws_iload (i := 5) X d_Read_readPool_64 rfl ?_
          refine ws_iconst (v := 2) X d_Read_readPool_66 rfl ?_
          refine ws_icmp_ne X d_Read_readPool_67 (fun h67 => ?_) (fun h67 => ?_)
          · refine ws_aload_n (i := 0) X d_Read_readPool_95 rfl rfl ?_
            refine ws_aload_n (i := 1) X d_Read_readPool_96 rfl rfl ?_
            refine ws_iconst (v := 1) X d_Read_readPool_97 rfl ?_
            refine ws_bipush (v := 8) X d_Read_readPool_98 rfl ?_
            refine ws_iconst (v := 3) X d_Read_readPool_100 rfl ?_
            refine ws_callV1 X (m_Read_take _ _ _ _) cv_Read_take ml_Read_23 ob5 rfl rfl (Nat.le_of_ble_eq_true rfl) ⟨Nat.le_of_ble_eq_true rfl, Nat.le_of_ble_eq_true rfl⟩ ⟨Nat.zero_le _, Nat.zero_le _⟩ d_Read_readPool_101 ?_
            refine ws_ist_6 X rfl d_Read_readPool_104 (by decide) ?_
            refine ws_aload_n (i := 2) X d_Read_readPool_106 rfl rfl ?_
            refine ws_iload (i := 5) X d_Read_readPool_107 rfl ?_
            refine ws_iload (i := 6) X d_Read_readPool_109 rfl ?_
            refine ws_aload_n (i := 0) X d_Read_readPool_111 rfl rfl ?_
            refine ws_aload_n (i := 1) X d_Read_readPool_112 rfl rfl ?_
            refine ws_iload (i := 6) X d_Read_readPool_113 rfl ?_
            refine ws_bipush (v := 97) X d_Read_readPool_115 rfl ?_
            refine ws_bipush (v := 122) X d_Read_readPool_117 rfl ?_
            refine ws_callV1 X (m_Read_takeMany _ _ _ _) cv_Read_takeMany ml_Read_55 ob5 rfl rfl (Nat.le_of_ble_eq_true rfl) ⟨Nat.le_of_ble_eq_true rfl, Nat.le_of_ble_eq_true rfl⟩ ⟨Nat.zero_le _, Nat.zero_le _⟩ d_Read_readPool_119 ?_
            refine ws_callV0 X (m_Pool_append _ _ _ _) cv_Pool_append ml_Read_59 ob3 rfl rfl (Nat.le_of_ble_eq_true rfl) ⟨Nat.le_of_ble_eq_true rfl, Nat.le_of_ble_eq_true rfl⟩ ⟨Nat.zero_le _, Nat.zero_le _⟩ d_Read_readPool_122 ?_
            refine ws_iinc_4 X rfl d_Read_readPool_125 rfl (by decide) ?_
            refine ws_goto X d_Read_readPool_128 ?_
            rw [nI_inc]; simp only [entS, eq_false h16, eq_true h23, eq_false h39, eq_false h67, if_true, if_false] at K; exact ih (i + 1) _ _ _ (by omega) K
          · refine ws_aload_n (i := 2) X d_Read_readPool_70 rfl rfl ?_
            refine ws_iload (i := 5) X d_Read_readPool_71 rfl ?_
            refine ws_bipush (v := 8) X d_Read_readPool_73 rfl ?_
            refine ws_aload_n (i := 0) X d_Read_readPool_75 rfl rfl ?_
            refine ws_aload_n (i := 1) X d_Read_readPool_76 rfl rfl ?_
            refine ws_bipush (v := 8) X d_Read_readPool_77 rfl ?_
            refine ws_iconst (v := 0) X d_Read_readPool_79 rfl ?_
            refine ws_sipush (v := 255) X d_Read_readPool_80 rfl ?_
            refine ws_callV1 X (m_Read_takeMany _ _ _ _) cv_Read_takeMany ml_Read_55 ob5 rfl rfl (Nat.le_of_ble_eq_true rfl) ⟨Nat.le_of_ble_eq_true rfl, Nat.le_of_ble_eq_true rfl⟩ ⟨Nat.zero_le _, Nat.zero_le _⟩ d_Read_readPool_83 ?_
            refine ws_callS1 X (m_Dbl_canonical _ _) cs_Dbl_canonical ml_Read_65 rfl rfl (Nat.le_of_ble_eq_true rfl) ⟨Nat.le_of_ble_eq_true rfl, Nat.le_of_ble_eq_true rfl⟩ ⟨Nat.zero_le _, Nat.zero_le _⟩ d_Read_readPool_86 ?_
            refine ws_callV0 X (m_Pool_append _ _ _ _) cv_Pool_append ml_Read_59 ob3 rfl rfl (Nat.le_of_ble_eq_true rfl) ⟨Nat.le_of_ble_eq_true rfl, Nat.le_of_ble_eq_true rfl⟩ ⟨Nat.zero_le _, Nat.zero_le _⟩ d_Read_readPool_89 ?_
            refine ws_goto X d_Read_readPool_92 ?_
            refine ws_iinc_4 X rfl d_Read_readPool_125 rfl (by decide) ?_
            refine ws_goto X d_Read_readPool_128 ?_
            rw [nI_inc]; simp only [entS, eq_false h16, eq_true h23, eq_false h39, eq_true h67, if_true, if_false] at K; exact ih (i + 1) _ _ _ (by omega) K
        · refine ws_aload_n (i := 2) X d_Read_readPool_42 rfl rfl ?_
          refine ws_iload (i := 5) X d_Read_readPool_43 rfl ?_
          refine ws_iconst (v := 4) X d_Read_readPool_45 rfl ?_
          refine ws_aload_n (i := 0) X d_Read_readPool_46 rfl rfl ?_
          refine ws_aload_n (i := 1) X d_Read_readPool_47 rfl rfl ?_
          refine ws_iconst (v := 4) X d_Read_readPool_48 rfl ?_
          refine ws_iconst (v := 0) X d_Read_readPool_49 rfl ?_
          refine ws_sipush (v := 255) X d_Read_readPool_50 rfl ?_
          refine ws_callV1 X (m_Read_takeMany _ _ _ _) cv_Read_takeMany ml_Read_55 ob5 rfl rfl (Nat.le_of_ble_eq_true rfl) ⟨Nat.le_of_ble_eq_true rfl, Nat.le_of_ble_eq_true rfl⟩ ⟨Nat.zero_le _, Nat.zero_le _⟩ d_Read_readPool_53 ?_
          refine ws_l2i X d_Read_readPool_56 ?_
          refine ws_i2l X d_Read_readPool_57 ?_
          refine ws_callV0 X (m_Pool_append _ _ _ _) cv_Pool_append ml_Read_59 ob3 rfl rfl (Nat.le_of_ble_eq_true rfl) ⟨Nat.le_of_ble_eq_true rfl, Nat.le_of_ble_eq_true rfl⟩ ⟨Nat.zero_le _, Nat.zero_le _⟩ d_Read_readPool_58 ?_
          refine ws_goto X d_Read_readPool_61 ?_
          refine ws_iinc_4 X rfl d_Read_readPool_125 rfl (by decide) ?_
          refine ws_goto X d_Read_readPool_128 ?_
          rw [nI_inc]; simp only [entS, eq_false h16, eq_true h23, eq_true h39, if_true, if_false] at K; exact ih (i + 1) _ _ _ (by omega) K
end L12
def poolS (S : MS) : MS := poolGo (takeV S 0 16).toNatClampNeg (takeS S 0 16 3)
theorem m_Read_readPool (S : MS) : MetE y_Read_readPool c_Read_readPool 7 (none) 4 94 [.inr (5, 0), .inr (1, 0), .inr (3, 0)] S (none) (poolS S) := by
  refine MetS.of (lv0 := [some (.inr (5, 0)), some (.inr (1, 0)), some (.inr (3, 0)), none, none, none, none]) pn_Read rfl (Nat.le_of_ble_eq_true rfl) (fun p0 l0 e0 s0 m0 args below meth c0 G X => ?_)
  refine ws_aload_n (i := 0) X d_Read_readPool_0 rfl rfl ?_
  refine ws_aload_n (i := 1) X d_Read_readPool_1 rfl rfl ?_
  refine ws_iconst (v := 0) X d_Read_readPool_2 rfl ?_
  refine ws_bipush (v := 16) X d_Read_readPool_3 rfl ?_
  refine ws_iconst (v := 3) X d_Read_readPool_5 rfl ?_
  refine ws_callV1 X (m_Read_take _ _ _ _) cv_Read_take ml_Read_23 ob5 rfl rfl (Nat.le_of_ble_eq_true rfl) ⟨Nat.le_of_ble_eq_true rfl, Nat.le_of_ble_eq_true rfl⟩ ⟨Nat.zero_le _, Nat.zero_le _⟩ d_Read_readPool_6 ?_
  refine ws_istn_3 X rfl d_Read_readPool_9 (by decide) ?_
  refine ws_iconst (v := 0) X d_Read_readPool_10 rfl ?_
  refine ws_ist_4 X rfl d_Read_readPool_11 (by decide) ?_
  refine l_pool X (takeV S 0 16).toNatClampNeg 0 _ none none (by omega) (fun j a5 a6 => ?_)
  refine ws_vret X d_Read_readPool_131 ?_
  exact ⟨rfl, rfl⟩

/-- takeName -/
def nameBad (S : MS) : Bool := decide (S.1 5 0 1 = 0) && !(decide (byteT S (S.1 5 0 0) = -1)) && !(canTo S (byteT S (S.1 5 0 0)) (S.1 2 0 3).toNatClampNeg)
def nameS0 (S : MS) : MS := if nameBad S = true then wI S 5 0 1 6 else S
theorem m3_of {S : MS} (h : okN S = true) : (S.1 2 0 3).toNatClampNeg ≤ 5 ∧ S.1 2 0 3 = nI (S.1 2 0 3).toNatClampNeg := by
  simp only [okN, Bool.and_eq_true, decide_eq_true_eq] at h
  obtain ⟨j, hj, e⟩ := nI_of2 (M := 5) (n := 5) rfl h.1 (Int32.le_of_lt (Int32.not_le.mp h.2))
  rw [e, nI_c (by omega)]
  exact ⟨hj, rfl⟩
theorem m_Read_takeName (S : MS) (h3 : (S.1 2 0 3).toNatClampNeg ≤ 5) (h4 : S.1 2 0 3 = nI (S.1 2 0 3).toNatClampNeg) : MetE y_Read_takeName c_Read_takeName 4 ((some .int)) 3 67 [.inr (5, 0), .inr (1, 0), .inr (2, 0)] S (some (.inl (.int (takeV (nameS0 S) 0 255)))) (takeS (nameS0 S) 0 255 6) := by
  refine MetS.of (lv0 := [some (.inr (5, 0)), some (.inr (1, 0)), some (.inr (2, 0)), none]) pn_Read rfl (Nat.le_of_ble_eq_true rfl) (fun p0 l0 e0 s0 m0 args below meth c0 G X => ?_)
  refine ws_aload_n (i := 1) X d_Read_takeName_0 rfl rfl ?_
  refine ws_aload_n (i := 0) X d_Read_takeName_1 rfl rfl ?_
  refine ws_getI X fl_Read_9 ob5 d_Read_takeName_2 ?_
  refine ws_callV1 X (m_Tape_byteAt _ _) cv_Tape_byteAt ml_Read_52 ob1 rfl rfl (Nat.le_of_ble_eq_true rfl) ⟨Nat.le_of_ble_eq_true rfl, Nat.le_of_ble_eq_true rfl⟩ ⟨Nat.zero_le _, Nat.zero_le _⟩ d_Read_takeName_5 ?_
  refine ws_istn_3 X rfl d_Read_takeName_8 (by decide) ?_
  refine ws_aload_n (i := 0) X d_Read_takeName_9 rfl rfl ?_
  refine ws_getI X fl_Read_15 ob5 d_Read_takeName_10 ?_
  refine ws_if_ne X d_Read_takeName_13 (fun h13 => ?_) (fun h13 => ?_)
  · refine ws_aload_n (i := 0) X d_Read_takeName_35 rfl rfl ?_
    refine ws_aload_n (i := 1) X d_Read_takeName_36 rfl rfl ?_
    refine ws_iconst (v := 0) X d_Read_takeName_37 rfl ?_
    refine ws_sipush (v := 255) X d_Read_takeName_38 rfl ?_
    refine ws_bipush (v := 6) X d_Read_takeName_41 rfl ?_
    refine ws_callV1 X (m_Read_take _ _ _ _) cv_Read_take ml_Read_23 ob5 rfl rfl (Nat.le_of_ble_eq_true rfl) ⟨Nat.le_of_ble_eq_true rfl, Nat.le_of_ble_eq_true rfl⟩ ⟨Nat.zero_le _, Nat.zero_le _⟩ d_Read_takeName_43 ?_
    refine ws_iret X d_Read_takeName_46 ?_
    exact ⟨by simp [nameS0, nameBad, eq_false h13], by simp [nameS0, nameBad, eq_false h13]⟩
  · refine ws_iload_n (i := 3) X d_Read_takeName_16 rfl rfl ?_
    refine ws_iconst (v := (-1)) X d_Read_takeName_17 rfl ?_
    refine ws_icmp_eq X d_Read_takeName_18 (fun h18 => ?_) (fun h18 => ?_)
    · refine ws_aload_n (i := 0) X d_Read_takeName_35 rfl rfl ?_
      refine ws_aload_n (i := 1) X d_Read_takeName_36 rfl rfl ?_
      refine ws_iconst (v := 0) X d_Read_takeName_37 rfl ?_
      refine ws_sipush (v := 255) X d_Read_takeName_38 rfl ?_
      refine ws_bipush (v := 6) X d_Read_takeName_41 rfl ?_
      refine ws_callV1 X (m_Read_take _ _ _ _) cv_Read_take ml_Read_23 ob5 rfl rfl (Nat.le_of_ble_eq_true rfl) ⟨Nat.le_of_ble_eq_true rfl, Nat.le_of_ble_eq_true rfl⟩ ⟨Nat.zero_le _, Nat.zero_le _⟩ d_Read_takeName_43 ?_
      refine ws_iret X d_Read_takeName_46 ?_
      exact ⟨by simp [nameS0, nameBad, eq_true h13, eq_true h18], by simp [nameS0, nameBad, eq_true h13, eq_true h18]⟩
    · refine ws_aload_n (i := 2) X d_Read_takeName_21 rfl rfl ?_
      refine ws_iload_n (i := 3) X d_Read_takeName_22 rfl rfl ?_
      refine ws_callV1 X (m_Prog_canName _ _ _ h3 h4) cv_Prog_canName ml_Read_97 ob2 rfl rfl (Nat.le_of_ble_eq_true rfl) ⟨Nat.le_of_ble_eq_true rfl, Nat.le_of_ble_eq_true rfl⟩ ⟨Nat.zero_le _, Nat.zero_le _⟩ d_Read_takeName_23 ?_
      refine ws_ifB_ne X d_Read_takeName_26 (fun h26 => ?_) (fun h26 => ?_)
      · refine ws_aload_n (i := 0) X d_Read_takeName_35 rfl rfl ?_
        refine ws_aload_n (i := 1) X d_Read_takeName_36 rfl rfl ?_
        refine ws_iconst (v := 0) X d_Read_takeName_37 rfl ?_
        refine ws_sipush (v := 255) X d_Read_takeName_38 rfl ?_
        refine ws_bipush (v := 6) X d_Read_takeName_41 rfl ?_
        refine ws_callV1 X (m_Read_take _ _ _ _) cv_Read_take ml_Read_23 ob5 rfl rfl (Nat.le_of_ble_eq_true rfl) ⟨Nat.le_of_ble_eq_true rfl, Nat.le_of_ble_eq_true rfl⟩ ⟨Nat.zero_le _, Nat.zero_le _⟩ d_Read_takeName_43 ?_
        refine ws_iret X d_Read_takeName_46 ?_
        exact ⟨by simp [nameS0, nameBad, eq_true h13, eq_false h18, h26], by simp [nameS0, nameBad, eq_true h13, eq_false h18, h26]⟩
      · refine ws_aload_n (i := 0) X d_Read_takeName_29 rfl rfl ?_
        refine ws_bipush (v := 6) X d_Read_takeName_30 rfl ?_
        refine ws_putI X fl_Read_15 ob5 d_Read_takeName_32 ?_
        refine ws_aload_n (i := 0) X d_Read_takeName_35 rfl rfl ?_
        refine ws_aload_n (i := 1) X d_Read_takeName_36 rfl rfl ?_
        refine ws_iconst (v := 0) X d_Read_takeName_37 rfl ?_
        refine ws_sipush (v := 255) X d_Read_takeName_38 rfl ?_
        refine ws_bipush (v := 6) X d_Read_takeName_41 rfl ?_
        refine ws_callV1 X (m_Read_take _ _ _ _) cv_Read_take ml_Read_23 ob5 rfl rfl (Nat.le_of_ble_eq_true rfl) ⟨Nat.le_of_ble_eq_true rfl, Nat.le_of_ble_eq_true rfl⟩ ⟨Nat.zero_le _, Nat.zero_le _⟩ d_Read_takeName_43 ?_
        refine ws_iret X d_Read_takeName_46 ?_
        exact ⟨by simp [nameS0, nameBad, eq_true h13, eq_false h18, h26], by simp [nameS0, nameBad, eq_true h13, eq_false h18, h26]⟩

/-- readHead -/
def headGo (q : Nat) : Nat → Nat → MS → MS
  | 0, _, S => S
  | n + 1, i, S => headGo q n (i + 1) (wI (takeS S 1 2 7) 4 q 8 (kWith (S.1 4 q 8) (nI i) (takeV S 1 2)))
theorem takeS_o (S : MS) (lo up f : Int32) (a b d : Nat) (h : a ≠ 5) : (takeS S lo up f).1 a b d = S.1 a b d := by
  unfold takeS
  by_cases h1 : S.1 5 0 1 = 0
  · rw [if_pos h1]
    by_cases h2 : byteT S (S.1 5 0 0) = -1
    · rw [if_pos h2, wI_o _ _ _ _ _ _ _ _ (fun z => h z.1)]
    · rw [if_neg h2]
      by_cases h3 : byteT S (S.1 5 0 0) < lo
      · rw [if_pos h3, wI_o _ _ _ _ _ _ _ _ (fun z => h z.1)]
      · rw [if_neg h3]
        by_cases h4 : byteT S (S.1 5 0 0) ≤ up
        · rw [if_pos h4, wI_o _ _ _ _ _ _ _ _ (fun z => h z.1)]
        · rw [if_neg h4, wI_o _ _ _ _ _ _ _ _ (fun z => h z.1)]
  · rw [if_neg h1]
section L13
variable {p : Program} {l : Launch} {e0 : Env} {s : State} {m0 : MethodId} {args : Array Value} {below : List Frame} {meth : Method} {c0 : Code} {G : GG} {A : Nat → Prop} {Q : State → Prop}
theorem l_head (X : CX p s m0 args meth c0 G A c_Read_readHead y_Read_readHead.cls 4 (none)) {q : Nat} (hq : q < 5) {x : Int32} : ∀ (n i : Nat) (S : MS), S.1 4 q 1 = x → i + n = x.toNatClampNeg → (∀ j : Int32, WS p l e0 (rmS 3 67) s m0 args below meth c0 G A 4 0 0 Q 59 [some (.inr (5, 0)), some (.inr (1, 0)), some (.inr (4, q)), some (.inl (.int j))] [] (headGo q n i S)) → WS p l e0 (rmS 3 67) s m0 args below meth c0 G A 4 0 0 Q 24 [some (.inr (5, 0)), some (.inr (1, 0)), some (.inr (4, q)), some (.inl (.int (nI i)))] [] (S) := by
  intro n
  have hx := cl_lt x
  induction n with
  | zero =>
    intro i S hS hi' K
    have hh : S.1 4 q 1 ≤ nI i := by rw [hS, le_cl x (by omega)]; omega
    refine ws_iload_n (i := 3) X d_Read_readHead_24 rfl rfl ?_
    refine ws_aload_n (i := 2) X d_Read_readHead_25 rfl rfl ?_
    refine ws_getI X fl_Read_106 (ob4 (by assumption)) d_Read_readHead_26 ?_
    refine ws_icmp_ge X d_Read_readHead_29 (fun h29 => ?_) (fun h29 => ?_)
    · exact K _
    · exact absurd hh h29
  | succ n ih =>
    intro i S hS hi' K
    have hh : ¬ S.1 4 q 1 ≤ nI i := by rw [hS, le_cl x (by omega)]; omega
    rw [headGo] at K
    refine ws_iload_n (i := 3) X d_Read_readHead_24 rfl rfl ?_
    refine ws_aload_n (i := 2) X d_Read_readHead_25 rfl rfl ?_
    refine ws_getI X fl_Read_106 (ob4 (by assumption)) d_Read_readHead_26 ?_
    refine ws_icmp_ge X d_Read_readHead_29 (fun h29 => ?_) (fun h29 => ?_)
    · exact absurd h29 hh
    · refine ws_aload_n (i := 2) X d_Read_readHead_32 rfl rfl ?_
      refine ws_aload_n (i := 2) X d_Read_readHead_33 rfl rfl ?_
      refine ws_getI X fl_Read_103 (ob4 (by assumption)) d_Read_readHead_34 ?_
      refine ws_iload_n (i := 3) X d_Read_readHead_37 rfl rfl ?_
      refine ws_aload_n (i := 0) X d_Read_readHead_38 rfl rfl ?_
      refine ws_aload_n (i := 1) X d_Read_readHead_39 rfl rfl ?_
      refine ws_iconst (v := 1) X d_Read_readHead_40 rfl ?_
      refine ws_iconst (v := 2) X d_Read_readHead_41 rfl ?_
      refine ws_bipush (v := 7) X d_Read_readHead_42 rfl ?_
      refine ws_callV1 X (m_Read_take _ _ _ _) cv_Read_take ml_Read_23 ob5 rfl rfl (Nat.le_of_ble_eq_true rfl) ⟨Nat.le_of_ble_eq_true rfl, Nat.le_of_ble_eq_true rfl⟩ ⟨Nat.zero_le _, Nat.zero_le _⟩ d_Read_readHead_44 ?_
      refine ws_callS1 X (m_Kinds_withLocal _ _ _ _) cs_Kinds_withLocal ml_Read_109 rfl rfl (Nat.le_of_ble_eq_true rfl) ⟨Nat.le_of_ble_eq_true rfl, Nat.le_of_ble_eq_true rfl⟩ ⟨Nat.zero_le _, Nat.zero_le _⟩ d_Read_readHead_47 ?_
      refine ws_putI X fl_Read_103 (ob4 (by assumption)) d_Read_readHead_50 ?_
      refine ws_iinc_3 X rfl d_Read_readHead_53 rfl (by decide) ?_
      refine ws_goto X d_Read_readHead_56 ?_
      rw [nI_inc]; exact ih (i + 1) _ (by rw [wI_o _ _ _ _ _ _ _ _ (fun z => absurd z.2.2 (by decide)), takeS_o _ _ _ _ _ _ _ (by decide)]; exact hS) (by omega) K
end L13

