/-! Reader: place S.1 5 0 0, wrong S.1 5 0 1 -/
def takeV (S : MS) (lo hi : Int32) : Int32 := if S.1 5 0 1 = 0 then (if byteT S (S.1 5 0 0) = -1 then 0 else if byteT S (S.1 5 0 0) < lo then 0 else if byteT S (S.1 5 0 0) ≤ hi then byteT S (S.1 5 0 0) else 0) else 0
def takeS (S : MS) (lo hi f : Int32) : MS := if S.1 5 0 1 = 0 then (if byteT S (S.1 5 0 0) = -1 then wI S 5 0 1 1 else if byteT S (S.1 5 0 0) < lo then wI S 5 0 1 f else if byteT S (S.1 5 0 0) ≤ hi then wI S 5 0 0 (S.1 5 0 0 + 1) else wI S 5 0 1 f) else S
theorem m_Read_take (S : MS) (lo hi f : Int32) : MetE y_Read_take c_Read_take 6 ((some .int)) 2 42 [.inr (5, 0), .inr (1, 0), .inl (.int lo), .inl (.int hi), .inl (.int f)] S (some (.inl (.int (takeV S lo hi)))) (takeS S lo hi f) := by
  refine MetS.of (lv0 := [some (.inr (5, 0)), some (.inr (1, 0)), some (.inl (.int lo)), some (.inl (.int hi)), some (.inl (.int f)), none]) pn_Read rfl (Nat.le_of_ble_eq_true rfl) (fun p0 l0 e0 s0 m0 args below meth c0 G X => ?_)
  refine ws_aload_n (i := 0) X d_Read_take_0 rfl rfl ?_
  refine ws_getI X fl_Read_15 ob5 d_Read_take_1 ?_
  refine ws_if_eq X d_Read_take_4 (fun h4 => ?_) (fun h4 => ?_)
  · refine ws_aload_n (i := 1) X d_Read_take_9 rfl rfl ?_
    refine ws_aload_n (i := 0) X d_Read_take_10 rfl rfl ?_
    refine ws_getI X fl_Read_9 ob5 d_Read_take_11 ?_
    refine ws_callV1 X (m_Tape_byteAt _ _) cv_Tape_byteAt ml_Read_52 ob1 rfl rfl (Nat.le_of_ble_eq_true rfl) ⟨Nat.le_of_ble_eq_true rfl, Nat.le_of_ble_eq_true rfl⟩ ⟨Nat.zero_le _, Nat.zero_le _⟩ d_Read_take_14 ?_
    refine ws_ist_5 X rfl d_Read_take_17 (by decide) ?_
    refine ws_iload (i := 5) X d_Read_take_19 rfl ?_
    refine ws_iconst (v := (-1)) X d_Read_take_21 rfl ?_
    refine ws_icmp_ne X d_Read_take_22 (fun h22 => ?_) (fun h22 => ?_)
    · refine ws_iload (i := 5) X d_Read_take_32 rfl ?_
      refine ws_iload_n (i := 2) X d_Read_take_34 rfl rfl ?_
      refine ws_icmp_lt X d_Read_take_35 (fun h35 => ?_) (fun h35 => ?_)
      · refine ws_aload_n (i := 0) X d_Read_take_44 rfl rfl ?_
        refine ws_iload (i := 4) X d_Read_take_45 rfl ?_
        refine ws_putI X fl_Read_15 ob5 d_Read_take_47 ?_
        refine ws_iconst (v := 0) X d_Read_take_50 rfl ?_
        refine ws_iret X d_Read_take_51 ?_
        exact ⟨by simp [takeV, eq_true h4, eq_false h22, eq_true h35], by simp [takeS, eq_true h4, eq_false h22, eq_true h35]⟩
      · refine ws_iload (i := 5) X d_Read_take_38 rfl ?_
        refine ws_iload_n (i := 3) X d_Read_take_40 rfl rfl ?_
        refine ws_icmp_le X d_Read_take_41 (fun h41 => ?_) (fun h41 => ?_)
        · refine ws_aload_n (i := 0) X d_Read_take_52 rfl rfl ?_
          refine ws_dup X d_Read_take_53 rfl ?_
          refine ws_getI X fl_Read_9 ob5 d_Read_take_54 ?_
          refine ws_iconst (v := 1) X d_Read_take_57 rfl ?_
          refine ws_iadd X d_Read_take_58 ?_
          refine ws_putI X fl_Read_9 ob5 d_Read_take_59 ?_
          refine ws_iload (i := 5) X d_Read_take_62 rfl ?_
          refine ws_iret X d_Read_take_64 ?_
          exact ⟨by simp [takeV, eq_true h4, eq_false h22, eq_false h35, eq_true h41], by simp [takeS, eq_true h4, eq_false h22, eq_false h35, eq_true h41]⟩
        · refine ws_aload_n (i := 0) X d_Read_take_44 rfl rfl ?_
          refine ws_iload (i := 4) X d_Read_take_45 rfl ?_
          refine ws_putI X fl_Read_15 ob5 d_Read_take_47 ?_
          refine ws_iconst (v := 0) X d_Read_take_50 rfl ?_
          refine ws_iret X d_Read_take_51 ?_
          exact ⟨by simp [takeV, eq_true h4, eq_false h22, eq_false h35, eq_false h41], by simp [takeS, eq_true h4, eq_false h22, eq_false h35, eq_false h41]⟩
    · refine ws_aload_n (i := 0) X d_Read_take_25 rfl rfl ?_
      refine ws_iconst (v := 1) X d_Read_take_26 rfl ?_
      refine ws_putI X fl_Read_15 ob5 d_Read_take_27 ?_
      refine ws_iconst (v := 0) X d_Read_take_30 rfl ?_
      refine ws_iret X d_Read_take_31 ?_
      exact ⟨by simp [takeV, eq_true h4, eq_true h22], by simp [takeS, eq_true h4, eq_true h22]⟩
  · refine ws_iconst (v := 0) X d_Read_take_7 rfl ?_
    refine ws_iret X d_Read_take_8 ?_
    exact ⟨by simp [takeV, eq_false h4], by simp [takeS, eq_false h4]⟩

/-- so many taken, the first the highest -/
def manyGo (lo hi : Int32) : Nat → Int64 → MS → Int64 × MS
  | 0, v, S => (v, S)
  | n + 1, v, S => manyGo lo hi n (shl64 v 8 ||| (takeV S lo hi).toInt64) (takeS S lo hi 5)
section L11
variable {p : Program} {l : Launch} {e0 : Env} {s : State} {m0 : MethodId} {args : Array Value} {below : List Frame} {meth : Method} {c0 : Code} {G : GG} {A : Nat → Prop} {Q : State → Prop}
theorem l_many (X : CX p s m0 args meth c0 G A c_Read_takeMany y_Read_takeMany.cls 8 ((some .long))) {k : Nat} {lo hi : Int32} (hk : k < 100) : ∀ (n i : Nat) (v : Int64) (S : MS), i + n = k → (∀ j : Int32, WS p l e0 (rmS 3 67) s m0 args below meth c0 G A 8 0 0 Q 36 [some (.inr (5, 0)), some (.inr (1, 0)), some (.inl (.int (nI k))), some (.inl (.int lo)), some (.inl (.int hi)), some (.inl (.long (manyGo lo hi n v S).1)), none, some (.inl (.int j))] [] ((manyGo lo hi n v S).2)) → WS p l e0 (rmS 3 67) s m0 args below meth c0 G A 8 0 0 Q 6 [some (.inr (5, 0)), some (.inr (1, 0)), some (.inl (.int (nI k))), some (.inl (.int lo)), some (.inl (.int hi)), some (.inl (.long v)), none, some (.inl (.int (nI i)))] [] (S) := by
  intro n
  induction n with
  | zero =>
    intro i v S hi' K
    have hh : nI k ≤ nI i := by rw [nI_leI (by omega) (by omega)]; omega
    refine ws_iload (i := 7) X d_Read_takeMany_6 rfl ?_
    refine ws_iload_n (i := 2) X d_Read_takeMany_8 rfl rfl ?_
    refine ws_icmp_ge X d_Read_takeMany_9 (fun h9 => ?_) (fun h9 => ?_)
    · exact K _
    · exact absurd hh h9
  | succ n ih =>
    intro i v S hi' K
    have hh : ¬ nI k ≤ nI i := by rw [nI_leI (by omega) (by omega)]; omega
    rw [manyGo] at K
    refine ws_iload (i := 7) X d_Read_takeMany_6 rfl ?_
    refine ws_iload_n (i := 2) X d_Read_takeMany_8 rfl rfl ?_
    refine ws_icmp_ge X d_Read_takeMany_9 (fun h9 => ?_) (fun h9 => ?_)
    · exact absurd h9 hh
    · refine ws_lload (i := 5) X d_Read_takeMany_12 rfl ?_
      refine ws_bipush (v := 8) X d_Read_takeMany_14 rfl ?_
      refine ws_lshl X d_Read_takeMany_16 ?_
      refine ws_aload_n (i := 0) X d_Read_takeMany_17 rfl rfl ?_
      refine ws_aload_n (i := 1) X d_Read_takeMany_18 rfl rfl ?_
      refine ws_iload_n (i := 3) X d_Read_takeMany_19 rfl rfl ?_
      refine ws_iload (i := 4) X d_Read_takeMany_20 rfl ?_
      refine ws_iconst (v := 5) X d_Read_takeMany_22 rfl ?_
      refine ws_callV1 X (m_Read_take _ _ (by assumption) _) cv_Read_take ml_Read_23 ob5 rfl rfl (Nat.le_of_ble_eq_true rfl) ⟨Nat.le_of_ble_eq_true rfl, Nat.le_of_ble_eq_true rfl⟩ ⟨Nat.zero_le _, Nat.zero_le _⟩ d_Read_takeMany_23 ?_
      refine ws_i2l X d_Read_takeMany_26 ?_
      refine ws_lor X d_Read_takeMany_27 ?_
      refine ws_lst_5 X rfl d_Read_takeMany_28 (by decide) ?_
      refine ws_iinc_7 X rfl d_Read_takeMany_30 rfl (by decide) ?_
      refine ws_goto X d_Read_takeMany_33 ?_
      rw [nI_inc]; exact ih (i + 1) _ _ (by omega) K
end L11
theorem m_Read_takeMany (S : MS) (k : Nat) (lo hi : Int32) (hk : k < 100) : MetE y_Read_takeMany c_Read_takeMany 8 ((some .long)) 3 67 [.inr (5, 0), .inr (1, 0), .inl (.int (nI k)), .inl (.int lo), .inl (.int hi)] S (some (.inl (.long (manyGo lo hi k 0 S).1))) ((manyGo lo hi k 0 S).2) := by
  refine MetS.of (lv0 := [some (.inr (5, 0)), some (.inr (1, 0)), some (.inl (.int (nI k))), some (.inl (.int lo)), some (.inl (.int hi)), none, none, none]) pn_Read rfl (Nat.le_of_ble_eq_true rfl) (fun p0 l0 e0 s0 m0 args below meth c0 G X => ?_)
  refine ws_lconst (v := 0) X d_Read_takeMany_0 rfl ?_
  refine ws_lst_5 X rfl d_Read_takeMany_1 (by decide) ?_
  refine ws_iconst (v := 0) X d_Read_takeMany_3 rfl ?_
  refine ws_ist_7 X rfl d_Read_takeMany_4 (by decide) ?_
  refine l_many X hk k 0 0 S (by omega) (fun j => ?_)
  refine ws_lload (i := 5) X d_Read_takeMany_36 rfl ?_
  refine ws_lret X d_Read_takeMany_38 ?_
  exact ⟨rfl, rfl⟩


