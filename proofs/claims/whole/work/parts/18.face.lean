/-! the face, all but read -/
def feedGo (w : Int64) : Nat → MS → MS
  | 0, S => S
  | n + 1, S => feedGo w n (appT S ((ushr64 w (8 * nI n)).toInt32 &&& 255))
section L10
variable {p : Program} {l : Launch} {e0 : Env} {s : State} {m0 : MethodId} {args : Array Value} {below : List Frame} {meth : Method} {c0 : Code} {G : GG} {A : Nat → Prop} {Q : State → Prop}
theorem l_feed (X : CX p s m0 args meth c0 G A c_IF_feed y_IF_feed.cls 5 ((some .int))) {w : Int64} {x3 : Int32} : ∀ (n : Nat) (S : MS), n ≤ 8 → (∀ j : Int32, WS p l e0 (rmS 1 21) s m0 args below meth c0 G A 5 0 0 Q 67 [some (.inr (0, 0)), some (.inl (.long w)), none, some (.inl (.int x3)), some (.inl (.int j))] [] (feedGo w n S)) → WS p l e0 (rmS 1 21) s m0 args below meth c0 G A 5 0 0 Q 37 [some (.inr (0, 0)), some (.inl (.long w)), none, some (.inl (.int x3)), some (.inl (.int (nI n - 1)))] [] (S) := by
  intro n
  induction n with
  | zero =>
    intro S hn K
    refine ws_iload (i := 4) X d_IF_feed_37 rfl ?_
    refine ws_if_lt X d_IF_feed_39 (fun h39 => ?_) (fun h39 => ?_)
    · exact K _
    · exact absurd (by decide) h39
  | succ n ih =>
    intro S hn K
    have hh : ¬ nI (n + 1) - 1 < 0 := by rw [nI_m1]; exact nI_pos (by omega)
    rw [feedGo] at K
    refine ws_iload (i := 4) X d_IF_feed_37 rfl ?_
    refine ws_if_lt X d_IF_feed_39 (fun h39 => ?_) (fun h39 => ?_)
    · exact absurd h39 hh
    · refine ws_aload_n (i := 0) X d_IF_feed_42 rfl rfl ?_
      refine ws_getR X fl_IF_10 ob0 d_IF_feed_43 ?_
      refine ws_lload_n (i := 1) X d_IF_feed_46 rfl rfl ?_
      refine ws_bipush (v := 8) X d_IF_feed_47 rfl ?_
      refine ws_iload (i := 4) X d_IF_feed_49 rfl ?_
      rw [nI_m1]
      refine ws_imul X d_IF_feed_51 ?_
      refine ws_lushr X d_IF_feed_52 ?_
      refine ws_l2i X d_IF_feed_53 ?_
      refine ws_sipush (v := 255) X d_IF_feed_54 rfl ?_
      refine ws_iand X d_IF_feed_57 ?_
      refine ws_callV0 X (m_Tape_append _ _) cv_Tape_append ml_IF_48 ob1 rfl rfl (Nat.le_of_ble_eq_true rfl) ⟨Nat.le_of_ble_eq_true rfl, Nat.le_of_ble_eq_true rfl⟩ ⟨Nat.zero_le _, Nat.zero_le _⟩ d_IF_feed_58 ?_
      refine ws_iinc_4 X rfl d_IF_feed_61 rfl (by decide) ?_
      refine ws_goto X d_IF_feed_64 ?_
      rw [nI_d0]; exact ih _ (by omega) K
end L10
def feedV (S : MS) (w : Int64) (n : Int32) : Int32 := if n < 1 then -102 else if n ≤ 8 then (if S.1 1 0 1 + n ≤ 500 then (feedGo w n.toNatClampNeg S).1 1 0 1 else -104) else -102
def feedS (S : MS) (w : Int64) (n : Int32) : MS := if n < 1 then S else if n ≤ 8 then (if S.1 1 0 1 + n ≤ 500 then feedGo w n.toNatClampNeg S else S) else S
theorem m_IF_feed (S : MS) (w : Int64) (n : Int32) : MetE y_IF_feed c_IF_feed 5 ((some .int)) 1 21 [.inr (0, 0), .inl (.long w), .inl (.int n)] S (some (.inl (.int (feedV S w n)))) (feedS S w n) := by
  refine MetS.of (lv0 := [some (.inr (0, 0)), some (.inl (.long w)), none, some (.inl (.int n)), none]) pn_IF rfl (Nat.le_of_ble_eq_true rfl) (fun p0 l0 e0 s0 m0 args below meth c0 G X => ?_)
  refine ws_iload_n (i := 3) X d_IF_feed_0 rfl rfl ?_
  refine ws_iconst (v := 1) X d_IF_feed_1 rfl ?_
  refine ws_icmp_lt X d_IF_feed_2 (fun h2 => ?_) (fun h2 => ?_)
  · refine ws_bipush (v := (-102)) X d_IF_feed_11 rfl ?_
    refine ws_iret X d_IF_feed_13 ?_
    exact ⟨by simp [feedV, eq_true h2], by simp [feedS, eq_true h2]⟩
  · refine ws_iload_n (i := 3) X d_IF_feed_5 rfl rfl ?_
    refine ws_bipush (v := 8) X d_IF_feed_6 rfl ?_
    refine ws_icmp_le X d_IF_feed_8 (fun h8 => ?_) (fun h8 => ?_)
    · refine ws_aload_n (i := 0) X d_IF_feed_14 rfl rfl ?_
      refine ws_getR X fl_IF_10 ob0 d_IF_feed_15 ?_
      refine ws_getI X fl_IF_44 ob1 d_IF_feed_18 ?_
      refine ws_iload_n (i := 3) X d_IF_feed_21 rfl rfl ?_
      refine ws_iadd X d_IF_feed_22 ?_
      refine ws_sipush (v := 500) X d_IF_feed_23 rfl ?_
      refine ws_icmp_le X d_IF_feed_26 (fun h26 => ?_) (fun h26 => ?_)
      · refine ws_iload_n (i := 3) X d_IF_feed_32 rfl rfl ?_
        refine ws_iconst (v := 1) X d_IF_feed_33 rfl ?_
        refine ws_isub X d_IF_feed_34 ?_
        refine ws_ist_4 X rfl d_IF_feed_35 (by decide) ?_
        obtain ⟨k, hk, hn⟩ := nI_of2 (M := 8) (n := 8) rfl (fun z => h2 (Int32.lt_trans z (by decide))) h8
        have hc : n.toNatClampNeg = k := by rw [hn]; exact nI_c (by omega)
        have hV : feedV S w n = (feedGo w k S).1 1 0 1 := by simp [feedV, hc, eq_false h2, eq_true h8, eq_true h26]
        have hS : feedS S w n = feedGo w k S := by simp [feedS, hc, eq_false h2, eq_true h8, eq_true h26]
        rw [hV, hS, hn]
        refine l_feed X k S hk (fun j => ?_)
        refine ws_aload_n (i := 0) X d_IF_feed_67 rfl rfl ?_
        refine ws_getR X fl_IF_10 ob0 d_IF_feed_68 ?_
        refine ws_getI X fl_IF_44 ob1 d_IF_feed_71 ?_
        refine ws_iret X d_IF_feed_74 ?_
        exact ⟨rfl, rfl⟩
      · refine ws_bipush (v := (-104)) X d_IF_feed_29 rfl ?_
        refine ws_iret X d_IF_feed_31 ?_
        exact ⟨by simp [feedV, eq_false h2, eq_true h8, eq_false h26], by simp [feedS, eq_false h2, eq_true h8, eq_false h26]⟩
    · refine ws_bipush (v := (-102)) X d_IF_feed_11 rfl ?_
      refine ws_iret X d_IF_feed_13 ?_
      exact ⟨by simp [feedV, eq_false h2, eq_false h8], by simp [feedS, eq_false h2, eq_false h8]⟩

theorem m_IF_wipe (S : MS) : MetE y_IF_wipe c_IF_wipe 2 ((some .int)) 0 0 [.inr (0, 0)] S (some (.inl (.int (S.1 1 0 1)))) (wI S 1 0 1 0) := by
  refine MetS.of (lv0 := [some (.inr (0, 0)), none]) pn_IF rfl (Nat.le_of_ble_eq_true rfl) (fun p0 l0 e0 s0 m0 args below meth c0 G X => ?_)
  refine ws_aload_n (i := 0) X d_IF_wipe_0 rfl rfl ?_
  refine ws_getR X fl_IF_10 ob0 d_IF_wipe_1 ?_
  refine ws_getI X fl_IF_44 ob1 d_IF_wipe_4 ?_
  refine ws_istn_1 X rfl d_IF_wipe_7 (by decide) ?_
  refine ws_aload_n (i := 0) X d_IF_wipe_8 rfl rfl ?_
  refine ws_getR X fl_IF_10 ob0 d_IF_wipe_9 ?_
  refine ws_iconst (v := 0) X d_IF_wipe_12 rfl ?_
  refine ws_putI X fl_IF_44 ob1 d_IF_wipe_13 ?_
  refine ws_iload_n (i := 1) X d_IF_wipe_16 rfl rfl ?_
  refine ws_iret X d_IF_wipe_17 ?_
  exact ⟨rfl, rfl⟩

def alterV (S : MS) (i m : Int32) : Int32 := if hasT S i = true then (if m < 0 then -102 else if m ≤ 255 then byteT S i ^^^ m else -102) else -101
def alterS (S : MS) (i m : Int32) : MS := if hasT S i = true then (if m < 0 then S else if m ≤ 255 then replT S i (byteT S i ^^^ m) else S) else S
theorem m_IF_alter (S : MS) (i m : Int32) : MetE y_IF_alter c_IF_alter 3 ((some .int)) 2 43 [.inr (0, 0), .inl (.int i), .inl (.int m)] S (some (.inl (.int (alterV S i m)))) (alterS S i m) := by
  refine MetS.of (lv0 := [some (.inr (0, 0)), some (.inl (.int i)), some (.inl (.int m))]) pn_IF rfl (Nat.le_of_ble_eq_true rfl) (fun p0 l0 e0 s0 m0 args below meth c0 G X => ?_)
  refine ws_aload_n (i := 0) X d_IF_alter_0 rfl rfl ?_
  refine ws_getR X fl_IF_10 ob0 d_IF_alter_1 ?_
  refine ws_iload_n (i := 1) X d_IF_alter_4 rfl rfl ?_
  refine ws_callV1 X (m_Tape_has _ _) cv_Tape_has ml_IF_52 ob1 rfl rfl (Nat.le_of_ble_eq_true rfl) ⟨Nat.le_of_ble_eq_true rfl, Nat.le_of_ble_eq_true rfl⟩ ⟨Nat.zero_le _, Nat.zero_le _⟩ d_IF_alter_5 ?_
  refine ws_ifB_ne X d_IF_alter_8 (fun h8 => ?_) (fun h8 => ?_)
  · refine ws_iload_n (i := 2) X d_IF_alter_14 rfl rfl ?_
    refine ws_if_lt X d_IF_alter_15 (fun h15 => ?_) (fun h15 => ?_)
    · refine ws_bipush (v := (-102)) X d_IF_alter_25 rfl ?_
      refine ws_iret X d_IF_alter_27 ?_
      exact ⟨by simp [alterV, h8, eq_true h15], by simp [alterS, h8, eq_true h15]⟩
    · refine ws_iload_n (i := 2) X d_IF_alter_18 rfl rfl ?_
      refine ws_sipush (v := 255) X d_IF_alter_19 rfl ?_
      refine ws_icmp_le X d_IF_alter_22 (fun h22 => ?_) (fun h22 => ?_)
      · refine ws_aload_n (i := 0) X d_IF_alter_28 rfl rfl ?_
        refine ws_getR X fl_IF_10 ob0 d_IF_alter_29 ?_
        refine ws_iload_n (i := 1) X d_IF_alter_32 rfl rfl ?_
        refine ws_aload_n (i := 0) X d_IF_alter_33 rfl rfl ?_
        refine ws_getR X fl_IF_10 ob0 d_IF_alter_34 ?_
        refine ws_iload_n (i := 1) X d_IF_alter_37 rfl rfl ?_
        refine ws_callV1 X (m_Tape_byteAt _ _) cv_Tape_byteAt ml_IF_56 ob1 rfl rfl (Nat.le_of_ble_eq_true rfl) ⟨Nat.le_of_ble_eq_true rfl, Nat.le_of_ble_eq_true rfl⟩ ⟨Nat.zero_le _, Nat.zero_le _⟩ d_IF_alter_38 ?_
        refine ws_iload_n (i := 2) X d_IF_alter_41 rfl rfl ?_
        refine ws_ixor X d_IF_alter_42 ?_
        refine ws_callV1 X (m_Tape_replace _ _ _) cv_Tape_replace ml_IF_60 ob1 rfl rfl (Nat.le_of_ble_eq_true rfl) ⟨Nat.le_of_ble_eq_true rfl, Nat.le_of_ble_eq_true rfl⟩ ⟨Nat.zero_le _, Nat.zero_le _⟩ d_IF_alter_43 ?_
        refine ws_iret X d_IF_alter_46 ?_
        exact ⟨by simp [alterV, h8, eq_false h15, eq_true h22], by simp [alterS, h8, eq_false h15, eq_true h22]⟩
      · refine ws_bipush (v := (-102)) X d_IF_alter_25 rfl ?_
        refine ws_iret X d_IF_alter_27 ?_
        exact ⟨by simp [alterV, h8, eq_false h15, eq_false h22], by simp [alterS, h8, eq_false h15, eq_false h22]⟩
  · refine ws_bipush (v := (-101)) X d_IF_alter_11 rfl ?_
    refine ws_iret X d_IF_alter_13 ?_
    exact ⟨by simp [alterV, h8], by simp [alterS, h8]⟩

def atV (S : MS) (i : Int32) : Int32 := if hasT S i = true then byteT S i else -101
theorem m_IF_at (S : MS) (i : Int32) : MetE y_IF_at c_IF_at 2 ((some .int)) 2 42 [.inr (0, 0), .inl (.int i)] S (some (.inl (.int (atV S i)))) (S) := by
  refine MetS.of (lv0 := [some (.inr (0, 0)), some (.inl (.int i))]) pn_IF rfl (Nat.le_of_ble_eq_true rfl) (fun p0 l0 e0 s0 m0 args below meth c0 G X => ?_)
  refine ws_aload_n (i := 0) X d_IF_at_0 rfl rfl ?_
  refine ws_getR X fl_IF_10 ob0 d_IF_at_1 ?_
  refine ws_iload_n (i := 1) X d_IF_at_4 rfl rfl ?_
  refine ws_callV1 X (m_Tape_has _ _) cv_Tape_has ml_IF_52 ob1 rfl rfl (Nat.le_of_ble_eq_true rfl) ⟨Nat.le_of_ble_eq_true rfl, Nat.le_of_ble_eq_true rfl⟩ ⟨Nat.zero_le _, Nat.zero_le _⟩ d_IF_at_5 ?_
  refine ws_ifB_eq X d_IF_at_8 (fun h8 => ?_) (fun h8 => ?_)
  · refine ws_bipush (v := (-101)) X d_IF_at_22 rfl ?_
    refine ws_iret X d_IF_at_24 ?_
    exact ⟨by simp [atV, h8], rfl⟩
  · refine ws_aload_n (i := 0) X d_IF_at_11 rfl rfl ?_
    refine ws_getR X fl_IF_10 ob0 d_IF_at_12 ?_
    refine ws_iload_n (i := 1) X d_IF_at_15 rfl rfl ?_
    refine ws_callV1 X (m_Tape_byteAt _ _) cv_Tape_byteAt ml_IF_56 ob1 rfl rfl (Nat.le_of_ble_eq_true rfl) ⟨Nat.le_of_ble_eq_true rfl, Nat.le_of_ble_eq_true rfl⟩ ⟨Nat.zero_le _, Nat.zero_le _⟩ d_IF_at_16 ?_
    refine ws_goto X d_IF_at_19 ?_
    refine ws_iret X d_IF_at_24 ?_
    exact ⟨by simp [atV, h8], rfl⟩

theorem m_IF_seal_0 (S : MS) (hS : S.1 1 0 1 = 0) : MetE y_IF_seal c_IF_seal 2 ((some .int)) 2 43 [.inr (0, 0)] S (some (.inl (.int (-103)))) (S) := by
  refine MetS.of (lv0 := [some (.inr (0, 0)), none]) pn_IF rfl (Nat.le_of_ble_eq_true rfl) (fun p0 l0 e0 s0 m0 args below meth c0 G X => ?_)
  refine ws_aload_n (i := 0) X d_IF_seal_0 rfl rfl ?_
  refine ws_getR X fl_IF_10 ob0 d_IF_seal_1 ?_
  refine ws_getI X fl_IF_44 ob1 d_IF_seal_4 ?_
  rw [hS]
  refine ws_iconst (v := 1) X d_IF_seal_7 rfl ?_
  refine ws_isub X d_IF_seal_8 ?_
  refine ws_istn_1 X rfl d_IF_seal_9 (by decide) ?_
  refine ws_aload_n (i := 0) X d_IF_seal_10 rfl rfl ?_
  refine ws_getR X fl_IF_10 ob0 d_IF_seal_11 ?_
  refine ws_iload_n (i := 1) X d_IF_seal_14 rfl rfl ?_
  refine ws_callV1 X (m_Tape_has _ _) cv_Tape_has ml_IF_52 ob1 rfl rfl (Nat.le_of_ble_eq_true rfl) ⟨Nat.le_of_ble_eq_true rfl, Nat.le_of_ble_eq_true rfl⟩ ⟨Nat.zero_le _, Nat.zero_le _⟩ d_IF_seal_15 ?_
  refine ws_ifB_eq X d_IF_seal_18 (fun h18 => ?_) (fun h18 => ?_)
  · refine ws_bipush (v := (-103)) X d_IF_seal_40 rfl ?_
    refine ws_iret X d_IF_seal_42 ?_
    exact ⟨rfl, rfl⟩
  · exact absurd h18 (by simp [hasT, show (0 : Int32) - 1 < 0 from by decide])

theorem hasT_n {S : MS} {n i : Nat} (hn : n ≤ 500) (hS : S.1 1 0 1 = nI n) (hi : i < n) : hasT S (nI i) = true := by
  have h1 : ¬ nI i < 0 := nI_pos (by omega)
  have h2 : ¬ nI n ≤ nI i := by rw [nI_leI (by omega) (by omega)]; omega
  have h3 : ¬ (500 : Int32) ≤ nI i := by rw [show (500 : Int32) = nI 500 from rfl, nI_leI (by omega) (by omega)]; omega
  simp [hasT, hS, h1, h2, h3]
theorem m_IF_seal_s (S : MS) (k : Nat) (hk : k + 1 ≤ 500) (hS : S.1 1 0 1 = nI (k + 1)) : MetE y_IF_seal c_IF_seal 2 ((some .int)) 2 43 [.inr (0, 0)] S (some (.inl (.int (sumTo (S.1 9 0) k &&& 255)))) (wI S 9 0 k (sumTo (S.1 9 0) k &&& 255)) := by
  refine MetS.of (lv0 := [some (.inr (0, 0)), none]) pn_IF rfl (Nat.le_of_ble_eq_true rfl) (fun p0 l0 e0 s0 m0 args below meth c0 G X => ?_)
  have hm : hasT S (nI k) = true := hasT_n hk hS (by omega)
  refine ws_aload_n (i := 0) X d_IF_seal_0 rfl rfl ?_
  refine ws_getR X fl_IF_10 ob0 d_IF_seal_1 ?_
  refine ws_getI X fl_IF_44 ob1 d_IF_seal_4 ?_
  rw [hS]
  refine ws_iconst (v := 1) X d_IF_seal_7 rfl ?_
  refine ws_isub X d_IF_seal_8 ?_
  rw [nI_m1]
  refine ws_istn_1 X rfl d_IF_seal_9 (by decide) ?_
  refine ws_aload_n (i := 0) X d_IF_seal_10 rfl rfl ?_
  refine ws_getR X fl_IF_10 ob0 d_IF_seal_11 ?_
  refine ws_iload_n (i := 1) X d_IF_seal_14 rfl rfl ?_
  refine ws_callV1 X (m_Tape_has _ _) cv_Tape_has ml_IF_52 ob1 rfl rfl (Nat.le_of_ble_eq_true rfl) ⟨Nat.le_of_ble_eq_true rfl, Nat.le_of_ble_eq_true rfl⟩ ⟨Nat.zero_le _, Nat.zero_le _⟩ d_IF_seal_15 ?_
  refine ws_ifB_eq X d_IF_seal_18 (fun h18 => ?_) (fun h18 => ?_)
  · exact absurd (h18.symm.trans hm) (by decide)
  · refine ws_aload_n (i := 0) X d_IF_seal_21 rfl rfl ?_
    refine ws_getR X fl_IF_10 ob0 d_IF_seal_22 ?_
    refine ws_iload_n (i := 1) X d_IF_seal_25 rfl rfl ?_
    refine ws_aload_n (i := 0) X d_IF_seal_26 rfl rfl ?_
    refine ws_getR X fl_IF_10 ob0 d_IF_seal_27 ?_
    refine ws_iload_n (i := 1) X d_IF_seal_30 rfl rfl ?_
    refine ws_callV1 X (m_Tape_sumAhead _ _ (by omega)) cv_Tape_sumAhead ml_IF_64 ob1 rfl rfl (Nat.le_of_ble_eq_true rfl) ⟨Nat.le_of_ble_eq_true rfl, Nat.le_of_ble_eq_true rfl⟩ ⟨Nat.zero_le _, Nat.zero_le _⟩ d_IF_seal_31 ?_
    refine ws_callV1 X (m_Tape_replace _ _ _) cv_Tape_replace ml_IF_60 ob1 rfl rfl (Nat.le_of_ble_eq_true rfl) ⟨Nat.le_of_ble_eq_true rfl, Nat.le_of_ble_eq_true rfl⟩ ⟨Nat.zero_le _, Nat.zero_le _⟩ d_IF_seal_34 ?_
    refine ws_goto X d_IF_seal_37 ?_
    refine ws_iret X d_IF_seal_42 ?_
    exact ⟨rfl, by simp [replT, hm, nI_c (show k < 2 ^ 31 by omega)]⟩

theorem m_IF_fault (S : MS) : MetE y_IF_fault c_IF_fault 1 ((some .int)) 0 0 [.inr (0, 0)] S (some (.inl (.int (S.1 0 0 5)))) (S) := by
  refine MetS.of (lv0 := [some (.inr (0, 0))]) pn_IF rfl (Nat.le_of_ble_eq_true rfl) (fun p0 l0 e0 s0 m0 args below meth c0 G X => ?_)
  refine ws_aload_n (i := 0) X d_IF_fault_0 rfl rfl ?_
  refine ws_getI X fl_IF_77 ob0 d_IF_fault_1 ?_
  refine ws_iret X d_IF_fault_4 ?_
  exact ⟨rfl, rfl⟩

def tableV (i : Int32) : Int32 := if xmTabOk i = true then 1 else -101
theorem m_IF_table (S : MS) (i : Int32) (b : Int64) : MetE y_IF_table c_IF_table 4 ((some .int)) 2 42 [.inr (0, 0), .inl (.int i), .inl (.long b)] S (some (.inl (.int (tableV i)))) (xmTab S i (dCanon b)) := by
  refine MetS.of (lv0 := [some (.inr (0, 0)), some (.inl (.int i)), some (.inl (.long b)), none]) pn_IF rfl (Nat.le_of_ble_eq_true rfl) (fun p0 l0 e0 s0 m0 args below meth c0 G X => ?_)
  refine ws_aload_n (i := 0) X d_IF_table_0 rfl rfl ?_
  refine ws_getR X fl_IF_40 ob0 d_IF_table_1 ?_
  refine ws_iload_n (i := 1) X d_IF_table_4 rfl rfl ?_
  refine ws_lload_n (i := 2) X d_IF_table_5 rfl rfl ?_
  refine ws_callS1 X (m_Dbl_canonical _ _) cs_Dbl_canonical ml_IF_94 rfl rfl (Nat.le_of_ble_eq_true rfl) ⟨Nat.le_of_ble_eq_true rfl, Nat.le_of_ble_eq_true rfl⟩ ⟨Nat.zero_le _, Nat.zero_le _⟩ d_IF_table_6 ?_
  refine ws_callV1 X (m_Mach_setTable _ _ _) cv_Mach_setTable ml_IF_100 ob7 rfl rfl (Nat.le_of_ble_eq_true rfl) ⟨Nat.le_of_ble_eq_true rfl, Nat.le_of_ble_eq_true rfl⟩ ⟨Nat.zero_le _, Nat.zero_le _⟩ d_IF_table_9 ?_
  refine ws_ifB_eq X d_IF_table_12 (fun h12 => ?_) (fun h12 => ?_)
  · refine ws_bipush (v := (-101)) X d_IF_table_19 rfl ?_
    refine ws_iret X d_IF_table_21 ?_
    exact ⟨by simp [tableV, h12], rfl⟩
  · refine ws_iconst (v := 1) X d_IF_table_15 rfl ?_
    refine ws_goto X d_IF_table_16 ?_
    refine ws_iret X d_IF_table_21 ?_
    exact ⟨by simp [tableV, h12], rfl⟩

def methodV (S : MS) (m w : Int32) : Int32 := if okG S m = true then (if w = 0 then S.1 4 m.toNatClampNeg 1 else if w = 1 then S.1 4 m.toNatClampNeg 2 else if w = 2 then S.1 4 m.toNatClampNeg 3 else if w = 3 then S.1 4 m.toNatClampNeg 4 else if w = 4 then S.1 4 m.toNatClampNeg 5 else if w = 5 then S.1 4 m.toNatClampNeg 6 else if w = 6 then S.1 4 m.toNatClampNeg 0 else if w = 7 then S.1 4 m.toNatClampNeg 7 else if w = 8 then bI (asideM S m.toNatClampNeg) else -102) else -101
theorem m_IF_method (S : MS) (m w : Int32) : MetE y_IF_method c_IF_method 4 ((some .int)) 1 21 [.inr (0, 0), .inl (.int m), .inl (.int w)] S (some (.inl (.int (methodV S m w)))) (S) := by
  refine MetS.of (lv0 := [some (.inr (0, 0)), some (.inl (.int m)), some (.inl (.int w)), none]) pn_IF rfl (Nat.le_of_ble_eq_true rfl) (fun p0 l0 e0 s0 m0 args below meth c0 G X => ?_)
  rcases hm : okG S m with _ | _
  · refine ws_aload_n (i := 0) X d_IF_method_0 rfl rfl ?_
    refine ws_getR X fl_IF_19 ob0 d_IF_method_1 ?_
    refine ws_iload_n (i := 1) X d_IF_method_4 rfl rfl ?_
    refine ws_callV1 X (m_Prog_methodAt_n _ _ hm) cv_Prog_methodAt ml_IF_104 ob2 rfl rfl (Nat.le_of_ble_eq_true rfl) ⟨Nat.le_of_ble_eq_true rfl, Nat.le_of_ble_eq_true rfl⟩ ⟨Nat.zero_le _, Nat.zero_le _⟩ d_IF_method_5 ?_
    refine ws_aNstn_3 X rfl d_IF_method_8 (by decide) ?_
    refine ws_aNload_n (i := 3) X d_IF_method_9 rfl rfl ?_
    refine ws_ifnonnull_n X d_IF_method_10 ?_
    refine ws_bipush (v := (-101)) X d_IF_method_13 rfl ?_
    refine ws_iret X d_IF_method_15 ?_
    exact ⟨by simp [methodV, bI, hm], rfl⟩
  · refine ws_aload_n (i := 0) X d_IF_method_0 rfl rfl ?_
    refine ws_getR X fl_IF_19 ob0 d_IF_method_1 ?_
    refine ws_iload_n (i := 1) X d_IF_method_4 rfl rfl ?_
    refine ws_callV1 X (m_Prog_methodAt_y _ _ hm) cv_Prog_methodAt ml_IF_104 ob2 rfl rfl (Nat.le_of_ble_eq_true rfl) ⟨Nat.le_of_ble_eq_true rfl, Nat.le_of_ble_eq_true rfl⟩ ⟨Nat.zero_le _, Nat.zero_le _⟩ d_IF_method_5 ?_
    have hq := okG_lt hm
    refine ws_astn_3 X rfl d_IF_method_8 (by decide) ?_
    refine ws_aload_n (i := 3) X d_IF_method_9 rfl rfl ?_
    refine ws_ifnonnull_r X d_IF_method_10 ?_
    refine ws_iload_n (i := 2) X d_IF_method_16 rfl rfl ?_
    refine ws_tsw X [(0, 68), (1, 73), (2, 78), (3, 83), (4, 88), (5, 93), (6, 98), (7, 103), (8, 108)] d_IF_method_17 (fun j hj => by
        have hj2 : j < 9 := by omega
        match j, hj2 with
        | 0, _ => exact ⟨_, 68, rfl, rfl, by decide⟩
        | 1, _ => exact ⟨_, 73, rfl, rfl, by decide⟩
        | 2, _ => exact ⟨_, 78, rfl, rfl, by decide⟩
        | 3, _ => exact ⟨_, 83, rfl, rfl, by decide⟩
        | 4, _ => exact ⟨_, 88, rfl, rfl, by decide⟩
        | 5, _ => exact ⟨_, 93, rfl, rfl, by decide⟩
        | 6, _ => exact ⟨_, 98, rfl, rfl, by decide⟩
        | 7, _ => exact ⟨_, 103, rfl, rfl, by decide⟩
        | 8, _ => exact ⟨_, 108, rfl, rfl, by decide⟩) (tgt := 121) rfl (And.intro (fun h17 => ?_) (And.intro (fun h17 => ?_) (And.intro (fun h17 => ?_) (And.intro (fun h17 => ?_) (And.intro (fun h17 => ?_) (And.intro (fun h17 => ?_) (And.intro (fun h17 => ?_) (And.intro (fun h17 => ?_) (And.intro (fun h17 => ?_) (trivial)))))))))) (fun h17 => ?_)
    · have h17 : w = 0 := h17
      subst h17
      refine ws_aload_n (i := 3) X d_IF_method_68 rfl rfl ?_
      refine ws_getI X fl_IF_108 (ob4 (by assumption)) d_IF_method_69 ?_
      refine ws_iret X d_IF_method_72 ?_
      exact ⟨by simp [methodV, bI, hm], rfl⟩
    · have h17 : w = 1 := h17
      subst h17
      refine ws_aload_n (i := 3) X d_IF_method_73 rfl rfl ?_
      refine ws_getI X fl_IF_113 (ob4 (by assumption)) d_IF_method_74 ?_
      refine ws_iret X d_IF_method_77 ?_
      exact ⟨by simp [methodV, bI, hm], rfl⟩
    · have h17 : w = 2 := h17
      subst h17
      refine ws_aload_n (i := 3) X d_IF_method_78 rfl rfl ?_
      refine ws_getI X fl_IF_116 (ob4 (by assumption)) d_IF_method_79 ?_
      refine ws_iret X d_IF_method_82 ?_
      exact ⟨by simp [methodV, bI, hm], rfl⟩
    · have h17 : w = 3 := h17
      subst h17
      refine ws_aload_n (i := 3) X d_IF_method_83 rfl rfl ?_
      refine ws_getI X fl_IF_119 (ob4 (by assumption)) d_IF_method_84 ?_
      refine ws_iret X d_IF_method_87 ?_
      exact ⟨by simp [methodV, bI, hm], rfl⟩
    · have h17 : w = 4 := h17
      subst h17
      refine ws_aload_n (i := 3) X d_IF_method_88 rfl rfl ?_
      refine ws_getI X fl_IF_122 (ob4 (by assumption)) d_IF_method_89 ?_
      refine ws_iret X d_IF_method_92 ?_
      exact ⟨by simp [methodV, bI, hm], rfl⟩
    · have h17 : w = 5 := h17
      subst h17
      refine ws_aload_n (i := 3) X d_IF_method_93 rfl rfl ?_
      refine ws_getI X fl_IF_123 (ob4 (by assumption)) d_IF_method_94 ?_
      refine ws_iret X d_IF_method_97 ?_
      exact ⟨by simp [methodV, bI, hm], rfl⟩
    · have h17 : w = 6 := h17
      subst h17
      refine ws_aload_n (i := 3) X d_IF_method_98 rfl rfl ?_
      refine ws_getI X fl_IF_126 (ob4 (by assumption)) d_IF_method_99 ?_
      refine ws_iret X d_IF_method_102 ?_
      exact ⟨by simp [methodV, bI, hm], rfl⟩
    · have h17 : w = 7 := h17
      subst h17
      refine ws_aload_n (i := 3) X d_IF_method_103 rfl rfl ?_
      refine ws_getI X fl_IF_129 (ob4 (by assumption)) d_IF_method_104 ?_
      refine ws_iret X d_IF_method_107 ?_
      exact ⟨by simp [methodV, bI, hm], rfl⟩
    · have h17 : w = 8 := h17
      subst h17
      refine ws_aload_n (i := 3) X d_IF_method_108 rfl rfl ?_
      refine ws_callV1 X (m_Meth_isAside _ _ (by assumption)) cv_Meth_isAside ml_IF_132 (ob4 (by assumption)) rfl rfl (Nat.le_of_ble_eq_true rfl) ⟨Nat.le_of_ble_eq_true rfl, Nat.le_of_ble_eq_true rfl⟩ ⟨Nat.zero_le _, Nat.zero_le _⟩ d_IF_method_109 ?_
      refine ws_ifB_eq X d_IF_method_112 (fun h112 => ?_) (fun h112 => ?_)
      · refine ws_iconst (v := 0) X d_IF_method_119 rfl ?_
        refine ws_iret X d_IF_method_120 ?_
        exact ⟨by simp [methodV, bI, hm, h112], rfl⟩
      · refine ws_iconst (v := 1) X d_IF_method_115 rfl ?_
        refine ws_goto X d_IF_method_116 ?_
        refine ws_iret X d_IF_method_120 ?_
        exact ⟨by simp [methodV, bI, hm, h112], rfl⟩
    · have g17_0 : ¬ w = 0 := fun z => by rw [z] at h17; exact absurd h17 (by decide)
      have g17_1 : ¬ w = 1 := fun z => by rw [z] at h17; exact absurd h17 (by decide)
      have g17_2 : ¬ w = 2 := fun z => by rw [z] at h17; exact absurd h17 (by decide)
      have g17_3 : ¬ w = 3 := fun z => by rw [z] at h17; exact absurd h17 (by decide)
      have g17_4 : ¬ w = 4 := fun z => by rw [z] at h17; exact absurd h17 (by decide)
      have g17_5 : ¬ w = 5 := fun z => by rw [z] at h17; exact absurd h17 (by decide)
      have g17_6 : ¬ w = 6 := fun z => by rw [z] at h17; exact absurd h17 (by decide)
      have g17_7 : ¬ w = 7 := fun z => by rw [z] at h17; exact absurd h17 (by decide)
      have g17_8 : ¬ w = 8 := fun z => by rw [z] at h17; exact absurd h17 (by decide)
      refine ws_bipush (v := (-102)) X d_IF_method_121 rfl ?_
      refine ws_iret X d_IF_method_123 ?_
      exact ⟨by simp [methodV, bI, hm, eq_false g17_0, eq_false g17_1, eq_false g17_2, eq_false g17_3, eq_false g17_4, eq_false g17_5, eq_false g17_6, eq_false g17_7, eq_false g17_8], rfl⟩

def poolV (S : MS) (e w : Int32) : Int64 := if hasP S e = true then (if w = 0 then (tagOfP S e).toInt64 else if w = 1 then (if tagP S e 3 = true then (sizeOfP S e).toInt64 else valueOfP S e) else -102) else -101
theorem m_IF_pool (S : MS) (e w : Int32) : MetE y_IF_pool c_IF_pool 4 ((some .long)) 2 43 [.inr (0, 0), .inl (.int e), .inl (.int w)] S (some (.inl (.long (poolV S e w)))) (S) := by
  refine MetS.of (lv0 := [some (.inr (0, 0)), some (.inl (.int e)), some (.inl (.int w)), none]) pn_IF rfl (Nat.le_of_ble_eq_true rfl) (fun p0 l0 e0 s0 m0 args below meth c0 G X => ?_)
  refine ws_aload_n (i := 0) X d_IF_pool_0 rfl rfl ?_
  refine ws_getR X fl_IF_19 ob0 d_IF_pool_1 ?_
  refine ws_getR X fl_IF_136 ob2 d_IF_pool_4 ?_
  refine ws_astn_3 X rfl d_IF_pool_7 (by decide) ?_
  refine ws_aload_n (i := 3) X d_IF_pool_8 rfl rfl ?_
  refine ws_iload_n (i := 1) X d_IF_pool_9 rfl rfl ?_
  refine ws_callV1 X (m_Pool_has _ _) cv_Pool_has ml_IF_140 ob3 rfl rfl (Nat.le_of_ble_eq_true rfl) ⟨Nat.le_of_ble_eq_true rfl, Nat.le_of_ble_eq_true rfl⟩ ⟨Nat.zero_le _, Nat.zero_le _⟩ d_IF_pool_10 ?_
  refine ws_ifB_ne X d_IF_pool_13 (fun h13 => ?_) (fun h13 => ?_)
  · refine ws_iload_n (i := 2) X d_IF_pool_20 rfl rfl ?_
    refine ws_lsw X [(0, 48), (1, 55)] d_IF_pool_21 (by decide) (fun v off hm => by
        have hm : (v, off) ∈ [((0 : Int), (27 : Int)), ((1 : Int), (34 : Int))] := hm
        simp only [List.mem_cons, Prod.mk.injEq, List.not_mem_nil, or_false] at hm
        rcases hm with ⟨rfl, rfl⟩ | ⟨rfl, rfl⟩
        · exact ⟨48, by decide, by decide⟩
        · exact ⟨55, by decide, by decide⟩) (tgt := 79) rfl (And.intro (fun h21 => ?_) (And.intro (fun h21 => ?_) (trivial))) (fun h21 => ?_)
    · have h21 : w = 0 := h21
      subst h21
      refine ws_aload_n (i := 3) X d_IF_pool_48 rfl rfl ?_
      refine ws_iload_n (i := 1) X d_IF_pool_49 rfl rfl ?_
      refine ws_callV1 X (m_Pool_tagOf _ _) cv_Pool_tagOf ml_IF_145 ob3 rfl rfl (Nat.le_of_ble_eq_true rfl) ⟨Nat.le_of_ble_eq_true rfl, Nat.le_of_ble_eq_true rfl⟩ ⟨Nat.zero_le _, Nat.zero_le _⟩ d_IF_pool_50 ?_
      refine ws_i2l X d_IF_pool_53 ?_
      refine ws_lret X d_IF_pool_54 ?_
      exact ⟨by simp [poolV, h13], rfl⟩
    · have h21 : w = 1 := h21
      subst h21
      refine ws_aload_n (i := 3) X d_IF_pool_55 rfl rfl ?_
      refine ws_iload_n (i := 1) X d_IF_pool_56 rfl rfl ?_
      refine ws_iconst (v := 3) X d_IF_pool_57 rfl ?_
      refine ws_callV1 X (m_Pool_isTagged _ _ _) cv_Pool_isTagged ml_IF_148 ob3 rfl rfl (Nat.le_of_ble_eq_true rfl) ⟨Nat.le_of_ble_eq_true rfl, Nat.le_of_ble_eq_true rfl⟩ ⟨Nat.zero_le _, Nat.zero_le _⟩ d_IF_pool_58 ?_
      refine ws_ifB_eq X d_IF_pool_61 (fun h61 => ?_) (fun h61 => ?_)
      · refine ws_aload_n (i := 3) X d_IF_pool_73 rfl rfl ?_
        refine ws_iload_n (i := 1) X d_IF_pool_74 rfl rfl ?_
        refine ws_callV1 X (m_Pool_valueOf _ _) cv_Pool_valueOf ml_IF_155 ob3 rfl rfl (Nat.le_of_ble_eq_true rfl) ⟨Nat.le_of_ble_eq_true rfl, Nat.le_of_ble_eq_true rfl⟩ ⟨Nat.zero_le _, Nat.zero_le _⟩ d_IF_pool_75 ?_
        refine ws_lret X d_IF_pool_78 ?_
        exact ⟨by simp [poolV, h13, h61], rfl⟩
      · refine ws_aload_n (i := 3) X d_IF_pool_64 rfl rfl ?_
        refine ws_iload_n (i := 1) X d_IF_pool_65 rfl rfl ?_
        refine ws_callV1 X (m_Pool_sizeOf _ _) cv_Pool_sizeOf ml_IF_152 ob3 rfl rfl (Nat.le_of_ble_eq_true rfl) ⟨Nat.le_of_ble_eq_true rfl, Nat.le_of_ble_eq_true rfl⟩ ⟨Nat.zero_le _, Nat.zero_le _⟩ d_IF_pool_66 ?_
        refine ws_i2l X d_IF_pool_69 ?_
        refine ws_goto X d_IF_pool_70 ?_
        refine ws_lret X d_IF_pool_78 ?_
        exact ⟨by simp [poolV, h13, h61], rfl⟩
    · have g21_0 : ¬ w = 0 := fun z => h21 0 27 (by decide) (by rw [z]; rfl)
      have g21_1 : ¬ w = 1 := fun z => h21 1 34 (by decide) (by rw [z]; rfl)
      refine ws_ldc2 X d_IF_pool_79 ct_IF_159 ?_
      refine ws_lret X d_IF_pool_82 ?_
      exact ⟨by simp [poolV, h13, eq_false g21_0, eq_false g21_1], rfl⟩
  · refine ws_ldc2 X d_IF_pool_16 ct_IF_143 ?_
    refine ws_lret X d_IF_pool_19 ?_
    exact ⟨by simp [poolV, h13], rfl⟩

def kindV (S : MS) (m p k : Int32) : Int32 := if okG S m = true then (if kindsAtM S m.toNatClampNeg p = -1 then -101 else if 6 ≤ k then -102 else if -1 - k < S.1 4 m.toNatClampNeg 3 then (if k < 0 then kLocal (kindsAtM S m.toNatClampNeg p) (-1 - k) else kItem (kindsAtM S m.toNatClampNeg p) k) else -102) else -101
theorem m_IF_kind (S : MS) (m p k : Int32) : MetE y_IF_kind c_IF_kind 6 ((some .int)) 1 21 [.inr (0, 0), .inl (.int m), .inl (.int p), .inl (.int k)] S (some (.inl (.int (kindV S m p k)))) (S) := by
  refine MetS.of (lv0 := [some (.inr (0, 0)), some (.inl (.int m)), some (.inl (.int p)), some (.inl (.int k)), none, none]) pn_IF rfl (Nat.le_of_ble_eq_true rfl) (fun p0 l0 e0 s0 m0 args below meth c0 G X => ?_)
  rcases hm : okG S m with _ | _
  · refine ws_aload_n (i := 0) X d_IF_kind_0 rfl rfl ?_
    refine ws_getR X fl_IF_19 ob0 d_IF_kind_1 ?_
    refine ws_iload_n (i := 1) X d_IF_kind_4 rfl rfl ?_
    refine ws_callV1 X (m_Prog_methodAt_n _ _ hm) cv_Prog_methodAt ml_IF_104 ob2 rfl rfl (Nat.le_of_ble_eq_true rfl) ⟨Nat.le_of_ble_eq_true rfl, Nat.le_of_ble_eq_true rfl⟩ ⟨Nat.zero_le _, Nat.zero_le _⟩ d_IF_kind_5 ?_
    refine ws_aNst_4 X rfl d_IF_kind_8 (by decide) ?_
    refine ws_aNload (i := 4) X d_IF_kind_10 rfl ?_
    refine ws_ifnull_n X d_IF_kind_12 ?_
    refine ws_bipush (v := (-101)) X d_IF_kind_25 rfl ?_
    refine ws_iret X d_IF_kind_27 ?_
    exact ⟨by simp [kindV, hm], rfl⟩
  · refine ws_aload_n (i := 0) X d_IF_kind_0 rfl rfl ?_
    refine ws_getR X fl_IF_19 ob0 d_IF_kind_1 ?_
    refine ws_iload_n (i := 1) X d_IF_kind_4 rfl rfl ?_
    refine ws_callV1 X (m_Prog_methodAt_y _ _ hm) cv_Prog_methodAt ml_IF_104 ob2 rfl rfl (Nat.le_of_ble_eq_true rfl) ⟨Nat.le_of_ble_eq_true rfl, Nat.le_of_ble_eq_true rfl⟩ ⟨Nat.zero_le _, Nat.zero_le _⟩ d_IF_kind_5 ?_
    have hq := okG_lt hm
    refine ws_ast_4 X rfl d_IF_kind_8 (by decide) ?_
    refine ws_aload (i := 4) X d_IF_kind_10 rfl ?_
    refine ws_ifnull_r X d_IF_kind_12 ?_
    refine ws_aload (i := 4) X d_IF_kind_15 rfl ?_
    refine ws_iload_n (i := 2) X d_IF_kind_17 rfl rfl ?_
    refine ws_callV1 X (m_Meth_kindsAt _ _ (by assumption) _) cv_Meth_kindsAt ml_IF_161 (ob4 (by assumption)) rfl rfl (Nat.le_of_ble_eq_true rfl) ⟨Nat.le_of_ble_eq_true rfl, Nat.le_of_ble_eq_true rfl⟩ ⟨Nat.zero_le _, Nat.zero_le _⟩ d_IF_kind_18 ?_
    refine ws_iconst (v := (-1)) X d_IF_kind_21 rfl ?_
    refine ws_icmp_ne X d_IF_kind_22 (fun h22 => ?_) (fun h22 => ?_)
    · refine ws_iload_n (i := 3) X d_IF_kind_28 rfl rfl ?_
      refine ws_bipush (v := 6) X d_IF_kind_29 rfl ?_
      refine ws_icmp_ge X d_IF_kind_31 (fun h31 => ?_) (fun h31 => ?_)
      · refine ws_bipush (v := (-102)) X d_IF_kind_45 rfl ?_
        refine ws_iret X d_IF_kind_47 ?_
        exact ⟨by simp [kindV, hm, eq_false h22, eq_true h31], rfl⟩
      · refine ws_iconst (v := (-1)) X d_IF_kind_34 rfl ?_
        refine ws_iload_n (i := 3) X d_IF_kind_35 rfl rfl ?_
        refine ws_isub X d_IF_kind_36 ?_
        refine ws_aload (i := 4) X d_IF_kind_37 rfl ?_
        refine ws_getI X fl_IF_116 (ob4 (by assumption)) d_IF_kind_39 ?_
        refine ws_icmp_lt X d_IF_kind_42 (fun h42 => ?_) (fun h42 => ?_)
        · refine ws_aload (i := 4) X d_IF_kind_48 rfl ?_
          refine ws_iload_n (i := 2) X d_IF_kind_50 rfl rfl ?_
          refine ws_callV1 X (m_Meth_kindsAt _ _ (by assumption) _) cv_Meth_kindsAt ml_IF_161 (ob4 (by assumption)) rfl rfl (Nat.le_of_ble_eq_true rfl) ⟨Nat.le_of_ble_eq_true rfl, Nat.le_of_ble_eq_true rfl⟩ ⟨Nat.zero_le _, Nat.zero_le _⟩ d_IF_kind_51 ?_
          refine ws_ist_5 X rfl d_IF_kind_54 (by decide) ?_
          refine ws_iload_n (i := 3) X d_IF_kind_56 rfl rfl ?_
          refine ws_if_lt X d_IF_kind_57 (fun h57 => ?_) (fun h57 => ?_)
          · refine ws_iload (i := 5) X d_IF_kind_69 rfl ?_
            refine ws_iconst (v := (-1)) X d_IF_kind_71 rfl ?_
            refine ws_iload_n (i := 3) X d_IF_kind_72 rfl rfl ?_
            refine ws_isub X d_IF_kind_73 ?_
            refine ws_callS1 X (m_Kinds_local _ _ _) cs_Kinds_local ml_IF_169 rfl rfl (Nat.le_of_ble_eq_true rfl) ⟨Nat.le_of_ble_eq_true rfl, Nat.le_of_ble_eq_true rfl⟩ ⟨Nat.zero_le _, Nat.zero_le _⟩ d_IF_kind_74 ?_
            refine ws_iret X d_IF_kind_77 ?_
            exact ⟨by simp [kindV, hm, eq_false h22, eq_false h31, eq_true h42, eq_true h57], rfl⟩
          · refine ws_iload (i := 5) X d_IF_kind_60 rfl ?_
            refine ws_iload_n (i := 3) X d_IF_kind_62 rfl rfl ?_
            refine ws_callS1 X (m_Kinds_item _ _ _) cs_Kinds_item ml_IF_164 rfl rfl (Nat.le_of_ble_eq_true rfl) ⟨Nat.le_of_ble_eq_true rfl, Nat.le_of_ble_eq_true rfl⟩ ⟨Nat.zero_le _, Nat.zero_le _⟩ d_IF_kind_63 ?_
            refine ws_goto X d_IF_kind_66 ?_
            refine ws_iret X d_IF_kind_77 ?_
            exact ⟨by simp [kindV, hm, eq_false h22, eq_false h31, eq_true h42, eq_false h57], rfl⟩
        · refine ws_bipush (v := (-102)) X d_IF_kind_45 rfl ?_
          refine ws_iret X d_IF_kind_47 ?_
          exact ⟨by simp [kindV, hm, eq_false h22, eq_false h31, eq_false h42], rfl⟩
    · refine ws_bipush (v := (-101)) X d_IF_kind_25 rfl ?_
      refine ws_iret X d_IF_kind_27 ?_
      exact ⟨by simp [kindV, hm, eq_true h22], rfl⟩

theorem m_IF_result (S : MS) : MetE y_IF_result c_IF_result 1 ((some .long)) 0 0 [.inr (0, 0)] S (some (.inl (.long (S.2.1 7 0 14)))) (S) := by
  refine MetS.of (lv0 := [some (.inr (0, 0))]) pn_IF rfl (Nat.le_of_ble_eq_true rfl) (fun p0 l0 e0 s0 m0 args below meth c0 G X => ?_)
  refine ws_aload_n (i := 0) X d_IF_result_0 rfl rfl ?_
  refine ws_getR X fl_IF_40 ob0 d_IF_result_1 ?_
  refine ws_getL X fl_IF_186 ob7 d_IF_result_4 ?_
  refine ws_lret X d_IF_result_7 ?_
  exact ⟨rfl, rfl⟩

def toldV (S : MS) (w : Int32) : Int32 := if w = 0 then S.1 7 0 9 else if w = 1 then S.1 7 0 10 else if w = 2 then S.1 7 0 11 else if w = 3 then S.1 7 0 12 else if w = 4 then S.1 7 0 13 else -102
theorem m_IF_told (S : MS) (w : Int32) : MetE y_IF_told c_IF_told 2 ((some .int)) 0 0 [.inr (0, 0), .inl (.int w)] S (some (.inl (.int (toldV S w)))) (S) := by
  refine MetS.of (lv0 := [some (.inr (0, 0)), some (.inl (.int w))]) pn_IF rfl (Nat.le_of_ble_eq_true rfl) (fun p0 l0 e0 s0 m0 args below meth c0 G X => ?_)
  refine ws_iload_n (i := 1) X d_IF_told_0 rfl rfl ?_
  refine ws_tsw X [(0, 36), (1, 44), (2, 52), (3, 60), (4, 68)] d_IF_told_1 (fun j hj => by
      have hj2 : j < 5 := by omega
      match j, hj2 with
      | 0, _ => exact ⟨_, 36, rfl, rfl, by decide⟩
      | 1, _ => exact ⟨_, 44, rfl, rfl, by decide⟩
      | 2, _ => exact ⟨_, 52, rfl, rfl, by decide⟩
      | 3, _ => exact ⟨_, 60, rfl, rfl, by decide⟩
      | 4, _ => exact ⟨_, 68, rfl, rfl, by decide⟩) (tgt := 76) rfl (And.intro (fun h1 => ?_) (And.intro (fun h1 => ?_) (And.intro (fun h1 => ?_) (And.intro (fun h1 => ?_) (And.intro (fun h1 => ?_) (trivial)))))) (fun h1 => ?_)
  · have h1 : w = 0 := h1
    subst h1
    refine ws_aload_n (i := 0) X d_IF_told_36 rfl rfl ?_
    refine ws_getR X fl_IF_40 ob0 d_IF_told_37 ?_
    refine ws_getI X fl_IF_183 ob7 d_IF_told_40 ?_
    refine ws_iret X d_IF_told_43 ?_
    exact ⟨by simp [toldV, if_true], rfl⟩
  · have h1 : w = 1 := h1
    subst h1
    refine ws_aload_n (i := 0) X d_IF_told_44 rfl rfl ?_
    refine ws_getR X fl_IF_40 ob0 d_IF_told_45 ?_
    refine ws_getI X fl_IF_190 ob7 d_IF_told_48 ?_
    refine ws_iret X d_IF_told_51 ?_
    exact ⟨by simp [toldV, if_true], rfl⟩
  · have h1 : w = 2 := h1
    subst h1
    refine ws_aload_n (i := 0) X d_IF_told_52 rfl rfl ?_
    refine ws_getR X fl_IF_40 ob0 d_IF_told_53 ?_
    refine ws_getI X fl_IF_193 ob7 d_IF_told_56 ?_
    refine ws_iret X d_IF_told_59 ?_
    exact ⟨by simp [toldV, if_true], rfl⟩
  · have h1 : w = 3 := h1
    subst h1
    refine ws_aload_n (i := 0) X d_IF_told_60 rfl rfl ?_
    refine ws_getR X fl_IF_40 ob0 d_IF_told_61 ?_
    refine ws_getI X fl_IF_196 ob7 d_IF_told_64 ?_
    refine ws_iret X d_IF_told_67 ?_
    exact ⟨by simp [toldV, if_true], rfl⟩
  · have h1 : w = 4 := h1
    subst h1
    refine ws_aload_n (i := 0) X d_IF_told_68 rfl rfl ?_
    refine ws_getR X fl_IF_40 ob0 d_IF_told_69 ?_
    refine ws_getI X fl_IF_199 ob7 d_IF_told_72 ?_
    refine ws_iret X d_IF_told_75 ?_
    exact ⟨by simp [toldV, if_true], rfl⟩
  · have g1_0 : ¬ w = 0 := fun z => by rw [z] at h1; exact absurd h1 (by decide)
    have g1_1 : ¬ w = 1 := fun z => by rw [z] at h1; exact absurd h1 (by decide)
    have g1_2 : ¬ w = 2 := fun z => by rw [z] at h1; exact absurd h1 (by decide)
    have g1_3 : ¬ w = 3 := fun z => by rw [z] at h1; exact absurd h1 (by decide)
    have g1_4 : ¬ w = 4 := fun z => by rw [z] at h1; exact absurd h1 (by decide)
    refine ws_bipush (v := (-102)) X d_IF_told_76 rfl ?_
    refine ws_iret X d_IF_told_78 ?_
    exact ⟨by simp [toldV, eq_false g1_0, eq_false g1_1, eq_false g1_2, eq_false g1_3, eq_false g1_4], rfl⟩

def countV (S : MS) (w : Int32) : Int32 := if w = 0 then S.1 1 0 1 else if w = 1 then S.1 2 0 3 else if w = 2 then S.1 3 0 3 else if w = 3 then S.1 2 0 2 else if w = 4 then S.1 0 0 6 else -102
theorem m_IF_count (S : MS) (w : Int32) : MetE y_IF_count c_IF_count 2 ((some .int)) 0 0 [.inr (0, 0), .inl (.int w)] S (some (.inl (.int (countV S w)))) (S) := by
  refine MetS.of (lv0 := [some (.inr (0, 0)), some (.inl (.int w))]) pn_IF rfl (Nat.le_of_ble_eq_true rfl) (fun p0 l0 e0 s0 m0 args below meth c0 G X => ?_)
  refine ws_iload_n (i := 1) X d_IF_count_0 rfl rfl ?_
  refine ws_tsw X [(0, 36), (1, 44), (2, 52), (3, 63), (4, 71)] d_IF_count_1 (fun j hj => by
      have hj2 : j < 5 := by omega
      match j, hj2 with
      | 0, _ => exact ⟨_, 36, rfl, rfl, by decide⟩
      | 1, _ => exact ⟨_, 44, rfl, rfl, by decide⟩
      | 2, _ => exact ⟨_, 52, rfl, rfl, by decide⟩
      | 3, _ => exact ⟨_, 63, rfl, rfl, by decide⟩
      | 4, _ => exact ⟨_, 71, rfl, rfl, by decide⟩) (tgt := 76) rfl (And.intro (fun h1 => ?_) (And.intro (fun h1 => ?_) (And.intro (fun h1 => ?_) (And.intro (fun h1 => ?_) (And.intro (fun h1 => ?_) (trivial)))))) (fun h1 => ?_)
  · have h1 : w = 0 := h1
    subst h1
    refine ws_aload_n (i := 0) X d_IF_count_36 rfl rfl ?_
    refine ws_getR X fl_IF_10 ob0 d_IF_count_37 ?_
    refine ws_getI X fl_IF_44 ob1 d_IF_count_40 ?_
    refine ws_iret X d_IF_count_43 ?_
    exact ⟨by simp [countV, if_true], rfl⟩
  · have h1 : w = 1 := h1
    subst h1
    refine ws_aload_n (i := 0) X d_IF_count_44 rfl rfl ?_
    refine ws_getR X fl_IF_19 ob0 d_IF_count_45 ?_
    refine ws_getI X fl_IF_80 ob2 d_IF_count_48 ?_
    refine ws_iret X d_IF_count_51 ?_
    exact ⟨by simp [countV, if_true], rfl⟩
  · have h1 : w = 2 := h1
    subst h1
    refine ws_aload_n (i := 0) X d_IF_count_52 rfl rfl ?_
    refine ws_getR X fl_IF_19 ob0 d_IF_count_53 ?_
    refine ws_getR X fl_IF_136 ob2 d_IF_count_56 ?_
    refine ws_getI X fl_IF_202 ob3 d_IF_count_59 ?_
    refine ws_iret X d_IF_count_62 ?_
    exact ⟨by simp [countV, if_true], rfl⟩
  · have h1 : w = 3 := h1
    subst h1
    refine ws_aload_n (i := 0) X d_IF_count_63 rfl rfl ?_
    refine ws_getR X fl_IF_19 ob0 d_IF_count_64 ?_
    refine ws_getI X fl_IF_205 ob2 d_IF_count_67 ?_
    refine ws_iret X d_IF_count_70 ?_
    exact ⟨by simp [countV, if_true], rfl⟩
  · have h1 : w = 4 := h1
    subst h1
    refine ws_aload_n (i := 0) X d_IF_count_71 rfl rfl ?_
    refine ws_getI X fl_IF_67 ob0 d_IF_count_72 ?_
    refine ws_iret X d_IF_count_75 ?_
    exact ⟨by simp [countV, if_true], rfl⟩
  · have g1_0 : ¬ w = 0 := fun z => by rw [z] at h1; exact absurd h1 (by decide)
    have g1_1 : ¬ w = 1 := fun z => by rw [z] at h1; exact absurd h1 (by decide)
    have g1_2 : ¬ w = 2 := fun z => by rw [z] at h1; exact absurd h1 (by decide)
    have g1_3 : ¬ w = 3 := fun z => by rw [z] at h1; exact absurd h1 (by decide)
    have g1_4 : ¬ w = 4 := fun z => by rw [z] at h1; exact absurd h1 (by decide)
    refine ws_bipush (v := (-102)) X d_IF_count_76 rfl ?_
    refine ws_iret X d_IF_count_78 ?_
    exact ⟨by simp [countV, eq_false g1_0, eq_false g1_1, eq_false g1_2, eq_false g1_3, eq_false g1_4], rfl⟩


