/-! the model: object 8; size slot 1, fault 28, faultAt 29, pos 31; tape 24 -/
def mIn (v lo up : Int32) : Bool := decide (¬ v < lo) && decide (¬ up < v)
theorem m_M_in (S : MS) (v lo up : Int32) : MetE y_M_in c_M_in 3 ((some .boolean)) 0 0 [.inl (.int v), .inl (.int lo), .inl (.int up)] S (some (.inl (.int (bI (mIn v lo up))))) (S) := by
  refine MetS.of (lv0 := [some (.inl (.int v)), some (.inl (.int lo)), some (.inl (.int up))]) pn_M rfl (Nat.le_of_ble_eq_true rfl) (fun p0 l0 e0 s0 m0 args below meth c0 G X => ?_)
  refine ws_iload_n (i := 0) X d_M_in_0 rfl rfl ?_
  refine ws_iload_n (i := 1) X d_M_in_1 rfl rfl ?_
  refine ws_icmp_lt X d_M_in_2 (fun h2 => ?_) (fun h2 => ?_)
  · refine ws_iconst (v := 0) X d_M_in_14 rfl ?_
    refine ws_zret X (rfl) d_M_in_15 ?_
    exact ⟨by simp [mIn, bI, eq_true h2], rfl⟩
  · refine ws_iload_n (i := 0) X d_M_in_5 rfl rfl ?_
    refine ws_iload_n (i := 2) X d_M_in_6 rfl rfl ?_
    refine ws_icmp_gt X d_M_in_7 (fun h7 => ?_) (fun h7 => ?_)
    · refine ws_iconst (v := 0) X d_M_in_14 rfl ?_
      refine ws_zret X (rfl) d_M_in_15 ?_
      exact ⟨by simp [mIn, bI, eq_false h2, eq_true h7], rfl⟩
    · refine ws_iconst (v := 1) X d_M_in_10 rfl ?_
      refine ws_goto X d_M_in_11 ?_
      refine ws_zret X (rfl) d_M_in_15 ?_
      exact ⟨by simp [mIn, bI, eq_false h2, eq_false h7], rfl⟩

theorem mIn_in {v up : Int32} {n : Nat} (h : mIn v 0 up = true) (hu : up.toInt < n) (hn : n < 2 ^ 31) : vp_in v n := by
  simp only [mIn, Bool.and_eq_true, decide_eq_true_eq] at h
  rw [vp_in_iff]
  have h1 := Int32.le_iff_toInt_le.mp (Int32.not_lt.mp h.1)
  have h2 := Int32.le_iff_toInt_le.mp (Int32.not_lt.mp h.2)
  have e0 : (0 : Int32).toInt = 0 := rfl
  rw [e0] at h1
  omega
section L30
variable {p : Program} {l : Launch} {e0 : Env} {s : State} {m0 : MethodId} {args : Array Value} {below : List Frame} {meth : Method} {c0 : Code} {G : GG} {A : Nat → Prop} {Q : State → Prop}
theorem l_msum (X : CX p s m0 args meth c0 G A c_M_sumAhead y_M_sumAhead.cls 4 ((some .int))) {S : MS} {k : Nat} (hk : k ≤ 500) : ∀ (n i : Nat), i + n = k → (∀ j : Int32, WS p l e0 (rmS 0 0) s m0 args below meth c0 G A 4 0 0 Q 24 [some (.inr (8, 0)), some (.inl (.int (nI k))), some (.inl (.int (sumTo (S.1 24 0) k))), some (.inl (.int j))] [] (S)) → WS p l e0 (rmS 0 0) s m0 args below meth c0 G A 4 0 0 Q 4 [some (.inr (8, 0)), some (.inl (.int (nI k))), some (.inl (.int (sumTo (S.1 24 0) i))), some (.inl (.int (nI i)))] [] (S) := by
  intro n
  induction n with
  | zero =>
    intro i hi K
    have hh : nI k ≤ nI i := by rw [nI_leI (by omega) (by omega)]; omega
    have e : i = k := by omega
    subst e
    refine ws_iload_n (i := 3) X d_M_sumAhead_4 rfl rfl ?_
    refine ws_iload_n (i := 1) X d_M_sumAhead_5 rfl rfl ?_
    refine ws_icmp_ge X d_M_sumAhead_6 (fun h6 => ?_) (fun h6 => ?_)
    · exact K _
    · exact absurd hh h6
  | succ n ih =>
    intro i hi K
    have e := nI_c (i := i) (by omega)
    have hh : ¬ nI k ≤ nI i := by rw [nI_leI (by omega) (by omega)]; omega
    have hin : vp_in (nI i) 500 := vp_in_nI (by omega) (by omega)
    refine ws_iload_n (i := 3) X d_M_sumAhead_4 rfl rfl ?_
    refine ws_iload_n (i := 1) X d_M_sumAhead_5 rfl rfl ?_
    refine ws_icmp_ge X d_M_sumAhead_6 (fun h6 => ?_) (fun h6 => ?_)
    · exact absurd h6 hh
    · refine ws_iload_n (i := 2) X d_M_sumAhead_9 rfl rfl ?_
      refine ws_aload_n (i := 0) X d_M_sumAhead_10 rfl rfl ?_
      refine ws_getR X fl_M_7 ob8 d_M_sumAhead_11 ?_
      refine ws_iload_n (i := 3) X d_M_sumAhead_14 rfl rfl ?_
      refine ws_iald X ak24 ob24 (by assumption) d_M_sumAhead_15 ?_
      refine ws_iadd X d_M_sumAhead_16 ?_
      refine ws_istn_2 X rfl d_M_sumAhead_17 (by decide) ?_
      refine ws_iinc_3 X rfl d_M_sumAhead_18 rfl (by decide) ?_
      refine ws_goto X d_M_sumAhead_21 ?_
      rw [e, nI_inc]; exact ih (i + 1) (by omega) K
def mFeedGo (w : Int64) : Nat → MS → MS
  | 0, S => S
  | n + 1, S => mFeedGo w n (wI (wI S 24 0 (S.1 8 0 1).toNatClampNeg ((shr64 w (8 * nI n)).toInt32 &&& 255)) 8 0 1 (S.1 8 0 1 + 1))
theorem l_mfeed (X : CX p s m0 args meth c0 G A c_M_feed y_M_feed.cls 5 ((some .int))) {w : Int64} {x3 : Int32} : ∀ (n s1 : Nat) (S : MS), n ≤ 8 → S.1 8 0 1 = nI s1 → s1 + n ≤ 500 → (∀ j : Int32, WS p l e0 (rmS 1 22) s m0 args below meth c0 G A 5 0 0 Q 75 [some (.inr (8, 0)), some (.inl (.long w)), none, some (.inl (.int x3)), some (.inl (.int j))] [] (mFeedGo w n S)) → WS p l e0 (rmS 1 22) s m0 args below meth c0 G A 5 0 0 Q 33 [some (.inr (8, 0)), some (.inl (.long w)), none, some (.inl (.int x3)), some (.inl (.int (nI n - 1)))] [] (S) := by
  intro n
  induction n with
  | zero =>
    intro s1 S hn hs h5 K
    refine ws_iload (i := 4) X d_M_feed_33 rfl ?_
    refine ws_if_lt X d_M_feed_35 (fun h35 => ?_) (fun h35 => ?_)
    · exact K _
    · exact absurd (by decide) h35
  | succ n ih =>
    intro s1 S hn hs h5 K
    have hh : ¬ nI (n + 1) - 1 < 0 := by rw [nI_m1]; exact nI_pos (by omega)
    have hin : vp_in (S.1 8 0 1) 500 := by rw [hs]; exact vp_in_nI (by omega) (by omega)
    have e1 : (wI S 24 0 (S.1 8 0 1).toNatClampNeg ((shr64 w (8 * nI n)).toInt32 &&& 255)).1 8 0 1 = S.1 8 0 1 := wI_o _ _ _ _ _ _ _ _ (fun z => absurd z.1 (by decide))
    rw [mFeedGo] at K
    refine ws_iload (i := 4) X d_M_feed_33 rfl ?_
    refine ws_if_lt X d_M_feed_35 (fun h35 => ?_) (fun h35 => ?_)
    · exact absurd h35 hh
    · refine ws_aload_n (i := 0) X d_M_feed_38 rfl rfl ?_
      refine ws_getR X fl_M_7 ob8 d_M_feed_39 ?_
      refine ws_aload_n (i := 0) X d_M_feed_42 rfl rfl ?_
      refine ws_getI X fl_M_110 ob8 d_M_feed_43 ?_
      refine ws_lload_n (i := 1) X d_M_feed_46 rfl rfl ?_
      refine ws_bipush (v := 8) X d_M_feed_47 rfl ?_
      refine ws_iload (i := 4) X d_M_feed_49 rfl ?_
      rw [nI_m1]
      refine ws_imul X d_M_feed_51 ?_
      refine ws_lshr X d_M_feed_52 ?_
      refine ws_l2i X d_M_feed_53 ?_
      refine ws_sipush (v := 255) X d_M_feed_54 rfl ?_
      refine ws_iand X d_M_feed_57 ?_
      refine ws_iast X ak24 ob24 (by assumption) d_M_feed_58 ?_
      refine ws_aload_n (i := 0) X d_M_feed_59 rfl rfl ?_
      refine ws_dup X d_M_feed_60 rfl ?_
      refine ws_getI X fl_M_110 ob8 d_M_feed_61 ?_
      rw [e1]
      refine ws_iconst (v := 1) X d_M_feed_64 rfl ?_
      refine ws_iadd X d_M_feed_65 ?_
      refine ws_putI X fl_M_110 ob8 d_M_feed_66 ?_
      refine ws_iinc_4 X rfl d_M_feed_69 rfl (by decide) ?_
      refine ws_goto X d_M_feed_72 ?_
      rw [nI_d0]; exact ih (s1 + 1) _ (by omega) (by rw [wI_rd, hs, nI_1]) (by omega) K
end L30
theorem m_M_sumAhead (S : MS) (k : Nat) (hk : k ≤ 500) : MetE y_M_sumAhead c_M_sumAhead 4 ((some .int)) 0 0 [.inr (8, 0), .inl (.int (nI k))] S (some (.inl (.int (sumTo (S.1 24 0) k &&& 255)))) (S) := by
  refine MetS.of (lv0 := [some (.inr (8, 0)), some (.inl (.int (nI k))), none, none]) pn_M rfl (Nat.le_of_ble_eq_true rfl) (fun p0 l0 e0 s0 m0 args below meth c0 G X => ?_)
  refine ws_iconst (v := 0) X d_M_sumAhead_0 rfl ?_
  refine ws_istn_2 X rfl d_M_sumAhead_1 (by decide) ?_
  refine ws_iconst (v := 0) X d_M_sumAhead_2 rfl ?_
  refine ws_istn_3 X rfl d_M_sumAhead_3 (by decide) ?_
  refine l_msum X hk k 0 (by omega) (fun j => ?_)
  refine ws_iload_n (i := 2) X d_M_sumAhead_24 rfl rfl ?_
  refine ws_sipush (v := 255) X d_M_sumAhead_25 rfl ?_
  refine ws_iand X d_M_sumAhead_28 ?_
  refine ws_iret X d_M_sumAhead_29 ?_
  exact ⟨rfl, rfl⟩

def mFeedV (S : MS) (w : Int64) (n : Int32) : Int32 := if mIn n 1 8 = true then (if S.1 8 0 1 + n ≤ 500 then (mFeedGo w n.toNatClampNeg S).1 8 0 1 else -104) else -102
def mFeedS (S : MS) (w : Int64) (n : Int32) : MS := if mIn n 1 8 = true then (if S.1 8 0 1 + n ≤ 500 then mFeedGo w n.toNatClampNeg S else S) else S
theorem m_M_feed (S : MS) (w : Int64) (n : Int32) (s1 : Nat) (hs : S.1 8 0 1 = nI s1) (h5 : s1 ≤ 500) : MetE y_M_feed c_M_feed 5 ((some .int)) 1 22 [.inr (8, 0), .inl (.long w), .inl (.int n)] S (some (.inl (.int (mFeedV S w n)))) (mFeedS S w n) := by
  refine MetS.of (lv0 := [some (.inr (8, 0)), some (.inl (.long w)), none, some (.inl (.int n)), none]) pn_M rfl (Nat.le_of_ble_eq_true rfl) (fun p0 l0 e0 s0 m0 args below meth c0 G X => ?_)
  refine ws_iload_n (i := 3) X d_M_feed_0 rfl rfl ?_
  refine ws_iconst (v := 1) X d_M_feed_1 rfl ?_
  refine ws_bipush (v := 8) X d_M_feed_2 rfl ?_
  refine ws_callS1 X (m_M_in _ _ _ _) cs_M_in ml_M_106 rfl rfl (Nat.le_of_ble_eq_true rfl) ⟨Nat.le_of_ble_eq_true rfl, Nat.le_of_ble_eq_true rfl⟩ ⟨Nat.zero_le _, Nat.zero_le _⟩ d_M_feed_4 ?_
  refine ws_ifB_ne X d_M_feed_7 (fun h7 => ?_) (fun h7 => ?_)
  · refine ws_aload_n (i := 0) X d_M_feed_13 rfl rfl ?_
    refine ws_getI X fl_M_110 ob8 d_M_feed_14 ?_
    refine ws_iload_n (i := 3) X d_M_feed_17 rfl rfl ?_
    refine ws_iadd X d_M_feed_18 ?_
    refine ws_sipush (v := 500) X d_M_feed_19 rfl ?_
    refine ws_icmp_le X d_M_feed_22 (fun h22 => ?_) (fun h22 => ?_)
    · refine ws_iload_n (i := 3) X d_M_feed_28 rfl rfl ?_
      refine ws_iconst (v := 1) X d_M_feed_29 rfl ?_
      refine ws_isub X d_M_feed_30 ?_
      refine ws_ist_4 X rfl d_M_feed_31 (by decide) ?_
      have hmi : mIn n 1 8 = true := h7
      simp only [mIn, Bool.and_eq_true, decide_eq_true_eq] at hmi
      obtain ⟨k, hk, hn⟩ := nI_of2 (M := 8) (n := 8) rfl (fun z => hmi.1 (Int32.lt_trans z (by decide))) (Int32.not_lt.mp hmi.2)
      have hc : n.toNatClampNeg = k := by rw [hn]; exact nI_c (by omega)
      have hV : mFeedV S w n = (mFeedGo w k S).1 8 0 1 := by simp [mFeedV, hc, h7, eq_true h22]
      have hS : mFeedS S w n = mFeedGo w k S := by simp [mFeedS, hc, h7, eq_true h22]
      rw [hV, hS, hn]
      refine l_mfeed X k s1 S hk hs (by rw [hs, hn, nI_add, show (500 : Int32) = nI 500 from rfl, nI_leI (by omega) (by omega)] at h22; exact h22) (fun j => ?_)
      refine ws_aload_n (i := 0) X d_M_feed_75 rfl rfl ?_
      refine ws_getI X fl_M_110 ob8 d_M_feed_76 ?_
      refine ws_iret X d_M_feed_79 ?_
      exact ⟨rfl, rfl⟩
    · refine ws_bipush (v := (-104)) X d_M_feed_25 rfl ?_
      refine ws_iret X d_M_feed_27 ?_
      exact ⟨by simp [mFeedV, h7, eq_false h22], by simp [mFeedS, h7, eq_false h22]⟩
  · refine ws_bipush (v := (-102)) X d_M_feed_10 rfl ?_
    refine ws_iret X d_M_feed_12 ?_
    exact ⟨by simp [mFeedV, h7], by simp [mFeedS, h7]⟩

theorem m_M_wipe (S : MS) : MetE y_M_wipe c_M_wipe 2 ((some .int)) 0 0 [.inr (8, 0)] S (some (.inl (.int (S.1 8 0 1)))) (wI S 8 0 1 0) := by
  refine MetS.of (lv0 := [some (.inr (8, 0)), none]) pn_M rfl (Nat.le_of_ble_eq_true rfl) (fun p0 l0 e0 s0 m0 args below meth c0 G X => ?_)
  refine ws_aload_n (i := 0) X d_M_wipe_0 rfl rfl ?_
  refine ws_getI X fl_M_110 ob8 d_M_wipe_1 ?_
  refine ws_istn_1 X rfl d_M_wipe_4 (by decide) ?_
  refine ws_aload_n (i := 0) X d_M_wipe_5 rfl rfl ?_
  refine ws_iconst (v := 0) X d_M_wipe_6 rfl ?_
  refine ws_putI X fl_M_110 ob8 d_M_wipe_7 ?_
  refine ws_iload_n (i := 1) X d_M_wipe_10 rfl rfl ?_
  refine ws_iret X d_M_wipe_11 ?_
  exact ⟨rfl, rfl⟩

def mAtV (S : MS) (i : Int32) : Int32 := if mIn i 0 (S.1 8 0 1 - 1) = true then S.1 24 0 i.toNatClampNeg else -101
theorem m_M_at (S : MS) (i : Int32) (h5 : (S.1 8 0 1 - 1).toInt < 500) : MetE y_M_at c_M_at 2 ((some .int)) 1 22 [.inr (8, 0), .inl (.int i)] S (some (.inl (.int (mAtV S i)))) (S) := by
  refine MetS.of (lv0 := [some (.inr (8, 0)), some (.inl (.int i))]) pn_M rfl (Nat.le_of_ble_eq_true rfl) (fun p0 l0 e0 s0 m0 args below meth c0 G X => ?_)
  refine ws_iload_n (i := 1) X d_M_at_0 rfl rfl ?_
  refine ws_iconst (v := 0) X d_M_at_1 rfl ?_
  refine ws_aload_n (i := 0) X d_M_at_2 rfl rfl ?_
  refine ws_getI X fl_M_110 ob8 d_M_at_3 ?_
  refine ws_iconst (v := 1) X d_M_at_6 rfl ?_
  refine ws_isub X d_M_at_7 ?_
  refine ws_callS1 X (m_M_in _ _ _ _) cs_M_in ml_M_106 rfl rfl (Nat.le_of_ble_eq_true rfl) ⟨Nat.le_of_ble_eq_true rfl, Nat.le_of_ble_eq_true rfl⟩ ⟨Nat.zero_le _, Nat.zero_le _⟩ d_M_at_8 ?_
  refine ws_ifB_eq X d_M_at_11 (fun h11 => ?_) (fun h11 => ?_)
  · refine ws_bipush (v := (-101)) X d_M_at_23 rfl ?_
    refine ws_iret X d_M_at_25 ?_
    exact ⟨by simp [mAtV, h11], rfl⟩
  · refine ws_aload_n (i := 0) X d_M_at_14 rfl rfl ?_
    refine ws_getR X fl_M_7 ob8 d_M_at_15 ?_
    refine ws_iload_n (i := 1) X d_M_at_18 rfl rfl ?_
    refine ws_iald X ak24 ob24 (mIn_in (by assumption) h5 (by decide)) d_M_at_19 ?_
    refine ws_goto X d_M_at_20 ?_
    refine ws_iret X d_M_at_25 ?_
    exact ⟨by simp [mAtV, h11], rfl⟩

def mAltV (S : MS) (i m : Int32) : Int32 := if mIn i 0 (S.1 8 0 1 - 1) = true then (if mIn m 0 255 = true then S.1 24 0 i.toNatClampNeg ^^^ m else -102) else -101
def mAltS (S : MS) (i m : Int32) : MS := if mIn i 0 (S.1 8 0 1 - 1) = true then (if mIn m 0 255 = true then wI S 24 0 i.toNatClampNeg (S.1 24 0 i.toNatClampNeg ^^^ m) else S) else S
theorem m_M_alter (S : MS) (i m : Int32) (h5 : (S.1 8 0 1 - 1).toInt < 500) : MetE y_M_alter c_M_alter 3 ((some .int)) 1 22 [.inr (8, 0), .inl (.int i), .inl (.int m)] S (some (.inl (.int (mAltV S i m)))) (mAltS S i m) := by
  refine MetS.of (lv0 := [some (.inr (8, 0)), some (.inl (.int i)), some (.inl (.int m))]) pn_M rfl (Nat.le_of_ble_eq_true rfl) (fun p0 l0 e0 s0 m0 args below meth c0 G X => ?_)
  refine ws_iload_n (i := 1) X d_M_alter_0 rfl rfl ?_
  refine ws_iconst (v := 0) X d_M_alter_1 rfl ?_
  refine ws_aload_n (i := 0) X d_M_alter_2 rfl rfl ?_
  refine ws_getI X fl_M_110 ob8 d_M_alter_3 ?_
  refine ws_iconst (v := 1) X d_M_alter_6 rfl ?_
  refine ws_isub X d_M_alter_7 ?_
  refine ws_callS1 X (m_M_in _ _ _ _) cs_M_in ml_M_106 rfl rfl (Nat.le_of_ble_eq_true rfl) ⟨Nat.le_of_ble_eq_true rfl, Nat.le_of_ble_eq_true rfl⟩ ⟨Nat.zero_le _, Nat.zero_le _⟩ d_M_alter_8 ?_
  refine ws_ifB_ne X d_M_alter_11 (fun h11 => ?_) (fun h11 => ?_)
  · refine ws_iload_n (i := 2) X d_M_alter_17 rfl rfl ?_
    refine ws_iconst (v := 0) X d_M_alter_18 rfl ?_
    refine ws_sipush (v := 255) X d_M_alter_19 rfl ?_
    refine ws_callS1 X (m_M_in _ _ _ _) cs_M_in ml_M_106 rfl rfl (Nat.le_of_ble_eq_true rfl) ⟨Nat.le_of_ble_eq_true rfl, Nat.le_of_ble_eq_true rfl⟩ ⟨Nat.zero_le _, Nat.zero_le _⟩ d_M_alter_22 ?_
    refine ws_ifB_ne X d_M_alter_25 (fun h25 => ?_) (fun h25 => ?_)
    · refine ws_aload_n (i := 0) X d_M_alter_31 rfl rfl ?_
      refine ws_getR X fl_M_7 ob8 d_M_alter_32 ?_
      refine ws_iload_n (i := 1) X d_M_alter_35 rfl rfl ?_
      refine ws_aload_n (i := 0) X d_M_alter_36 rfl rfl ?_
      refine ws_getR X fl_M_7 ob8 d_M_alter_37 ?_
      refine ws_iload_n (i := 1) X d_M_alter_40 rfl rfl ?_
      refine ws_iald X ak24 ob24 (mIn_in h11 h5 (by decide)) d_M_alter_41 ?_
      refine ws_iload_n (i := 2) X d_M_alter_42 rfl rfl ?_
      refine ws_ixor X d_M_alter_43 ?_
      refine ws_iast X ak24 ob24 (mIn_in h11 h5 (by decide)) d_M_alter_44 ?_
      refine ws_aload_n (i := 0) X d_M_alter_45 rfl rfl ?_
      refine ws_getR X fl_M_7 ob8 d_M_alter_46 ?_
      refine ws_iload_n (i := 1) X d_M_alter_49 rfl rfl ?_
      refine ws_iald X ak24 ob24 (mIn_in h11 h5 (by decide)) d_M_alter_50 ?_
      refine ws_iret X d_M_alter_51 ?_
      exact ⟨by rw [wI_rd]; simp [mAltV, h11, h25], by simp [mAltS, h11, h25]⟩
    · refine ws_bipush (v := (-102)) X d_M_alter_28 rfl ?_
      refine ws_iret X d_M_alter_30 ?_
      exact ⟨by simp [mAltV, h11, h25], by simp [mAltS, h11, h25]⟩
  · refine ws_bipush (v := (-101)) X d_M_alter_14 rfl ?_
    refine ws_iret X d_M_alter_16 ?_
    exact ⟨by simp [mAltV, h11], by simp [mAltS, h11]⟩

theorem m_M_seal_0 (S : MS) (hS : S.1 8 0 1 = 0) : MetE y_M_seal c_M_seal 1 ((some .int)) 1 23 [.inr (8, 0)] S (some (.inl (.int (-103)))) (S) := by
  refine MetS.of (lv0 := [some (.inr (8, 0))]) pn_M rfl (Nat.le_of_ble_eq_true rfl) (fun p0 l0 e0 s0 m0 args below meth c0 G X => ?_)
  refine ws_aload_n (i := 0) X d_M_seal_0 rfl rfl ?_
  refine ws_getI X fl_M_110 ob8 d_M_seal_1 ?_
  refine ws_if_ne X d_M_seal_4 (fun h4 => ?_) (fun h4 => ?_)
  · exact absurd hS h4
  · refine ws_bipush (v := (-103)) X d_M_seal_7 rfl ?_
    refine ws_iret X d_M_seal_9 ?_
    exact ⟨rfl, rfl⟩

theorem m_M_seal_s (S : MS) (k : Nat) (hk : k + 1 ≤ 500) (hS : S.1 8 0 1 = nI (k + 1)) : MetE y_M_seal c_M_seal 1 ((some .int)) 1 23 [.inr (8, 0)] S (some (.inl (.int (sumTo (S.1 24 0) k &&& 255)))) (wI S 24 0 k (sumTo (S.1 24 0) k &&& 255)) := by
  refine MetS.of (lv0 := [some (.inr (8, 0))]) pn_M rfl (Nat.le_of_ble_eq_true rfl) (fun p0 l0 e0 s0 m0 args below meth c0 G X => ?_)
  have hin : vp_in (nI k) 500 := vp_in_nI (by omega) (by omega)
  have hc := nI_c (i := k) (by omega)
  have e1 : (wI S 24 0 k (sumTo (S.1 24 0) k &&& 255)).1 8 0 1 = nI (k + 1) := by rw [wI_o _ _ _ _ _ _ _ _ (fun z => absurd z.1 (by decide))]; exact hS
  refine ws_aload_n (i := 0) X d_M_seal_0 rfl rfl ?_
  refine ws_getI X fl_M_110 ob8 d_M_seal_1 ?_
  refine ws_if_ne X d_M_seal_4 (fun h4 => ?_) (fun h4 => ?_)
  · refine ws_aload_n (i := 0) X d_M_seal_10 rfl rfl ?_
    refine ws_getR X fl_M_7 ob8 d_M_seal_11 ?_
    refine ws_aload_n (i := 0) X d_M_seal_14 rfl rfl ?_
    refine ws_getI X fl_M_110 ob8 d_M_seal_15 ?_
    rw [hS]
    refine ws_iconst (v := 1) X d_M_seal_18 rfl ?_
    refine ws_isub X d_M_seal_19 ?_
    rw [nI_m1]
    refine ws_aload_n (i := 0) X d_M_seal_20 rfl rfl ?_
    refine ws_aload_n (i := 0) X d_M_seal_21 rfl rfl ?_
    refine ws_getI X fl_M_110 ob8 d_M_seal_22 ?_
    rw [hS]
    refine ws_iconst (v := 1) X d_M_seal_25 rfl ?_
    refine ws_isub X d_M_seal_26 ?_
    rw [nI_m1]
    refine ws_callV1 X (m_M_sumAhead _ _ (by omega)) cv_M_sumAhead ml_M_114 ob8 rfl rfl (Nat.le_of_ble_eq_true rfl) ⟨Nat.le_of_ble_eq_true rfl, Nat.le_of_ble_eq_true rfl⟩ ⟨Nat.zero_le _, Nat.zero_le _⟩ d_M_seal_27 ?_
    refine ws_iast X ak24 ob24 (by assumption) d_M_seal_30 ?_
    rw [hc]
    refine ws_aload_n (i := 0) X d_M_seal_31 rfl rfl ?_
    refine ws_getR X fl_M_7 ob8 d_M_seal_32 ?_
    refine ws_aload_n (i := 0) X d_M_seal_35 rfl rfl ?_
    refine ws_getI X fl_M_110 ob8 d_M_seal_36 ?_
    rw [e1]
    refine ws_iconst (v := 1) X d_M_seal_39 rfl ?_
    refine ws_isub X d_M_seal_40 ?_
    rw [nI_m1]
    refine ws_iald X ak24 ob24 (by assumption) d_M_seal_41 ?_
    refine ws_iret X d_M_seal_42 ?_
    exact ⟨by rw [hc, wI_rd], rfl⟩
  · exact absurd (hS.symm.trans h4) (by rw [show (0 : Int32) = nI 0 from rfl, nI_eq (by omega) (by omega)]; omega)

/-! reading -/
def mFaultS (S : MS) (w a : Int32) : MS := if S.1 8 0 28 = 0 then wI (wI S 8 0 28 w) 8 0 29 a else S
theorem m_M_faults (S : MS) (w a : Int32) : MetE y_M_faults c_M_faults 3 (none) 0 0 [.inr (8, 0), .inl (.int w), .inl (.int a)] S (none) (mFaultS S w a) := by
  refine MetS.of (lv0 := [some (.inr (8, 0)), some (.inl (.int w)), some (.inl (.int a))]) pn_M rfl (Nat.le_of_ble_eq_true rfl) (fun p0 l0 e0 s0 m0 args below meth c0 G X => ?_)
  refine ws_aload_n (i := 0) X d_M_faults_0 rfl rfl ?_
  refine ws_getI X fl_M_118 ob8 d_M_faults_1 ?_
  refine ws_if_ne X d_M_faults_4 (fun h4 => ?_) (fun h4 => ?_)
  · refine ws_vret X d_M_faults_17 ?_
    exact ⟨rfl, by simp [mFaultS, eq_false h4]⟩
  · refine ws_aload_n (i := 0) X d_M_faults_7 rfl rfl ?_
    refine ws_iload_n (i := 1) X d_M_faults_8 rfl rfl ?_
    refine ws_putI X fl_M_118 ob8 d_M_faults_9 ?_
    refine ws_aload_n (i := 0) X d_M_faults_12 rfl rfl ?_
    refine ws_iload_n (i := 2) X d_M_faults_13 rfl rfl ?_
    refine ws_putI X fl_M_121 ob8 d_M_faults_14 ?_
    refine ws_vret X d_M_faults_17 ?_
    exact ⟨rfl, by simp [mFaultS, eq_true h4]⟩

/-- the place on the tape is sound -/
def MP (S : MS) : Prop := ∃ p n : Nat, S.1 8 0 31 = nI p ∧ S.1 8 0 1 = nI n ∧ p ≤ n ∧ n ≤ 500 ∧ ∀ j, j < n → ∃ b, b < 256 ∧ S.1 24 0 j = nI b
theorem MP.same {S S' : MS} (h : MP S) (h1 : S'.1 8 0 31 = S.1 8 0 31) (h2 : S'.1 8 0 1 = S.1 8 0 1) (h3 : ∀ j, S'.1 24 0 j = S.1 24 0 j) : MP S' := by
  obtain ⟨p, n, h4, h5, h6, h7, h8⟩ := h
  exact ⟨p, n, h1.trans h4, h2.trans h5, h6, h7, fun j hj => by rw [h3]; exact h8 j hj⟩
theorem MP.in {S : MS} (h : MP S) (hne : ¬ S.1 8 0 31 = S.1 8 0 1) : vp_in (S.1 8 0 31) 500 := by
  obtain ⟨p, n, h1, h2, h3, h4, -⟩ := h
  rw [h1, h2] at hne
  have : p ≠ n := fun z => hne (by rw [z])
  rw [h1]; exact vp_in_nI (by omega) (by omega)
def mTakeV (S : MS) : Int32 := if S.1 8 0 28 = 0 then (if S.1 8 0 31 = S.1 8 0 1 then 0 else S.1 24 0 (S.1 8 0 31).toNatClampNeg) else 0
def mTakeS (S : MS) : MS := if S.1 8 0 28 = 0 then (if S.1 8 0 31 = S.1 8 0 1 then mFaultS S 1 (S.1 8 0 1) else wI S 8 0 31 (S.1 8 0 31 + 1)) else S
theorem m_M_take (S : MS) (hP : MP S) : MetE y_M_take c_M_take 1 ((some .int)) 1 22 [.inr (8, 0)] S (some (.inl (.int (mTakeV S)))) (mTakeS S) := by
  refine MetS.of (lv0 := [some (.inr (8, 0))]) pn_M rfl (Nat.le_of_ble_eq_true rfl) (fun p0 l0 e0 s0 m0 args below meth c0 G X => ?_)
  refine ws_aload_n (i := 0) X d_M_take_0 rfl rfl ?_
  refine ws_getI X fl_M_118 ob8 d_M_take_1 ?_
  refine ws_if_eq X d_M_take_4 (fun h4 => ?_) (fun h4 => ?_)
  · refine ws_aload_n (i := 0) X d_M_take_9 rfl rfl ?_
    refine ws_getI X fl_M_124 ob8 d_M_take_10 ?_
    refine ws_aload_n (i := 0) X d_M_take_13 rfl rfl ?_
    refine ws_getI X fl_M_110 ob8 d_M_take_14 ?_
    refine ws_icmp_ne X d_M_take_17 (fun h17 => ?_) (fun h17 => ?_)
    · refine ws_aload_n (i := 0) X d_M_take_31 rfl rfl ?_
      refine ws_dup X d_M_take_32 rfl ?_
      refine ws_getI X fl_M_124 ob8 d_M_take_33 ?_
      refine ws_iconst (v := 1) X d_M_take_36 rfl ?_
      refine ws_iadd X d_M_take_37 ?_
      refine ws_putI X fl_M_124 ob8 d_M_take_38 ?_
      refine ws_aload_n (i := 0) X d_M_take_41 rfl rfl ?_
      refine ws_getR X fl_M_7 ob8 d_M_take_42 ?_
      refine ws_aload_n (i := 0) X d_M_take_45 rfl rfl ?_
      refine ws_getI X fl_M_124 ob8 d_M_take_46 ?_
      rw [wI_rd]
      refine ws_iconst (v := 1) X d_M_take_49 rfl ?_
      refine ws_isub X d_M_take_50 ?_
      rw [Int32.add_sub_cancel]
      refine ws_iald X ak24 ob24 (hP.in (by assumption)) d_M_take_51 ?_
      refine ws_iret X d_M_take_52 ?_
      exact ⟨by rw [wI_o _ _ _ _ _ _ _ _ (fun z => absurd z.1 (by decide))]; simp [mTakeV, eq_true h4, eq_false h17], by simp [mTakeS, eq_true h4, eq_false h17]⟩
    · refine ws_aload_n (i := 0) X d_M_take_20 rfl rfl ?_
      refine ws_iconst (v := 1) X d_M_take_21 rfl ?_
      refine ws_aload_n (i := 0) X d_M_take_22 rfl rfl ?_
      refine ws_getI X fl_M_110 ob8 d_M_take_23 ?_
      refine ws_callV0 X (m_M_faults _ _ _) cv_M_faults ml_M_127 ob8 rfl rfl (Nat.le_of_ble_eq_true rfl) ⟨Nat.le_of_ble_eq_true rfl, Nat.le_of_ble_eq_true rfl⟩ ⟨Nat.zero_le _, Nat.zero_le _⟩ d_M_take_26 ?_
      refine ws_iconst (v := 0) X d_M_take_29 rfl ?_
      refine ws_iret X d_M_take_30 ?_
      exact ⟨by simp [mTakeV, eq_true h4, eq_true h17], by simp [mTakeS, eq_true h4, eq_true h17]⟩
  · refine ws_iconst (v := 0) X d_M_take_7 rfl ?_
    refine ws_iret X d_M_take_8 ?_
    exact ⟨by simp [mTakeV, eq_false h4], by simp [mTakeS, eq_false h4]⟩

theorem mFaultS_o (S : MS) (w a : Int32) (b c d : Nat) (h1 : ¬ (b = 8 ∧ c = 0 ∧ d = 28)) (h2 : ¬ (b = 8 ∧ c = 0 ∧ d = 29)) : (mFaultS S w a).1 b c d = S.1 b c d := by
  unfold mFaultS
  by_cases h : S.1 8 0 28 = 0
  · rw [if_pos h, wI_o _ _ _ _ _ _ _ _ h2, wI_o _ _ _ _ _ _ _ _ h1]
  · rw [if_neg h]
theorem mTakeS_o (S : MS) (b c d : Nat) (h1 : ¬ (b = 8 ∧ c = 0 ∧ d = 28)) (h2 : ¬ (b = 8 ∧ c = 0 ∧ d = 29)) (h3 : ¬ (b = 8 ∧ c = 0 ∧ d = 31)) : (mTakeS S).1 b c d = S.1 b c d := by
  unfold mTakeS
  by_cases h : S.1 8 0 28 = 0
  · rw [if_pos h]
    by_cases h4 : S.1 8 0 31 = S.1 8 0 1
    · rw [if_pos h4, mFaultS_o _ _ _ _ _ _ h1 h2]
    · rw [if_neg h4, wI_o _ _ _ _ _ _ _ _ h3]
  · rw [if_neg h]
theorem mTakeS_MP {S : MS} (h : MP S) : MP (mTakeS S) := by
  have hh := h
  obtain ⟨p, n, e1, e2, e3, e4, e5⟩ := h
  unfold mTakeS
  by_cases h : S.1 8 0 28 = 0
  · rw [if_pos h]
    by_cases h4 : S.1 8 0 31 = S.1 8 0 1
    · rw [if_pos h4]; exact hh.same (mFaultS_o _ _ _ _ _ _ (by decide) (by decide)) (mFaultS_o _ _ _ _ _ _ (by decide) (by decide)) (fun j => mFaultS_o _ _ _ _ _ _ (fun z => absurd z.1 (by decide)) (fun z => absurd z.1 (by decide)))
    · rw [if_neg h4]
      have : p ≠ n := fun z => h4 (by rw [e1, e2, z])
      exact ⟨p + 1, n, by rw [wI_rd, e1, nI_1], by rw [wI_o _ _ _ _ _ _ _ _ (by decide)]; exact e2, by omega, e4, fun j hj => by rw [wI_o _ _ _ _ _ _ _ _ (fun z => absurd z.1 (by decide))]; exact e5 j hj⟩
  · rw [if_neg h]; exact hh
def mTknS (S : MS) (lo up w : Int32) : MS := if (mTakeS S).1 8 0 28 = 0 then (if mIn (mTakeV S) lo up = true then mTakeS S else mFaultS (mTakeS S) w ((mTakeS S).1 8 0 31 - 1)) else mTakeS S
def mTknV (S : MS) (lo up w : Int32) : Int32 := if (mTknS S lo up w).1 8 0 28 = 0 then mTakeV S else 0
theorem m_M_taken (S : MS) (lo up w : Int32) (hP : MP S) : MetE y_M_taken c_M_taken 5 ((some .int)) 2 42 [.inr (8, 0), .inl (.int lo), .inl (.int up), .inl (.int w)] S (some (.inl (.int (mTknV S lo up w)))) (mTknS S lo up w) := by
  refine MetS.of (lv0 := [some (.inr (8, 0)), some (.inl (.int lo)), some (.inl (.int up)), some (.inl (.int w)), none]) pn_M rfl (Nat.le_of_ble_eq_true rfl) (fun p0 l0 e0 s0 m0 args below meth c0 G X => ?_)
  refine ws_aload_n (i := 0) X d_M_taken_0 rfl rfl ?_
  refine ws_callV1 X (m_M_take _ (by assumption)) cv_M_take ml_M_131 ob8 rfl rfl (Nat.le_of_ble_eq_true rfl) ⟨Nat.le_of_ble_eq_true rfl, Nat.le_of_ble_eq_true rfl⟩ ⟨Nat.zero_le _, Nat.zero_le _⟩ d_M_taken_1 ?_
  refine ws_ist_4 X rfl d_M_taken_4 (by decide) ?_
  refine ws_aload_n (i := 0) X d_M_taken_6 rfl rfl ?_
  refine ws_getI X fl_M_118 ob8 d_M_taken_7 ?_
  refine ws_if_ne X d_M_taken_10 (fun h10 => ?_) (fun h10 => ?_)
  · refine ws_aload_n (i := 0) X d_M_taken_34 rfl rfl ?_
    refine ws_getI X fl_M_118 ob8 d_M_taken_35 ?_
    refine ws_if_ne X d_M_taken_38 (fun h38 => ?_) (fun h38 => ?_)
    · refine ws_iconst (v := 0) X d_M_taken_46 rfl ?_
      refine ws_iret X d_M_taken_47 ?_
      first | exact absurd h38 h10 | exact absurd h10 h38 | exact ⟨by simp [mTknV, mTknS, eq_false h10, eq_false h38], by simp [mTknS, eq_false h10, eq_false h38]⟩
    · refine ws_iload (i := 4) X d_M_taken_41 rfl ?_
      refine ws_goto X d_M_taken_43 ?_
      refine ws_iret X d_M_taken_47 ?_
      first | exact absurd h38 h10 | exact absurd h10 h38 | exact ⟨by simp [mTknV, mTknS, eq_false h10, eq_true h38], by simp [mTknS, eq_false h10, eq_true h38]⟩
  · refine ws_iload (i := 4) X d_M_taken_13 rfl ?_
    refine ws_iload_n (i := 1) X d_M_taken_15 rfl rfl ?_
    refine ws_iload_n (i := 2) X d_M_taken_16 rfl rfl ?_
    refine ws_callS1 X (m_M_in _ _ _ _) cs_M_in ml_M_106 rfl rfl (Nat.le_of_ble_eq_true rfl) ⟨Nat.le_of_ble_eq_true rfl, Nat.le_of_ble_eq_true rfl⟩ ⟨Nat.zero_le _, Nat.zero_le _⟩ d_M_taken_17 ?_
    refine ws_ifB_ne X d_M_taken_20 (fun h20 => ?_) (fun h20 => ?_)
    · refine ws_aload_n (i := 0) X d_M_taken_34 rfl rfl ?_
      refine ws_getI X fl_M_118 ob8 d_M_taken_35 ?_
      refine ws_if_ne X d_M_taken_38 (fun h38 => ?_) (fun h38 => ?_)
      · refine ws_iconst (v := 0) X d_M_taken_46 rfl ?_
        refine ws_iret X d_M_taken_47 ?_
        first | exact absurd h38 h10 | exact absurd h10 h38 | exact ⟨by simp [mTknV, mTknS, eq_true h10, h20, eq_false h38], by simp [mTknS, eq_true h10, h20, eq_false h38]⟩
      · refine ws_iload (i := 4) X d_M_taken_41 rfl ?_
        refine ws_goto X d_M_taken_43 ?_
        refine ws_iret X d_M_taken_47 ?_
        first | exact absurd h38 h10 | exact absurd h10 h38 | exact ⟨by simp [mTknV, mTknS, eq_true h10, h20, eq_true h38], by simp [mTknS, eq_true h10, h20, eq_true h38]⟩
    · refine ws_aload_n (i := 0) X d_M_taken_23 rfl rfl ?_
      refine ws_iload_n (i := 3) X d_M_taken_24 rfl rfl ?_
      refine ws_aload_n (i := 0) X d_M_taken_25 rfl rfl ?_
      refine ws_getI X fl_M_124 ob8 d_M_taken_26 ?_
      refine ws_iconst (v := 1) X d_M_taken_29 rfl ?_
      refine ws_isub X d_M_taken_30 ?_
      refine ws_callV0 X (m_M_faults _ _ _) cv_M_faults ml_M_127 ob8 rfl rfl (Nat.le_of_ble_eq_true rfl) ⟨Nat.le_of_ble_eq_true rfl, Nat.le_of_ble_eq_true rfl⟩ ⟨Nat.zero_le _, Nat.zero_le _⟩ d_M_taken_31 ?_
      refine ws_aload_n (i := 0) X d_M_taken_34 rfl rfl ?_
      refine ws_getI X fl_M_118 ob8 d_M_taken_35 ?_
      refine ws_if_ne X d_M_taken_38 (fun h38 => ?_) (fun h38 => ?_)
      · refine ws_iconst (v := 0) X d_M_taken_46 rfl ?_
        refine ws_iret X d_M_taken_47 ?_
        first | exact absurd h38 h10 | exact absurd h10 h38 | exact ⟨by simp [mTknV, mTknS, eq_true h10, h20, eq_false h38], by simp [mTknS, eq_true h10, h20, eq_false h38]⟩
      · refine ws_iload (i := 4) X d_M_taken_41 rfl ?_
        refine ws_goto X d_M_taken_43 ?_
        refine ws_iret X d_M_taken_47 ?_
        first | exact absurd h38 h10 | exact absurd h10 h38 | exact ⟨by simp [mTknV, mTknS, eq_true h10, h20, eq_true h38], by simp [mTknS, eq_true h10, h20, eq_true h38]⟩


