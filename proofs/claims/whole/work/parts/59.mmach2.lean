/-! the model's machine: numbers joined, turned -/
theorem mPop_F {S : MS} {F dd n : Nat} (h : S.1 8 0 36 = nI n) : (mPopS S F dd).1 8 0 36 = nI n := (wI_o _ _ _ _ _ _ _ _ (fun z => absurd z.1 (by decide))).trans h
theorem mPop_D (S : MS) (F dd : Nat) : (mPopS S F dd).1 52 0 F = nI dd := wI_rd ..
theorem mPop_o (S : MS) (F dd b c d : Nat) (h : b ≠ 52) : (mPopS S F dd).1 b c d = S.1 b c d := wI_o _ _ _ _ _ _ _ _ (fun z => h z.1)
theorem mPop_2 (S : MS) (F dd : Nat) : (mPopS S F dd).2 = S.2 := rfl
theorem mPop_p (S : MS) (F d1 d2 : Nat) : mPopS (mPopS S F d1) F d2 = mPopS S F d2 := wI_wI _ _ _ _ _ _
def mJI (S : MS) (x y : Int32) (F dd : Nat) (o : Int32) : MS := if o = 7 then mPushS S (x + y) FP.dconst0 F dd else if o = 8 then mPushS S (x - y) FP.dconst0 F dd else if o = 9 then mPushS S (x * y) FP.dconst0 F dd else if o = 10 then (if y = 0 then mFailS S 1 F else mPushS S (x / y) FP.dconst0 F dd) else mPushS S (if y ≤ x then 0 else 1) FP.dconst0 F dd
def mJIS (S : MS) (F dd : Nat) (o : Int32) : MS := mJI (mPopS S F dd) (S.1 53 0 (12 * F + 6 + dd)) (S.1 53 0 (12 * F + 6 + (dd + 1))) F dd o
theorem m_M_joinsInts (S : MS) (F dd : Nat) (o : Int32) (hF : S.1 8 0 36 = nI (F + 1)) (hF8 : F < 8) (hD : S.1 52 0 F = nI (dd + 2)) (hd : dd + 2 ≤ 6) : MetE y_M_joinsInts c_M_joinsInts 4 (none) 1 25 [.inr (8, 0), .inl (.int o)] S (none) (mJIS S F dd o) := by
  refine MetS.of (lv0 := [some (.inr (8, 0)), some (.inl (.int o)), none, none]) pn_M rfl (Nat.le_of_ble_eq_true rfl) (fun p0 l0 e0 s0 m0 args below meth c0 G X => ?_)
  have hin1 : vp_in (nI (12 * F + 6 + (dd + 1))) 96 := vp_in_nI (by omega) (by omega)
  have hc1 := nI_c (i := 12 * F + 6 + (dd + 1)) (by omega)
  have hin0 : vp_in (nI (12 * F + 6 + dd)) 96 := vp_in_nI (by omega) (by omega)
  have hc0 := nI_c (i := 12 * F + 6 + dd) (by omega)
  have hF1 := mPop_F (F := F) (dd := dd + 1) hF
  have hF2 := mPop_F (F := F) (dd := dd) hF
  have hD2 := mPop_D S F dd
  refine ws_aload_n (i := 0) X d_M_joinsInts_0 rfl rfl ?_
  refine ws_getR X fl_M_100 ob8 d_M_joinsInts_1 ?_
  refine ws_aload_n (i := 0) X d_M_joinsInts_4 rfl rfl ?_
  refine ws_callV1 X (m_M_pop S F (dd + 1) hF hF8 hD (by omega)) cv_M_pop ml_M_285 ob8 rfl rfl (Nat.le_of_ble_eq_true rfl) ⟨Nat.le_of_ble_eq_true rfl, Nat.le_of_ble_eq_true rfl⟩ ⟨Nat.zero_le _, Nat.zero_le _⟩ d_M_joinsInts_5 ?_
  refine ws_iald X ak53 ob53 (hin1) d_M_joinsInts_8 ?_
  rw [hc1, mPop_o _ _ _ _ _ _ (by decide)]
  refine ws_istn_2 X rfl d_M_joinsInts_9 (by decide) ?_
  refine ws_aload_n (i := 0) X d_M_joinsInts_10 rfl rfl ?_
  refine ws_getR X fl_M_100 ob8 d_M_joinsInts_11 ?_
  refine ws_aload_n (i := 0) X d_M_joinsInts_14 rfl rfl ?_
  refine ws_callV1 X (m_M_pop _ F dd hF1 hF8 (mPop_D ..) (by omega)) cv_M_pop ml_M_285 ob8 rfl rfl (Nat.le_of_ble_eq_true rfl) ⟨Nat.le_of_ble_eq_true rfl, Nat.le_of_ble_eq_true rfl⟩ ⟨Nat.zero_le _, Nat.zero_le _⟩ d_M_joinsInts_15 ?_
  rw [mPop_p]
  refine ws_iald X ak53 ob53 (hin0) d_M_joinsInts_18 ?_
  rw [hc0, mPop_o _ _ _ _ _ _ (by decide)]
  rw [show mJIS S F dd o = mJI (mPopS S F dd) (S.1 53 0 (12 * F + 6 + dd)) (S.1 53 0 (12 * F + 6 + (dd + 1))) F dd o from rfl]
  generalize S.1 53 0 (12 * F + 6 + dd) = x
  generalize S.1 53 0 (12 * F + 6 + (dd + 1)) = y
  generalize mPopS S F dd = S2 at hF2 hD2 ⊢
  refine ws_istn_3 X rfl d_M_joinsInts_19 (by decide) ?_
  refine ws_iload_n (i := 1) X d_M_joinsInts_20 rfl rfl ?_
  refine ws_tsw X [(7, 52), (8, 63), (9, 74), (10, 85)] d_M_joinsInts_21 (fun j hj => by
      have hj2 : j < 4 := by omega
      match j, hj2 with
      | 0, _ => exact ⟨_, 52, rfl, rfl, by decide⟩
      | 1, _ => exact ⟨_, 63, rfl, rfl, by decide⟩
      | 2, _ => exact ⟨_, 74, rfl, rfl, by decide⟩
      | 3, _ => exact ⟨_, 85, rfl, rfl, by decide⟩) (tgt := 108) rfl (And.intro (fun h21 => ?_) (And.intro (fun h21 => ?_) (And.intro (fun h21 => ?_) (And.intro (fun h21 => ?_) (trivial))))) (fun h21 => ?_)
  · have h21 : o = 7 := h21
    subst h21
    refine ws_aload_n (i := 0) X d_M_joinsInts_52 rfl rfl ?_
    refine ws_iload_n (i := 3) X d_M_joinsInts_53 rfl rfl ?_
    refine ws_iload_n (i := 2) X d_M_joinsInts_54 rfl rfl ?_
    refine ws_iadd X d_M_joinsInts_55 ?_
    refine ws_dconst0 X d_M_joinsInts_56 ?_
    refine ws_callV0 X (m_M_push _ _ _ F dd hF2 hF8 hD2 (by omega)) cv_M_push ml_M_300 ob8 rfl rfl (Nat.le_of_ble_eq_true rfl) ⟨Nat.le_of_ble_eq_true rfl, Nat.le_of_ble_eq_true rfl⟩ ⟨Nat.zero_le _, Nat.zero_le _⟩ d_M_joinsInts_57 ?_
    refine ws_goto X d_M_joinsInts_60 ?_
    refine ws_vret X d_M_joinsInts_123 ?_
    exact ⟨rfl, by simp [mJI, if_true]⟩
  · have h21 : o = 8 := h21
    subst h21
    refine ws_aload_n (i := 0) X d_M_joinsInts_63 rfl rfl ?_
    refine ws_iload_n (i := 3) X d_M_joinsInts_64 rfl rfl ?_
    refine ws_iload_n (i := 2) X d_M_joinsInts_65 rfl rfl ?_
    refine ws_isub X d_M_joinsInts_66 ?_
    refine ws_dconst0 X d_M_joinsInts_67 ?_
    refine ws_callV0 X (m_M_push _ _ _ F dd hF2 hF8 hD2 (by omega)) cv_M_push ml_M_300 ob8 rfl rfl (Nat.le_of_ble_eq_true rfl) ⟨Nat.le_of_ble_eq_true rfl, Nat.le_of_ble_eq_true rfl⟩ ⟨Nat.zero_le _, Nat.zero_le _⟩ d_M_joinsInts_68 ?_
    refine ws_goto X d_M_joinsInts_71 ?_
    refine ws_vret X d_M_joinsInts_123 ?_
    exact ⟨rfl, by simp [mJI, if_true]⟩
  · have h21 : o = 9 := h21
    subst h21
    refine ws_aload_n (i := 0) X d_M_joinsInts_74 rfl rfl ?_
    refine ws_iload_n (i := 3) X d_M_joinsInts_75 rfl rfl ?_
    refine ws_iload_n (i := 2) X d_M_joinsInts_76 rfl rfl ?_
    refine ws_imul X d_M_joinsInts_77 ?_
    refine ws_dconst0 X d_M_joinsInts_78 ?_
    refine ws_callV0 X (m_M_push _ _ _ F dd hF2 hF8 hD2 (by omega)) cv_M_push ml_M_300 ob8 rfl rfl (Nat.le_of_ble_eq_true rfl) ⟨Nat.le_of_ble_eq_true rfl, Nat.le_of_ble_eq_true rfl⟩ ⟨Nat.zero_le _, Nat.zero_le _⟩ d_M_joinsInts_79 ?_
    refine ws_goto X d_M_joinsInts_82 ?_
    refine ws_vret X d_M_joinsInts_123 ?_
    exact ⟨rfl, by simp [mJI, if_true]⟩
  · have h21 : o = 10 := h21
    subst h21
    refine ws_iload_n (i := 2) X d_M_joinsInts_85 rfl rfl ?_
    refine ws_if_ne X d_M_joinsInts_86 (fun h86 => ?_) (fun h86 => ?_)
    · refine ws_aload_n (i := 0) X d_M_joinsInts_97 rfl rfl ?_
      refine ws_iload_n (i := 3) X d_M_joinsInts_98 rfl rfl ?_
      refine ws_iload_n (i := 2) X d_M_joinsInts_99 rfl rfl ?_
      refine ws_idiv X d_M_joinsInts_100 (h86) ?_
      refine ws_dconst0 X d_M_joinsInts_101 ?_
      refine ws_callV0 X (m_M_push _ _ _ F dd hF2 hF8 hD2 (by omega)) cv_M_push ml_M_300 ob8 rfl rfl (Nat.le_of_ble_eq_true rfl) ⟨Nat.le_of_ble_eq_true rfl, Nat.le_of_ble_eq_true rfl⟩ ⟨Nat.zero_le _, Nat.zero_le _⟩ d_M_joinsInts_102 ?_
      refine ws_goto X d_M_joinsInts_105 ?_
      refine ws_vret X d_M_joinsInts_123 ?_
      exact ⟨rfl, by simp [mJI, eq_false h86]⟩
    · refine ws_aload_n (i := 0) X d_M_joinsInts_89 rfl rfl ?_
      refine ws_iconst (v := 1) X d_M_joinsInts_90 rfl ?_
      refine ws_callV0 X (m_M_fails _ _ F hF2 hF8) cv_M_fails ml_M_275 ob8 rfl rfl (Nat.le_of_ble_eq_true rfl) ⟨Nat.le_of_ble_eq_true rfl, Nat.le_of_ble_eq_true rfl⟩ ⟨Nat.zero_le _, Nat.zero_le _⟩ d_M_joinsInts_91 ?_
      refine ws_goto X d_M_joinsInts_94 ?_
      refine ws_vret X d_M_joinsInts_123 ?_
      exact ⟨rfl, by simp [mJI, eq_true h86]⟩
  · have g21_0 : ¬ o = 7 := fun z => by rw [z] at h21; exact absurd h21 (by decide)
    have g21_1 : ¬ o = 8 := fun z => by rw [z] at h21; exact absurd h21 (by decide)
    have g21_2 : ¬ o = 9 := fun z => by rw [z] at h21; exact absurd h21 (by decide)
    have g21_3 : ¬ o = 10 := fun z => by rw [z] at h21; exact absurd h21 (by decide)
    refine ws_aload_n (i := 0) X d_M_joinsInts_108 rfl rfl ?_
    refine ws_iload_n (i := 3) X d_M_joinsInts_109 rfl rfl ?_
    refine ws_iload_n (i := 2) X d_M_joinsInts_110 rfl rfl ?_
    refine ws_icmp_ge X d_M_joinsInts_111 (fun h111 => ?_) (fun h111 => ?_)
    · refine ws_iconst (v := 0) X d_M_joinsInts_118 rfl ?_
      refine ws_dconst0 X d_M_joinsInts_119 ?_
      refine ws_callV0 X (m_M_push _ _ _ F dd hF2 hF8 hD2 (by omega)) cv_M_push ml_M_300 ob8 rfl rfl (Nat.le_of_ble_eq_true rfl) ⟨Nat.le_of_ble_eq_true rfl, Nat.le_of_ble_eq_true rfl⟩ ⟨Nat.zero_le _, Nat.zero_le _⟩ d_M_joinsInts_120 ?_
      refine ws_vret X d_M_joinsInts_123 ?_
      exact ⟨rfl, by simp [mJI, eq_false g21_0, eq_false g21_1, eq_false g21_2, eq_false g21_3, eq_true h111]⟩
    · refine ws_iconst (v := 1) X d_M_joinsInts_114 rfl ?_
      refine ws_goto X d_M_joinsInts_115 ?_
      refine ws_dconst0 X d_M_joinsInts_119 ?_
      refine ws_callV0 X (m_M_push _ _ _ F dd hF2 hF8 hD2 (by omega)) cv_M_push ml_M_300 ob8 rfl rfl (Nat.le_of_ble_eq_true rfl) ⟨Nat.le_of_ble_eq_true rfl, Nat.le_of_ble_eq_true rfl⟩ ⟨Nat.zero_le _, Nat.zero_le _⟩ d_M_joinsInts_120 ?_
      refine ws_vret X d_M_joinsInts_123 ?_
      exact ⟨rfl, by simp [mJI, eq_false g21_0, eq_false g21_1, eq_false g21_2, eq_false g21_3, eq_false h111]⟩

def mJD (S : MS) (x y : UInt64) (F dd : Nat) (o : Int32) : MS := if o = 11 then mPushS S 0 (mPlus x y) F dd else if o = 12 then mPushS S 0 (mMinus x y) F dd else if o = 13 then mPushS S 0 (mTimes x y) F dd else if o = 14 then mPushS S 0 (mBy x y) F dd else mPushS S (if 0 ≤ Op.cmpValue (FP.dcmp x y) .g then 0 else 1) FP.dconst0 F dd
def mJDS (S : MS) (F dd : Nat) (o : Int32) : MS := mJD (mPopS S F dd) (S.2.2 54 0 (12 * F + 6 + dd)) (S.2.2 54 0 (12 * F + 6 + (dd + 1))) F dd o
theorem m_M_joinsDoubles (S : MS) (F dd : Nat) (o : Int32) (hF : S.1 8 0 36 = nI (F + 1)) (hF8 : F < 8) (hD : S.1 52 0 F = nI (dd + 2)) (hd : dd + 2 ≤ 6) : MetE y_M_joinsDoubles c_M_joinsDoubles 6 (none) 2 45 [.inr (8, 0), .inl (.int o)] S (none) (mJDS S F dd o) := by
  refine MetS.of (lv0 := [some (.inr (8, 0)), some (.inl (.int o)), none, none, none, none]) pn_M rfl (Nat.le_of_ble_eq_true rfl) (fun p0 l0 e0 s0 m0 args below meth c0 G X => ?_)
  have hin1 : vp_in (nI (12 * F + 6 + (dd + 1))) 96 := vp_in_nI (by omega) (by omega)
  have hc1 := nI_c (i := 12 * F + 6 + (dd + 1)) (by omega)
  have hin0 : vp_in (nI (12 * F + 6 + dd)) 96 := vp_in_nI (by omega) (by omega)
  have hc0 := nI_c (i := 12 * F + 6 + dd) (by omega)
  have hF1 := mPop_F (F := F) (dd := dd + 1) hF
  have hF2 := mPop_F (F := F) (dd := dd) hF
  have hD2 := mPop_D S F dd
  refine ws_aload_n (i := 0) X d_M_joinsDoubles_0 rfl rfl ?_
  refine ws_getR X fl_M_103 ob8 d_M_joinsDoubles_1 ?_
  refine ws_aload_n (i := 0) X d_M_joinsDoubles_4 rfl rfl ?_
  refine ws_callV1 X (m_M_pop S F (dd + 1) hF hF8 hD (by omega)) cv_M_pop ml_M_285 ob8 rfl rfl (Nat.le_of_ble_eq_true rfl) ⟨Nat.le_of_ble_eq_true rfl, Nat.le_of_ble_eq_true rfl⟩ ⟨Nat.zero_le _, Nat.zero_le _⟩ d_M_joinsDoubles_5 ?_
  refine ws_dald X ak54 ob54 (hin1) d_M_joinsDoubles_8 ?_
  rw [hc1, mPop_2]
  refine ws_dstn_2 X rfl d_M_joinsDoubles_9 (by decide) ?_
  refine ws_aload_n (i := 0) X d_M_joinsDoubles_10 rfl rfl ?_
  refine ws_getR X fl_M_103 ob8 d_M_joinsDoubles_11 ?_
  refine ws_aload_n (i := 0) X d_M_joinsDoubles_14 rfl rfl ?_
  refine ws_callV1 X (m_M_pop _ F dd hF1 hF8 (mPop_D ..) (by omega)) cv_M_pop ml_M_285 ob8 rfl rfl (Nat.le_of_ble_eq_true rfl) ⟨Nat.le_of_ble_eq_true rfl, Nat.le_of_ble_eq_true rfl⟩ ⟨Nat.zero_le _, Nat.zero_le _⟩ d_M_joinsDoubles_15 ?_
  rw [mPop_p]
  refine ws_dald X ak54 ob54 (hin0) d_M_joinsDoubles_18 ?_
  rw [hc0, mPop_2]
  rw [show mJDS S F dd o = mJD (mPopS S F dd) (S.2.2 54 0 (12 * F + 6 + dd)) (S.2.2 54 0 (12 * F + 6 + (dd + 1))) F dd o from rfl]
  generalize S.2.2 54 0 (12 * F + 6 + dd) = x
  generalize S.2.2 54 0 (12 * F + 6 + (dd + 1)) = y
  generalize mPopS S F dd = S2 at hF2 hD2 ⊢
  refine ws_dst_4 X rfl d_M_joinsDoubles_19 (by decide) ?_
  refine ws_iload_n (i := 1) X d_M_joinsDoubles_21 rfl rfl ?_
  refine ws_tsw X [(11, 52), (12, 66), (13, 80), (14, 94)] d_M_joinsDoubles_22 (fun j hj => by
      have hj2 : j < 4 := by omega
      match j, hj2 with
      | 0, _ => exact ⟨_, 52, rfl, rfl, by decide⟩
      | 1, _ => exact ⟨_, 66, rfl, rfl, by decide⟩
      | 2, _ => exact ⟨_, 80, rfl, rfl, by decide⟩
      | 3, _ => exact ⟨_, 94, rfl, rfl, by decide⟩) (tgt := 108) rfl (And.intro (fun h22 => ?_) (And.intro (fun h22 => ?_) (And.intro (fun h22 => ?_) (And.intro (fun h22 => ?_) (trivial))))) (fun h22 => ?_)
  · have h22 : o = 11 := h22
    subst h22
    refine ws_aload_n (i := 0) X d_M_joinsDoubles_52 rfl rfl ?_
    refine ws_iconst (v := 0) X d_M_joinsDoubles_53 rfl ?_
    refine ws_dload (i := 4) X d_M_joinsDoubles_54 rfl ?_
    refine ws_dload_n (i := 2) X d_M_joinsDoubles_56 rfl rfl ?_
    refine ws_callS1 X (m_M_plus _ _ _) cs_M_plus ml_M_321 rfl rfl (Nat.le_of_ble_eq_true rfl) ⟨Nat.le_of_ble_eq_true rfl, Nat.le_of_ble_eq_true rfl⟩ ⟨Nat.zero_le _, Nat.zero_le _⟩ d_M_joinsDoubles_57 ?_
    refine ws_callV0 X (m_M_push _ _ _ F dd hF2 hF8 hD2 (by omega)) cv_M_push ml_M_300 ob8 rfl rfl (Nat.le_of_ble_eq_true rfl) ⟨Nat.le_of_ble_eq_true rfl, Nat.le_of_ble_eq_true rfl⟩ ⟨Nat.zero_le _, Nat.zero_le _⟩ d_M_joinsDoubles_60 ?_
    refine ws_goto X d_M_joinsDoubles_63 ?_
    refine ws_vret X d_M_joinsDoubles_125 ?_
    exact ⟨rfl, by simp [mJD, if_true]⟩
  · have h22 : o = 12 := h22
    subst h22
    refine ws_aload_n (i := 0) X d_M_joinsDoubles_66 rfl rfl ?_
    refine ws_iconst (v := 0) X d_M_joinsDoubles_67 rfl ?_
    refine ws_dload (i := 4) X d_M_joinsDoubles_68 rfl ?_
    refine ws_dload_n (i := 2) X d_M_joinsDoubles_70 rfl rfl ?_
    refine ws_callS1 X (m_M_minus _ _ _) cs_M_minus ml_M_325 rfl rfl (Nat.le_of_ble_eq_true rfl) ⟨Nat.le_of_ble_eq_true rfl, Nat.le_of_ble_eq_true rfl⟩ ⟨Nat.zero_le _, Nat.zero_le _⟩ d_M_joinsDoubles_71 ?_
    refine ws_callV0 X (m_M_push _ _ _ F dd hF2 hF8 hD2 (by omega)) cv_M_push ml_M_300 ob8 rfl rfl (Nat.le_of_ble_eq_true rfl) ⟨Nat.le_of_ble_eq_true rfl, Nat.le_of_ble_eq_true rfl⟩ ⟨Nat.zero_le _, Nat.zero_le _⟩ d_M_joinsDoubles_74 ?_
    refine ws_goto X d_M_joinsDoubles_77 ?_
    refine ws_vret X d_M_joinsDoubles_125 ?_
    exact ⟨rfl, by simp [mJD, if_true]⟩
  · have h22 : o = 13 := h22
    subst h22
    refine ws_aload_n (i := 0) X d_M_joinsDoubles_80 rfl rfl ?_
    refine ws_iconst (v := 0) X d_M_joinsDoubles_81 rfl ?_
    refine ws_dload (i := 4) X d_M_joinsDoubles_82 rfl ?_
    refine ws_dload_n (i := 2) X d_M_joinsDoubles_84 rfl rfl ?_
    refine ws_callS1 X (m_M_times _ _ _) cs_M_times ml_M_328 rfl rfl (Nat.le_of_ble_eq_true rfl) ⟨Nat.le_of_ble_eq_true rfl, Nat.le_of_ble_eq_true rfl⟩ ⟨Nat.zero_le _, Nat.zero_le _⟩ d_M_joinsDoubles_85 ?_
    refine ws_callV0 X (m_M_push _ _ _ F dd hF2 hF8 hD2 (by omega)) cv_M_push ml_M_300 ob8 rfl rfl (Nat.le_of_ble_eq_true rfl) ⟨Nat.le_of_ble_eq_true rfl, Nat.le_of_ble_eq_true rfl⟩ ⟨Nat.zero_le _, Nat.zero_le _⟩ d_M_joinsDoubles_88 ?_
    refine ws_goto X d_M_joinsDoubles_91 ?_
    refine ws_vret X d_M_joinsDoubles_125 ?_
    exact ⟨rfl, by simp [mJD, if_true]⟩
  · have h22 : o = 14 := h22
    subst h22
    refine ws_aload_n (i := 0) X d_M_joinsDoubles_94 rfl rfl ?_
    refine ws_iconst (v := 0) X d_M_joinsDoubles_95 rfl ?_
    refine ws_dload (i := 4) X d_M_joinsDoubles_96 rfl ?_
    refine ws_dload_n (i := 2) X d_M_joinsDoubles_98 rfl rfl ?_
    refine ws_callS1 X (m_M_by _ _ _) cs_M_by ml_M_331 rfl rfl (Nat.le_of_ble_eq_true rfl) ⟨Nat.le_of_ble_eq_true rfl, Nat.le_of_ble_eq_true rfl⟩ ⟨Nat.zero_le _, Nat.zero_le _⟩ d_M_joinsDoubles_99 ?_
    refine ws_callV0 X (m_M_push _ _ _ F dd hF2 hF8 hD2 (by omega)) cv_M_push ml_M_300 ob8 rfl rfl (Nat.le_of_ble_eq_true rfl) ⟨Nat.le_of_ble_eq_true rfl, Nat.le_of_ble_eq_true rfl⟩ ⟨Nat.zero_le _, Nat.zero_le _⟩ d_M_joinsDoubles_102 ?_
    refine ws_goto X d_M_joinsDoubles_105 ?_
    refine ws_vret X d_M_joinsDoubles_125 ?_
    exact ⟨rfl, by simp [mJD, if_true]⟩
  · have g22_0 : ¬ o = 11 := fun z => by rw [z] at h22; exact absurd h22 (by decide)
    have g22_1 : ¬ o = 12 := fun z => by rw [z] at h22; exact absurd h22 (by decide)
    have g22_2 : ¬ o = 13 := fun z => by rw [z] at h22; exact absurd h22 (by decide)
    have g22_3 : ¬ o = 14 := fun z => by rw [z] at h22; exact absurd h22 (by decide)
    refine ws_aload_n (i := 0) X d_M_joinsDoubles_108 rfl rfl ?_
    refine ws_dload (i := 4) X d_M_joinsDoubles_109 rfl ?_
    refine ws_dload_n (i := 2) X d_M_joinsDoubles_111 rfl rfl ?_
    refine ws_dcmp X d_M_joinsDoubles_112 ?_
    refine ws_if_ge X d_M_joinsDoubles_113 (fun h113 => ?_) (fun h113 => ?_)
    · refine ws_iconst (v := 0) X d_M_joinsDoubles_120 rfl ?_
      refine ws_dconst0 X d_M_joinsDoubles_121 ?_
      refine ws_callV0 X (m_M_push _ _ _ F dd hF2 hF8 hD2 (by omega)) cv_M_push ml_M_300 ob8 rfl rfl (Nat.le_of_ble_eq_true rfl) ⟨Nat.le_of_ble_eq_true rfl, Nat.le_of_ble_eq_true rfl⟩ ⟨Nat.zero_le _, Nat.zero_le _⟩ d_M_joinsDoubles_122 ?_
      refine ws_vret X d_M_joinsDoubles_125 ?_
      exact ⟨rfl, by simp [mJD, eq_false g22_0, eq_false g22_1, eq_false g22_2, eq_false g22_3, eq_true h113]⟩
    · refine ws_iconst (v := 1) X d_M_joinsDoubles_116 rfl ?_
      refine ws_goto X d_M_joinsDoubles_117 ?_
      refine ws_dconst0 X d_M_joinsDoubles_121 ?_
      refine ws_callV0 X (m_M_push _ _ _ F dd hF2 hF8 hD2 (by omega)) cv_M_push ml_M_300 ob8 rfl rfl (Nat.le_of_ble_eq_true rfl) ⟨Nat.le_of_ble_eq_true rfl, Nat.le_of_ble_eq_true rfl⟩ ⟨Nat.zero_le _, Nat.zero_le _⟩ d_M_joinsDoubles_122 ?_
      refine ws_vret X d_M_joinsDoubles_125 ?_
      exact ⟨rfl, by simp [mJD, eq_false g22_0, eq_false g22_1, eq_false g22_2, eq_false g22_3, eq_false h113]⟩

def mTrnS (S : MS) (F dd : Nat) (o : Int32) (g : Nat) : MS :=
  if o = 15 then mPushS (mPopS S F dd) 0 (FP.i2d (S.1 53 0 (12 * F + 6 + dd))) F dd
  else if o = 16 then mPushS (mPopS S F dd) (FP.d2i (S.2.2 54 0 (12 * F + 6 + dd))) FP.dconst0 F dd
  else if o = 23 then (if mIn (S.1 53 0 (12 * F + 6 + dd)) 0 7 = true then mPushS (mPopS S F dd) 0 (S.2.2 25 0 (S.1 53 0 (12 * F + 6 + dd)).toNatClampNeg) F dd else mFailS (mPopS S F dd) 2 F)
  else mPushS (mPopS S F dd) 0 (mLstV (S.1 29 0 (8 * g)) (S.2.2 54 0 (12 * F + 6 + dd))) F dd
theorem m_M_turns (S : MS) (F dd g : Nat) (o : Int32) (hF : S.1 8 0 36 = nI (F + 1)) (hF8 : F < 8) (hD : S.1 52 0 F = nI (dd + 1)) (hd : dd < 6) (hg : ¬ o = 15 → ¬ o = 16 → ¬ o = 23 → g < 16) : MetE y_M_turns c_M_turns 5 (none) 4 102 [.inr (8, 0), .inl (.int o), .inl (.int (nI g))] S (none) (mTrnS S F dd o g) := by
  refine MetS.of (lv0 := [some (.inr (8, 0)), some (.inl (.int o)), some (.inl (.int (nI g))), none, none]) pn_M rfl (Nat.le_of_ble_eq_true rfl) (fun p0 l0 e0 s0 m0 args below meth c0 G X => ?_)
  have hin0 : vp_in (nI (12 * F + 6 + dd)) 96 := vp_in_nI (by omega) (by omega)
  have hc0 := nI_c (i := 12 * F + 6 + dd) (by omega)
  have hF2 := mPop_F (F := F) (dd := dd) hF
  have hD2 := mPop_D S F dd
  have e29 := mPop_o S F dd 29 0 (8 * g) (by decide)
  refine ws_aload_n (i := 0) X d_M_turns_0 rfl rfl ?_
  refine ws_callV1 X (m_M_pop S F dd hF hF8 hD hd) cv_M_pop ml_M_285 ob8 rfl rfl (Nat.le_of_ble_eq_true rfl) ⟨Nat.le_of_ble_eq_true rfl, Nat.le_of_ble_eq_true rfl⟩ ⟨Nat.zero_le _, Nat.zero_le _⟩ d_M_turns_1 ?_
  refine ws_istn_3 X rfl d_M_turns_4 (by decide) ?_
  refine ws_iload_n (i := 1) X d_M_turns_5 rfl rfl ?_
  refine ws_bipush (v := 15) X d_M_turns_6 rfl ?_
  refine ws_icmp_ne X d_M_turns_8 (fun h8 => ?_) (fun h8 => ?_)
  · refine ws_iload_n (i := 1) X d_M_turns_26 rfl rfl ?_
    refine ws_bipush (v := 16) X d_M_turns_27 rfl ?_
    refine ws_icmp_ne X d_M_turns_29 (fun h29 => ?_) (fun h29 => ?_)
    · refine ws_iload_n (i := 1) X d_M_turns_47 rfl rfl ?_
      refine ws_bipush (v := 23) X d_M_turns_48 rfl ?_
      refine ws_icmp_ne X d_M_turns_50 (fun h50 => ?_) (fun h50 => ?_)
      · refine ws_aload_n (i := 0) X d_M_turns_95 rfl rfl ?_
        refine ws_iconst (v := 0) X d_M_turns_96 rfl ?_
        refine ws_aload_n (i := 0) X d_M_turns_97 rfl rfl ?_
        refine ws_iload_n (i := 2) X d_M_turns_98 rfl rfl ?_
        refine ws_aload_n (i := 0) X d_M_turns_99 rfl rfl ?_
        refine ws_getR X fl_M_103 ob8 d_M_turns_100 ?_
        refine ws_iload_n (i := 3) X d_M_turns_103 rfl rfl ?_
        refine ws_dald X ak54 ob54 (hin0) d_M_turns_104 ?_
        rw [hc0, mPop_2]
        refine ws_callV1 X (m_M_listed _ g _ (hg (by assumption) (by assumption) (by assumption))) cv_M_listed ml_M_334 ob8 rfl rfl (Nat.le_of_ble_eq_true rfl) ⟨Nat.le_of_ble_eq_true rfl, Nat.le_of_ble_eq_true rfl⟩ ⟨Nat.zero_le _, Nat.zero_le _⟩ d_M_turns_105 ?_
        rw [e29]
        refine ws_callV0 X (m_M_push _ _ _ F dd hF2 hF8 hD2 hd) cv_M_push ml_M_300 ob8 rfl rfl (Nat.le_of_ble_eq_true rfl) ⟨Nat.le_of_ble_eq_true rfl, Nat.le_of_ble_eq_true rfl⟩ ⟨Nat.zero_le _, Nat.zero_le _⟩ d_M_turns_108 ?_
        refine ws_vret X d_M_turns_111 ?_
        exact ⟨rfl, by simp [mTrnS, eq_false h8, eq_false h29, eq_false h50]⟩
      · refine ws_aload_n (i := 0) X d_M_turns_53 rfl rfl ?_
        refine ws_getR X fl_M_100 ob8 d_M_turns_54 ?_
        refine ws_iload_n (i := 3) X d_M_turns_57 rfl rfl ?_
        refine ws_iald X ak53 ob53 (hin0) d_M_turns_58 ?_
        rw [hc0, mPop_o _ _ _ _ _ _ (by decide)]
        refine ws_ist_4 X rfl d_M_turns_59 (by decide) ?_
        refine ws_iload (i := 4) X d_M_turns_61 rfl ?_
        refine ws_iconst (v := 0) X d_M_turns_63 rfl ?_
        refine ws_bipush (v := 7) X d_M_turns_64 rfl ?_
        refine ws_callS1 X (m_M_in _ _ _ _) cs_M_in ml_M_106 rfl rfl (Nat.le_of_ble_eq_true rfl) ⟨Nat.le_of_ble_eq_true rfl, Nat.le_of_ble_eq_true rfl⟩ ⟨Nat.zero_le _, Nat.zero_le _⟩ d_M_turns_66 ?_
        refine ws_ifB_ne X d_M_turns_69 (fun h69 => ?_) (fun h69 => ?_)
        · refine ws_aload_n (i := 0) X d_M_turns_80 rfl rfl ?_
          refine ws_iconst (v := 0) X d_M_turns_81 rfl ?_
          refine ws_aload_n (i := 0) X d_M_turns_82 rfl rfl ?_
          refine ws_getR X fl_M_13 ob8 d_M_turns_83 ?_
          refine ws_iload (i := 4) X d_M_turns_86 rfl ?_
          refine ws_dald X ak25 ob25 (mIn_in (n := 8) (by assumption) (by decide) (by decide)) d_M_turns_88 ?_
          rw [mPop_2]
          refine ws_callV0 X (m_M_push _ _ _ F dd hF2 hF8 hD2 hd) cv_M_push ml_M_300 ob8 rfl rfl (Nat.le_of_ble_eq_true rfl) ⟨Nat.le_of_ble_eq_true rfl, Nat.le_of_ble_eq_true rfl⟩ ⟨Nat.zero_le _, Nat.zero_le _⟩ d_M_turns_89 ?_
          refine ws_goto X d_M_turns_92 ?_
          refine ws_vret X d_M_turns_111 ?_
          exact ⟨rfl, by simp [mTrnS, eq_false h8, eq_false h29, eq_true h50, h69]⟩
        · refine ws_aload_n (i := 0) X d_M_turns_72 rfl rfl ?_
          refine ws_iconst (v := 2) X d_M_turns_73 rfl ?_
          refine ws_callV0 X (m_M_fails _ _ F hF2 hF8) cv_M_fails ml_M_275 ob8 rfl rfl (Nat.le_of_ble_eq_true rfl) ⟨Nat.le_of_ble_eq_true rfl, Nat.le_of_ble_eq_true rfl⟩ ⟨Nat.zero_le _, Nat.zero_le _⟩ d_M_turns_74 ?_
          refine ws_goto X d_M_turns_77 ?_
          refine ws_goto X d_M_turns_92 ?_
          refine ws_vret X d_M_turns_111 ?_
          exact ⟨rfl, by simp [mTrnS, eq_false h8, eq_false h29, eq_true h50, h69]⟩
    · refine ws_aload_n (i := 0) X d_M_turns_32 rfl rfl ?_
      refine ws_aload_n (i := 0) X d_M_turns_33 rfl rfl ?_
      refine ws_getR X fl_M_103 ob8 d_M_turns_34 ?_
      refine ws_iload_n (i := 3) X d_M_turns_37 rfl rfl ?_
      refine ws_dald X ak54 ob54 (hin0) d_M_turns_38 ?_
      rw [hc0, mPop_2]
      refine ws_d2i X d_M_turns_39 ?_
      refine ws_dconst0 X d_M_turns_40 ?_
      refine ws_callV0 X (m_M_push _ _ _ F dd hF2 hF8 hD2 hd) cv_M_push ml_M_300 ob8 rfl rfl (Nat.le_of_ble_eq_true rfl) ⟨Nat.le_of_ble_eq_true rfl, Nat.le_of_ble_eq_true rfl⟩ ⟨Nat.zero_le _, Nat.zero_le _⟩ d_M_turns_41 ?_
      refine ws_goto X d_M_turns_44 ?_
      refine ws_vret X d_M_turns_111 ?_
      exact ⟨rfl, by simp [mTrnS, eq_false h8, eq_true h29]⟩
  · refine ws_aload_n (i := 0) X d_M_turns_11 rfl rfl ?_
    refine ws_iconst (v := 0) X d_M_turns_12 rfl ?_
    refine ws_aload_n (i := 0) X d_M_turns_13 rfl rfl ?_
    refine ws_getR X fl_M_100 ob8 d_M_turns_14 ?_
    refine ws_iload_n (i := 3) X d_M_turns_17 rfl rfl ?_
    refine ws_iald X ak53 ob53 (hin0) d_M_turns_18 ?_
    rw [hc0, mPop_o _ _ _ _ _ _ (by decide)]
    refine ws_i2d X d_M_turns_19 ?_
    refine ws_callV0 X (m_M_push _ _ _ F dd hF2 hF8 hD2 hd) cv_M_push ml_M_300 ob8 rfl rfl (Nat.le_of_ble_eq_true rfl) ⟨Nat.le_of_ble_eq_true rfl, Nat.le_of_ble_eq_true rfl⟩ ⟨Nat.zero_le _, Nat.zero_le _⟩ d_M_turns_20 ?_
    refine ws_goto X d_M_turns_23 ?_
    refine ws_vret X d_M_turns_111 ?_
    exact ⟨rfl, by simp [mTrnS, eq_true h8]⟩


