/-! the model's machine: moves, gives, calls -/
def mStoS (S : MS) (F dd g : Nat) : MS := wD (wI (mPopS S F dd) 53 0 (12 * F + g) (S.1 53 0 (12 * F + 6 + dd))) 54 0 (12 * F + g) (S.2.2 54 0 (12 * F + 6 + dd))
def mMovS (S : MS) (F dd : Nat) (o : Int32) (g : Nat) : MS :=
  if o = 1 then mPushS S (S.2.1 27 0 g).toInt32 FP.dconst0 F dd
  else if o = 2 then mPushS S 0 (mDo (S.2.1 27 0 g)) F dd
  else if o = 3 then mPushS S (S.1 53 0 (12 * F + g)) (S.2.2 54 0 (12 * F + g)) F dd
  else if o = 4 then mStoS S F (dd - 1) g
  else if o = 5 then mPushS S (S.1 53 0 (12 * F + 6 + (dd - 1))) (S.2.2 54 0 (12 * F + 6 + (dd - 1))) F dd
  else if o = 6 then mPopS S F (dd - 1)
  else S
theorem m_M_moves (S : MS) (F dd g : Nat) (o : Int32) (hF : S.1 8 0 36 = nI (F + 1)) (hF8 : F < 8) (hD : S.1 52 0 F = nI dd) (hd : dd ≤ 6) (hg : g < 256) (q1 : o = 1 → g < 16 ∧ dd < 6) (q2 : o = 2 → g < 16 ∧ dd < 6) (q3 : o = 3 → g < 6 ∧ dd < 6) (q4 : o = 4 → g < 6 ∧ 0 < dd) (q5 : o = 5 → 0 < dd ∧ dd < 6) (q6 : o = 6 → 0 < dd) : MetE y_M_moves c_M_moves 5 (none) 2 45 [.inr (8, 0), .inl (.int (nI F)), .inl (.int o), .inl (.int (nI g))] S (none) (mMovS S F dd o g) := by
  refine MetS.of (lv0 := [some (.inr (8, 0)), some (.inl (.int (nI F))), some (.inl (.int o)), some (.inl (.int (nI g))), none]) pn_M rfl (Nat.le_of_ble_eq_true rfl) (fun p0 l0 e0 s0 m0 args below meth c0 G X => ?_)
  have hcg := nI_c (i := g) (by omega)
  have hcF := nI_c (i := F) (by omega)
  have hinF : vp_in (nI F) 8 := vp_in_nI hF8 (by omega)
  have hxg : (12 : Int32) * nI F + nI g = nI (12 * F + g) := by rw [show (12 : Int32) = nI 12 from rfl, ixN]
  refine ws_iload_n (i := 2) X d_M_moves_0 rfl rfl ?_
  refine ws_tsw X [(1, 40), (2, 55), (3, 72), (4, 101), (5, 146), (6, 182)] d_M_moves_1 (fun j hj => by
      have hj2 : j < 6 := by omega
      match j, hj2 with
      | 0, _ => exact ⟨_, 40, rfl, rfl, by decide⟩
      | 1, _ => exact ⟨_, 55, rfl, rfl, by decide⟩
      | 2, _ => exact ⟨_, 72, rfl, rfl, by decide⟩
      | 3, _ => exact ⟨_, 101, rfl, rfl, by decide⟩
      | 4, _ => exact ⟨_, 146, rfl, rfl, by decide⟩
      | 5, _ => exact ⟨_, 182, rfl, rfl, by decide⟩) (tgt := 191) rfl (And.intro (fun h1 => ?_) (And.intro (fun h1 => ?_) (And.intro (fun h1 => ?_) (And.intro (fun h1 => ?_) (And.intro (fun h1 => ?_) (And.intro (fun h1 => ?_) (trivial))))))) (fun h1 => ?_)
  · have h1 : o = 1 := h1
    subst h1
    obtain ⟨z1, z2⟩ := q1 rfl
    refine ws_aload_n (i := 0) X d_M_moves_40 rfl rfl ?_
    refine ws_aload_n (i := 0) X d_M_moves_41 rfl rfl ?_
    refine ws_getR X fl_M_20 ob8 d_M_moves_42 ?_
    refine ws_iload_n (i := 3) X d_M_moves_45 rfl rfl ?_
    refine ws_lald X ak27 ob27 (vp_in_nI z1 (by omega)) d_M_moves_46 ?_
    rw [hcg]
    refine ws_l2i X d_M_moves_47 ?_
    refine ws_dconst0 X d_M_moves_48 ?_
    refine ws_callV0 X (m_M_push _ _ _ F dd hF hF8 hD z2) cv_M_push ml_M_300 ob8 rfl rfl (Nat.le_of_ble_eq_true rfl) ⟨Nat.le_of_ble_eq_true rfl, Nat.le_of_ble_eq_true rfl⟩ ⟨Nat.zero_le _, Nat.zero_le _⟩ d_M_moves_49 ?_
    refine ws_goto X d_M_moves_52 ?_
    refine ws_vret X d_M_moves_191 ?_
    exact ⟨rfl, by simp [mMovS, if_true]⟩
  · have h1 : o = 2 := h1
    subst h1
    obtain ⟨z1, z2⟩ := q2 rfl
    refine ws_aload_n (i := 0) X d_M_moves_55 rfl rfl ?_
    refine ws_iconst (v := 0) X d_M_moves_56 rfl ?_
    refine ws_aload_n (i := 0) X d_M_moves_57 rfl rfl ?_
    refine ws_getR X fl_M_20 ob8 d_M_moves_58 ?_
    refine ws_iload_n (i := 3) X d_M_moves_61 rfl rfl ?_
    refine ws_lald X ak27 ob27 (vp_in_nI z1 (by omega)) d_M_moves_62 ?_
    rw [hcg]
    refine ws_callS1 X (m_M_doubleOf _ _) cs_M_doubleOf ml_M_226 rfl rfl (Nat.le_of_ble_eq_true rfl) ⟨Nat.le_of_ble_eq_true rfl, Nat.le_of_ble_eq_true rfl⟩ ⟨Nat.zero_le _, Nat.zero_le _⟩ d_M_moves_63 ?_
    refine ws_callV0 X (m_M_push _ _ _ F dd hF hF8 hD z2) cv_M_push ml_M_300 ob8 rfl rfl (Nat.le_of_ble_eq_true rfl) ⟨Nat.le_of_ble_eq_true rfl, Nat.le_of_ble_eq_true rfl⟩ ⟨Nat.zero_le _, Nat.zero_le _⟩ d_M_moves_66 ?_
    refine ws_goto X d_M_moves_69 ?_
    refine ws_vret X d_M_moves_191 ?_
    exact ⟨rfl, by simp [mMovS, if_true]⟩
  · have h1 : o = 3 := h1
    subst h1
    obtain ⟨z1, z2⟩ := q3 rfl
    have hing : vp_in (nI (12 * F + g)) 96 := vp_in_nI (by omega) (by omega)
    have hcx := nI_c (i := 12 * F + g) (by omega)
    refine ws_aload_n (i := 0) X d_M_moves_72 rfl rfl ?_
    refine ws_aload_n (i := 0) X d_M_moves_73 rfl rfl ?_
    refine ws_getR X fl_M_100 ob8 d_M_moves_74 ?_
    refine ws_bipush (v := 12) X d_M_moves_77 rfl ?_
    refine ws_iload_n (i := 1) X d_M_moves_79 rfl rfl ?_
    refine ws_imul X d_M_moves_80 ?_
    refine ws_iload_n (i := 3) X d_M_moves_81 rfl rfl ?_
    refine ws_iadd X d_M_moves_82 ?_
    rw [hxg]
    refine ws_iald X ak53 ob53 (hing) d_M_moves_83 ?_
    rw [hcx]
    refine ws_aload_n (i := 0) X d_M_moves_84 rfl rfl ?_
    refine ws_getR X fl_M_103 ob8 d_M_moves_85 ?_
    refine ws_bipush (v := 12) X d_M_moves_88 rfl ?_
    refine ws_iload_n (i := 1) X d_M_moves_90 rfl rfl ?_
    refine ws_imul X d_M_moves_91 ?_
    refine ws_iload_n (i := 3) X d_M_moves_92 rfl rfl ?_
    refine ws_iadd X d_M_moves_93 ?_
    rw [hxg]
    refine ws_dald X ak54 ob54 (hing) d_M_moves_94 ?_
    rw [hcx]
    refine ws_callV0 X (m_M_push _ _ _ F dd hF hF8 hD z2) cv_M_push ml_M_300 ob8 rfl rfl (Nat.le_of_ble_eq_true rfl) ⟨Nat.le_of_ble_eq_true rfl, Nat.le_of_ble_eq_true rfl⟩ ⟨Nat.zero_le _, Nat.zero_le _⟩ d_M_moves_95 ?_
    refine ws_goto X d_M_moves_98 ?_
    refine ws_vret X d_M_moves_191 ?_
    exact ⟨rfl, by simp [mMovS, if_true]⟩
  · have h1 : o = 4 := h1
    subst h1
    obtain ⟨z1, z2⟩ := q4 rfl
    obtain ⟨dd, rfl⟩ : ∃ k, dd = k + 1 := ⟨dd - 1, by omega⟩
    have hing : vp_in (nI (12 * F + g)) 96 := vp_in_nI (by omega) (by omega)
    have hcx := nI_c (i := 12 * F + g) (by omega)
    have hin0 : vp_in (nI (12 * F + 6 + dd)) 96 := vp_in_nI (by omega) (by omega)
    have hc0 := nI_c (i := 12 * F + 6 + dd) (by omega)
    refine ws_aload_n (i := 0) X d_M_moves_101 rfl rfl ?_
    refine ws_callV1 X (m_M_pop S F dd hF hF8 hD (by omega)) cv_M_pop ml_M_285 ob8 rfl rfl (Nat.le_of_ble_eq_true rfl) ⟨Nat.le_of_ble_eq_true rfl, Nat.le_of_ble_eq_true rfl⟩ ⟨Nat.zero_le _, Nat.zero_le _⟩ d_M_moves_102 ?_
    refine ws_ist_4 X rfl d_M_moves_105 (by decide) ?_
    refine ws_aload_n (i := 0) X d_M_moves_107 rfl rfl ?_
    refine ws_getR X fl_M_100 ob8 d_M_moves_108 ?_
    refine ws_bipush (v := 12) X d_M_moves_111 rfl ?_
    refine ws_iload_n (i := 1) X d_M_moves_113 rfl rfl ?_
    refine ws_imul X d_M_moves_114 ?_
    refine ws_iload_n (i := 3) X d_M_moves_115 rfl rfl ?_
    refine ws_iadd X d_M_moves_116 ?_
    rw [hxg]
    refine ws_aload_n (i := 0) X d_M_moves_117 rfl rfl ?_
    refine ws_getR X fl_M_100 ob8 d_M_moves_118 ?_
    refine ws_iload (i := 4) X d_M_moves_121 rfl ?_
    refine ws_iald X ak53 ob53 (hin0) d_M_moves_123 ?_
    rw [hc0, mPop_o _ _ _ _ _ _ (by decide)]
    refine ws_iast X ak53 ob53 (hing) d_M_moves_124 ?_
    rw [hcx]
    refine ws_aload_n (i := 0) X d_M_moves_125 rfl rfl ?_
    refine ws_getR X fl_M_103 ob8 d_M_moves_126 ?_
    refine ws_bipush (v := 12) X d_M_moves_129 rfl ?_
    refine ws_iload_n (i := 1) X d_M_moves_131 rfl rfl ?_
    refine ws_imul X d_M_moves_132 ?_
    refine ws_iload_n (i := 3) X d_M_moves_133 rfl rfl ?_
    refine ws_iadd X d_M_moves_134 ?_
    rw [hxg]
    refine ws_aload_n (i := 0) X d_M_moves_135 rfl rfl ?_
    refine ws_getR X fl_M_103 ob8 d_M_moves_136 ?_
    refine ws_iload (i := 4) X d_M_moves_139 rfl ?_
    refine ws_dald X ak54 ob54 (hin0) d_M_moves_141 ?_
    rw [hc0]
    refine ws_dast X ak54 ob54 (hing) d_M_moves_142 ?_
    rw [hcx]
    refine WS_is (mStoS S F dd g) rfl ?_
    refine ws_goto X d_M_moves_143 ?_
    refine ws_vret X d_M_moves_191 ?_
    exact ⟨rfl, by simp [mMovS, if_true]⟩
  · have h1 : o = 5 := h1
    subst h1
    obtain ⟨z1, z2⟩ := q5 rfl
    obtain ⟨dd, rfl⟩ : ∃ k, dd = k + 1 := ⟨dd - 1, by omega⟩
    have hin0 : vp_in (nI (12 * F + 6 + dd)) 96 := vp_in_nI (by omega) (by omega)
    have hc0 := nI_c (i := 12 * F + 6 + dd) (by omega)
    have hx5 : (12 : Int32) * nI F + 5 + nI (dd + 1) = nI (12 * F + 6 + dd) := by rw [show (12 : Int32) = nI 12 from rfl, show (5 : Int32) = nI 5 from rfl, ixN, nI_add]; congr 1; omega
    refine ws_bipush (v := 12) X d_M_moves_146 rfl ?_
    refine ws_iload_n (i := 1) X d_M_moves_148 rfl rfl ?_
    refine ws_imul X d_M_moves_149 ?_
    refine ws_iconst (v := 5) X d_M_moves_150 rfl ?_
    refine ws_iadd X d_M_moves_151 ?_
    refine ws_aload_n (i := 0) X d_M_moves_152 rfl rfl ?_
    refine ws_getR X fl_M_97 ob8 d_M_moves_153 ?_
    refine ws_iload_n (i := 1) X d_M_moves_156 rfl rfl ?_
    refine ws_iald X ak52 ob52 (hinF) d_M_moves_157 ?_
    rw [hcF, hD]
    refine ws_iadd X d_M_moves_158 ?_
    rw [hx5]
    refine ws_ist_4 X rfl d_M_moves_159 (by decide) ?_
    refine ws_aload_n (i := 0) X d_M_moves_161 rfl rfl ?_
    refine ws_aload_n (i := 0) X d_M_moves_162 rfl rfl ?_
    refine ws_getR X fl_M_100 ob8 d_M_moves_163 ?_
    refine ws_iload (i := 4) X d_M_moves_166 rfl ?_
    refine ws_iald X ak53 ob53 (hin0) d_M_moves_168 ?_
    rw [hc0]
    refine ws_aload_n (i := 0) X d_M_moves_169 rfl rfl ?_
    refine ws_getR X fl_M_103 ob8 d_M_moves_170 ?_
    refine ws_iload (i := 4) X d_M_moves_173 rfl ?_
    refine ws_dald X ak54 ob54 (hin0) d_M_moves_175 ?_
    rw [hc0]
    refine ws_callV0 X (m_M_push _ _ _ F (dd + 1) hF hF8 hD z2) cv_M_push ml_M_300 ob8 rfl rfl (Nat.le_of_ble_eq_true rfl) ⟨Nat.le_of_ble_eq_true rfl, Nat.le_of_ble_eq_true rfl⟩ ⟨Nat.zero_le _, Nat.zero_le _⟩ d_M_moves_176 ?_
    refine ws_goto X d_M_moves_179 ?_
    refine ws_vret X d_M_moves_191 ?_
    exact ⟨rfl, by simp [mMovS, if_true]⟩
  · have h1 : o = 6 := h1
    subst h1
    have z2 := q6 rfl
    obtain ⟨dd, rfl⟩ : ∃ k, dd = k + 1 := ⟨dd - 1, by omega⟩
    refine ws_aload_n (i := 0) X d_M_moves_182 rfl rfl ?_
    refine ws_callV1 X (m_M_pop S F dd hF hF8 hD (by omega)) cv_M_pop ml_M_285 ob8 rfl rfl (Nat.le_of_ble_eq_true rfl) ⟨Nat.le_of_ble_eq_true rfl, Nat.le_of_ble_eq_true rfl⟩ ⟨Nat.zero_le _, Nat.zero_le _⟩ d_M_moves_183 ?_
    refine ws_ist_4 X rfl d_M_moves_186 (by decide) ?_
    refine ws_goto X d_M_moves_188 ?_
    refine ws_vret X d_M_moves_191 ?_
    exact ⟨rfl, by simp [mMovS, if_true]⟩
  · have g1_0 : ¬ o = 1 := fun z => by rw [z] at h1; exact absurd h1 (by decide)
    have g1_1 : ¬ o = 2 := fun z => by rw [z] at h1; exact absurd h1 (by decide)
    have g1_2 : ¬ o = 3 := fun z => by rw [z] at h1; exact absurd h1 (by decide)
    have g1_3 : ¬ o = 4 := fun z => by rw [z] at h1; exact absurd h1 (by decide)
    have g1_4 : ¬ o = 5 := fun z => by rw [z] at h1; exact absurd h1 (by decide)
    have g1_5 : ¬ o = 6 := fun z => by rw [z] at h1; exact absurd h1 (by decide)
    refine ws_vret X d_M_moves_191 ?_
    exact ⟨rfl, by simp [mMovS, eq_false g1_0, eq_false g1_1, eq_false g1_2, eq_false g1_3, eq_false g1_4, eq_false g1_5]⟩

def mGv1 (S : MS) (F dd : Nat) : MS := wI (mPopS S F dd) 8 0 36 (nI F)
def mGv0 (S : MS) (dd q : Nat) : MS := wL (mGv1 S 0 dd) 8 0 43 (if S.1 33 0 q = 1 then (S.1 53 0 (6 + dd)).toInt64 else mDl (S.2.2 54 0 (6 + dd)))
def mGvN (S : MS) (F dd d2 : Nat) : MS := mPushS (mGv1 S (F + 1) dd) (S.1 53 0 (12 * (F + 1) + 6 + dd)) (S.2.2 54 0 (12 * (F + 1) + 6 + dd)) F d2
theorem m_M_gives_0 (S : MS) (dd q : Nat) (hF : S.1 8 0 36 = nI (0 + 1)) (hD : S.1 52 0 0 = nI (dd + 1)) (hd : dd < 6) (hq : q < 5) : MetE y_M_gives c_M_gives 7 (none) 2 44 [.inr (8, 0), .inl (.int (nI 0)), .inl (.int (nI q))] S (none) (mGv0 S dd q) := by
  refine MetS.of (lv0 := [some (.inr (8, 0)), some (.inl (.int (nI 0))), some (.inl (.int (nI q))), none, none, none, none]) pn_M rfl (Nat.le_of_ble_eq_true rfl) (fun p0 l0 e0 s0 m0 args below meth c0 G X => ?_)
  have hin0 : vp_in (nI (12 * 0 + 6 + dd)) 96 := vp_in_nI (by omega) (by omega)
  have hc0 := nI_c (i := 12 * 0 + 6 + dd) (by omega)
  have hcq := nI_c (i := q) (by omega)
  have hinq : vp_in (nI q) 5 := vp_in_nI hq (by omega)
  have hF2 := mPop_F (F := 0) (dd := dd) hF
  have e33 : (mGv1 S 0 dd).1 33 0 q = S.1 33 0 q := (wI_o _ _ _ _ _ _ _ _ (fun z => absurd z.1 (by decide))).trans (mPop_o _ _ _ _ _ _ (by decide))
  refine ws_aload_n (i := 0) X d_M_gives_0 rfl rfl ?_
  refine ws_callV1 X (m_M_pop S 0 dd hF (by decide) hD hd) cv_M_pop ml_M_285 ob8 rfl rfl (Nat.le_of_ble_eq_true rfl) ⟨Nat.le_of_ble_eq_true rfl, Nat.le_of_ble_eq_true rfl⟩ ⟨Nat.zero_le _, Nat.zero_le _⟩ d_M_gives_1 ?_
  refine ws_istn_3 X rfl d_M_gives_4 (by decide) ?_
  refine ws_aload_n (i := 0) X d_M_gives_5 rfl rfl ?_
  refine ws_getR X fl_M_100 ob8 d_M_gives_6 ?_
  refine ws_iload_n (i := 3) X d_M_gives_9 rfl rfl ?_
  refine ws_iald X ak53 ob53 (hin0) d_M_gives_10 ?_
  rw [hc0, mPop_o _ _ _ _ _ _ (by decide)]
  refine ws_ist_4 X rfl d_M_gives_11 (by decide) ?_
  refine ws_aload_n (i := 0) X d_M_gives_13 rfl rfl ?_
  refine ws_getR X fl_M_103 ob8 d_M_gives_14 ?_
  refine ws_iload_n (i := 3) X d_M_gives_17 rfl rfl ?_
  refine ws_dald X ak54 ob54 (hin0) d_M_gives_18 ?_
  rw [hc0, mPop_2]
  refine ws_dst_5 X rfl d_M_gives_19 (by decide) ?_
  refine ws_aload_n (i := 0) X d_M_gives_21 rfl rfl ?_
  refine ws_dup X d_M_gives_22 rfl ?_
  refine ws_getI X fl_M_243 ob8 d_M_gives_23 ?_
  refine ws_iconst (v := 1) X d_M_gives_26 rfl ?_
  refine ws_isub X d_M_gives_27 ?_
  rw [hF2, nI_m1]
  refine ws_putI X fl_M_243 ob8 d_M_gives_28 ?_
  refine WS_is (mGv1 S 0 dd) rfl ?_
  refine ws_iload_n (i := 1) X d_M_gives_31 rfl rfl ?_
  refine ws_if_ne X d_M_gives_32 (fun h32 => ?_) (fun h32 => ?_)
  · exact absurd rfl h32
  · refine ws_aload_n (i := 0) X d_M_gives_35 rfl rfl ?_
    refine ws_aload_n (i := 0) X d_M_gives_36 rfl rfl ?_
    refine ws_getR X fl_M_39 ob8 d_M_gives_37 ?_
    refine ws_iload_n (i := 2) X d_M_gives_40 rfl rfl ?_
    refine ws_iald X ak33 ob33 (hinq) d_M_gives_41 ?_
    rw [hcq, e33]
    refine ws_iconst (v := 1) X d_M_gives_42 rfl ?_
    refine ws_icmp_ne X d_M_gives_43 (fun h43 => ?_) (fun h43 => ?_)
    · refine ws_dload (i := 5) X d_M_gives_52 rfl ?_
      refine ws_callS1 X (m_JD_doubleToLongBits _ _) cs_JD_doubleToLongBits ml_M_237 rfl rfl (Nat.le_of_ble_eq_true rfl) ⟨Nat.le_of_ble_eq_true rfl, Nat.le_of_ble_eq_true rfl⟩ ⟨Nat.zero_le _, Nat.zero_le _⟩ d_M_gives_54 ?_
      refine ws_putL X fl_M_258 ob8 d_M_gives_57 ?_
      refine ws_goto X d_M_gives_60 ?_
      refine ws_vret X d_M_gives_71 ?_
      exact ⟨rfl, by simp [mGv0, eq_true h32, eq_false h43]⟩
    · refine ws_iload (i := 4) X d_M_gives_46 rfl ?_
      refine ws_i2l X d_M_gives_48 ?_
      refine ws_goto X d_M_gives_49 ?_
      refine ws_putL X fl_M_258 ob8 d_M_gives_57 ?_
      refine ws_goto X d_M_gives_60 ?_
      refine ws_vret X d_M_gives_71 ?_
      exact ⟨rfl, by simp [mGv0, eq_true h32, eq_true h43]⟩

theorem m_M_gives_n (S : MS) (F dd d2 q : Nat) (hF : S.1 8 0 36 = nI (F + 1 + 1)) (hF8 : F + 1 < 8) (hD : S.1 52 0 (F + 1) = nI (dd + 1)) (hd : dd < 6) (hq : q < 5) (hD2 : S.1 52 0 F = nI d2) (hd2 : d2 < 6) : MetE y_M_gives c_M_gives 7 (none) 2 44 [.inr (8, 0), .inl (.int (nI (F + 1))), .inl (.int (nI q))] S (none) (mGvN S F dd d2) := by
  refine MetS.of (lv0 := [some (.inr (8, 0)), some (.inl (.int (nI (F + 1)))), some (.inl (.int (nI q))), none, none, none, none]) pn_M rfl (Nat.le_of_ble_eq_true rfl) (fun p0 l0 e0 s0 m0 args below meth c0 G X => ?_)
  have hin0 : vp_in (nI (12 * (F + 1) + 6 + dd)) 96 := vp_in_nI (by omega) (by omega)
  have hc0 := nI_c (i := 12 * (F + 1) + 6 + dd) (by omega)
  have hF2 := mPop_F (F := F + 1) (dd := dd) hF
  have e52 : (mGv1 S (F + 1) dd).1 52 0 F = nI d2 := ((wI_o _ _ _ _ _ _ _ _ (fun z => absurd z.1 (by decide))).trans (wI_o _ _ _ _ _ _ _ _ (fun z => by have := z.2.2; omega))).trans hD2
  have e36 : (mGv1 S (F + 1) dd).1 8 0 36 = nI (F + 1) := wI_rd ..
  refine ws_aload_n (i := 0) X d_M_gives_0 rfl rfl ?_
  refine ws_callV1 X (m_M_pop S (F + 1) dd hF hF8 hD hd) cv_M_pop ml_M_285 ob8 rfl rfl (Nat.le_of_ble_eq_true rfl) ⟨Nat.le_of_ble_eq_true rfl, Nat.le_of_ble_eq_true rfl⟩ ⟨Nat.zero_le _, Nat.zero_le _⟩ d_M_gives_1 ?_
  refine ws_istn_3 X rfl d_M_gives_4 (by decide) ?_
  refine ws_aload_n (i := 0) X d_M_gives_5 rfl rfl ?_
  refine ws_getR X fl_M_100 ob8 d_M_gives_6 ?_
  refine ws_iload_n (i := 3) X d_M_gives_9 rfl rfl ?_
  refine ws_iald X ak53 ob53 (hin0) d_M_gives_10 ?_
  rw [hc0, mPop_o _ _ _ _ _ _ (by decide)]
  refine ws_ist_4 X rfl d_M_gives_11 (by decide) ?_
  refine ws_aload_n (i := 0) X d_M_gives_13 rfl rfl ?_
  refine ws_getR X fl_M_103 ob8 d_M_gives_14 ?_
  refine ws_iload_n (i := 3) X d_M_gives_17 rfl rfl ?_
  refine ws_dald X ak54 ob54 (hin0) d_M_gives_18 ?_
  rw [hc0, mPop_2]
  refine ws_dst_5 X rfl d_M_gives_19 (by decide) ?_
  refine ws_aload_n (i := 0) X d_M_gives_21 rfl rfl ?_
  refine ws_dup X d_M_gives_22 rfl ?_
  refine ws_getI X fl_M_243 ob8 d_M_gives_23 ?_
  refine ws_iconst (v := 1) X d_M_gives_26 rfl ?_
  refine ws_isub X d_M_gives_27 ?_
  rw [hF2, nI_m1]
  refine ws_putI X fl_M_243 ob8 d_M_gives_28 ?_
  refine WS_is (mGv1 S (F + 1) dd) rfl ?_
  refine ws_iload_n (i := 1) X d_M_gives_31 rfl rfl ?_
  refine ws_if_ne X d_M_gives_32 (fun h32 => ?_) (fun h32 => ?_)
  · refine ws_aload_n (i := 0) X d_M_gives_63 rfl rfl ?_
    refine ws_iload (i := 4) X d_M_gives_64 rfl ?_
    refine ws_dload (i := 5) X d_M_gives_66 rfl ?_
    refine ws_callV0 X (m_M_push _ _ _ F d2 e36 (by omega) e52 hd2) cv_M_push ml_M_300 ob8 rfl rfl (Nat.le_of_ble_eq_true rfl) ⟨Nat.le_of_ble_eq_true rfl, Nat.le_of_ble_eq_true rfl⟩ ⟨Nat.zero_le _, Nat.zero_le _⟩ d_M_gives_68 ?_
    refine ws_vret X d_M_gives_71 ?_
    exact ⟨rfl, rfl⟩
  · exact absurd h32 (nI_ne0 (by omega) (by omega))

def clGo (F a : Nat) : Nat → Nat → MS → MS
  | 0, _, S => S
  | n + 1, i, S => clGo F a n (i + 1) (wD (wI S 53 0 (12 * F + 12 + i) (S.1 53 0 (a + i))) 54 0 (12 * F + 12 + i) (S.2.2 54 0 (a + i)))
section L51
variable {p : Program} {l : Launch} {e0 : Env} {s : State} {m0 : MethodId} {args : Array Value} {below : List Frame} {meth : Method} {c0 : Code} {G : GG} {A : Nat → Prop} {Q : State → Prop}
theorem l_cl (X : CX p s m0 args meth c0 G A c_M_calls y_M_calls.cls 5 (none)) {F a t q : Nat} (hF8 : F < 7) (ha : a + t ≤ 96) (ht : t ≤ 6) (hq : q < 5) : ∀ (n i : Nat) (S : MS), S.1 31 0 q = nI t → i + n = t → (∀ j : Int32, WS p l e0 (rmS 1 22) s m0 args below meth c0 G A 5 0 0 Q 128 [some (.inr (8, 0)), some (.inl (.int (nI F))), some (.inl (.int (nI q))), some (.inl (.int (nI a))), some (.inl (.int j))] [] (clGo F a n i S)) → WS p l e0 (rmS 1 22) s m0 args below meth c0 G A 5 0 0 Q 63 [some (.inr (8, 0)), some (.inl (.int (nI F))), some (.inl (.int (nI q))), some (.inl (.int (nI a))), some (.inl (.int (nI i)))] [] (S) := by
  intro n
  have hcq := nI_c (i := q) (by omega)
  have hinq : vp_in (nI q) 5 := vp_in_nI hq (by omega)
  induction n with
  | zero =>
    intro i S hT hi' K
    have hh : S.1 31 0 q ≤ nI i := by rw [hT, nI_leI (by omega) (by omega)]; omega
    refine ws_iload (i := 4) X d_M_calls_63 rfl ?_
    refine ws_aload_n (i := 0) X d_M_calls_65 rfl rfl ?_
    refine ws_getR X fl_M_33 ob8 d_M_calls_66 ?_
    refine ws_iload_n (i := 2) X d_M_calls_69 rfl rfl ?_
    refine ws_iald X ak31 ob31 (hinq) d_M_calls_70 ?_
    rw [hcq]
    refine ws_icmp_ge X d_M_calls_71 (fun h71 => ?_) (fun h71 => ?_)
    · exact K _
    · exact absurd hh h71
  | succ n ih =>
    intro i S hT hi' K
    have hh : ¬ S.1 31 0 q ≤ nI i := by rw [hT, nI_leI (by omega) (by omega)]; omega
    have hx : (12 : Int32) * nI F + 12 + nI i = nI (12 * F + 12 + i) := by rw [show (12 : Int32) = nI 12 from rfl, ixN, nI_add]
    have hin : vp_in (nI (12 * F + 12 + i)) 96 := vp_in_nI (by omega) (by omega)
    have hc := nI_c (i := 12 * F + 12 + i) (by omega)
    have hina : vp_in (nI (a + i)) 96 := vp_in_nI (by omega) (by omega)
    have hca := nI_c (i := a + i) (by omega)
    rw [clGo] at K
    refine ws_iload (i := 4) X d_M_calls_63 rfl ?_
    refine ws_aload_n (i := 0) X d_M_calls_65 rfl rfl ?_
    refine ws_getR X fl_M_33 ob8 d_M_calls_66 ?_
    refine ws_iload_n (i := 2) X d_M_calls_69 rfl rfl ?_
    refine ws_iald X ak31 ob31 (hinq) d_M_calls_70 ?_
    rw [hcq]
    refine ws_icmp_ge X d_M_calls_71 (fun h71 => ?_) (fun h71 => ?_)
    · exact absurd h71 hh
    · refine ws_aload_n (i := 0) X d_M_calls_74 rfl rfl ?_
      refine ws_getR X fl_M_100 ob8 d_M_calls_75 ?_
      refine ws_bipush (v := 12) X d_M_calls_78 rfl ?_
      refine ws_iload_n (i := 1) X d_M_calls_80 rfl rfl ?_
      refine ws_imul X d_M_calls_81 ?_
      refine ws_bipush (v := 12) X d_M_calls_82 rfl ?_
      refine ws_iadd X d_M_calls_84 ?_
      refine ws_iload (i := 4) X d_M_calls_85 rfl ?_
      refine ws_iadd X d_M_calls_87 ?_
      rw [hx]
      refine ws_aload_n (i := 0) X d_M_calls_88 rfl rfl ?_
      refine ws_getR X fl_M_100 ob8 d_M_calls_89 ?_
      refine ws_iload_n (i := 3) X d_M_calls_92 rfl rfl ?_
      refine ws_iload (i := 4) X d_M_calls_93 rfl ?_
      refine ws_iadd X d_M_calls_95 ?_
      rw [nI_add]
      refine ws_iald X ak53 ob53 (hina) d_M_calls_96 ?_
      rw [hca]
      refine ws_iast X ak53 ob53 (hin) d_M_calls_97 ?_
      rw [hc]
      refine ws_aload_n (i := 0) X d_M_calls_98 rfl rfl ?_
      refine ws_getR X fl_M_103 ob8 d_M_calls_99 ?_
      refine ws_bipush (v := 12) X d_M_calls_102 rfl ?_
      refine ws_iload_n (i := 1) X d_M_calls_104 rfl rfl ?_
      refine ws_imul X d_M_calls_105 ?_
      refine ws_bipush (v := 12) X d_M_calls_106 rfl ?_
      refine ws_iadd X d_M_calls_108 ?_
      refine ws_iload (i := 4) X d_M_calls_109 rfl ?_
      refine ws_iadd X d_M_calls_111 ?_
      rw [hx]
      refine ws_aload_n (i := 0) X d_M_calls_112 rfl rfl ?_
      refine ws_getR X fl_M_103 ob8 d_M_calls_113 ?_
      refine ws_iload_n (i := 3) X d_M_calls_116 rfl rfl ?_
      refine ws_iload (i := 4) X d_M_calls_117 rfl ?_
      refine ws_iadd X d_M_calls_119 ?_
      rw [nI_add]
      refine ws_dald X ak54 ob54 (hina) d_M_calls_120 ?_
      rw [hca]
      refine ws_dast X ak54 ob54 (hin) d_M_calls_121 ?_
      rw [hc]
      refine ws_iinc_4 X rfl d_M_calls_122 rfl (by decide) ?_
      refine ws_goto X d_M_calls_125 ?_
      rw [nI_inc]; exact ih (i + 1) _ ((wI_o S 53 0 (12 * F + 12 + i) 31 0 q (S.1 53 0 (a + i)) (fun z => absurd z.1 (by decide))).trans hT) (by omega) K
end L51
theorem mEnS_o (S : MS) (q : Int32) (F b c d : Nat) (h8 : ¬ (b = 8 ∧ c = 0 ∧ d = 36)) (h8' : ¬ (b = 8 ∧ c = 0 ∧ d = 48)) (h0 : b ≠ 50) (h1 : b ≠ 51) (h2 : b ≠ 52) (h3 : b ≠ 53) : (mEnS S q F).1 b c d = S.1 b c d := by
  rw [mEnS, wI_o _ _ _ _ _ _ _ _ h8', mEn1, wI_o _ _ _ _ _ _ _ _ h8, enGo_o _ _ _ _ h3, mEn0, wI_o _ _ _ _ _ _ _ _ (fun z => h2 z.1), wI_o _ _ _ _ _ _ _ _ (fun z => h1 z.1), wI_o _ _ _ _ _ _ _ _ (fun z => h0 z.1)]
def mCl0 (S : MS) (F dd : Nat) : MS := wI (wI S 51 0 F (S.1 51 0 F + 2)) 52 0 F (nI dd)
def mClS (S : MS) (F dd t q : Nat) : MS := clGo F (12 * F + 6 + dd) t 0 (mEnS (mCl0 S F dd) (nI q) (F + 1))
theorem m_M_calls_8 (S : MS) (q : Nat) (hF : S.1 8 0 36 = nI (7 + 1)) : MetE y_M_calls c_M_calls 5 (none) 1 22 [.inr (8, 0), .inl (.int (nI 7)), .inl (.int (nI q))] S (none) (mFailS S 4 7) := by
  refine MetS.of (lv0 := [some (.inr (8, 0)), some (.inl (.int (nI 7))), some (.inl (.int (nI q))), none, none]) pn_M rfl (Nat.le_of_ble_eq_true rfl) (fun p0 l0 e0 s0 m0 args below meth c0 G X => ?_)
  refine ws_aload_n (i := 0) X d_M_calls_0 rfl rfl ?_
  refine ws_getI X fl_M_243 ob8 d_M_calls_1 ?_
  refine ws_bipush (v := 8) X d_M_calls_4 rfl ?_
  rw [hF]
  refine ws_icmp_ne X d_M_calls_6 (fun h6 => ?_) (fun h6 => ?_)
  · exact absurd rfl h6
  · refine ws_aload_n (i := 0) X d_M_calls_9 rfl rfl ?_
    refine ws_iconst (v := 4) X d_M_calls_10 rfl ?_
    refine ws_callV0 X (m_M_fails _ _ 7 hF (by decide)) cv_M_fails ml_M_275 ob8 rfl rfl (Nat.le_of_ble_eq_true rfl) ⟨Nat.le_of_ble_eq_true rfl, Nat.le_of_ble_eq_true rfl⟩ ⟨Nat.zero_le _, Nat.zero_le _⟩ d_M_calls_11 ?_
    refine ws_vret X d_M_calls_14 ?_
    exact ⟨rfl, rfl⟩

theorem m_M_calls_n (S : MS) (F dd t q : Nat) (hF : S.1 8 0 36 = nI (F + 1)) (hF8 : F < 7) (hD : S.1 52 0 F = nI (dd + t)) (hd : dd + t ≤ 6) (hq : q < 5) (hT : S.1 31 0 q = nI t) : MetE y_M_calls c_M_calls 5 (none) 1 22 [.inr (8, 0), .inl (.int (nI F)), .inl (.int (nI q))] S (none) (mClS S F dd t q) := by
  refine MetS.of (lv0 := [some (.inr (8, 0)), some (.inl (.int (nI F))), some (.inl (.int (nI q))), none, none]) pn_M rfl (Nat.le_of_ble_eq_true rfl) (fun p0 l0 e0 s0 m0 args below meth c0 G X => ?_)
  have hcF := nI_c (i := F) (by omega)
  have hinF : vp_in (nI F) 8 := vp_in_nI (by omega) (by omega)
  have hcq := nI_c (i := q) (by omega)
  have hinq : vp_in (nI q) 5 := vp_in_nI hq (by omega)
  have hx : (12 : Int32) * nI F + 6 + nI dd = nI (12 * F + 6 + dd) := by rw [show (12 : Int32) = nI 12 from rfl, show (6 : Int32) = nI 6 from rfl, ixN, nI_add]
  have e52 : (wI S 51 0 F (S.1 51 0 F + 2)).1 52 0 F = nI (dd + t) := (wI_o _ _ _ _ _ _ _ _ (fun z => absurd z.1 (by decide))).trans hD
  have e31 : (wI S 51 0 F (S.1 51 0 F + 2)).1 31 0 q = nI t := (wI_o _ _ _ _ _ _ _ _ (fun z => absurd z.1 (by decide))).trans hT
  have eS : nI (dd + t) - nI t = nI dd := by rw [← nI_add, Int32.add_sub_cancel]
  have g36 : (mCl0 S F dd).1 8 0 36 = nI (F + 1) := ((wI_o _ _ _ _ _ _ _ _ (fun z => absurd z.1 (by decide))).trans (wI_o _ _ _ _ _ _ _ _ (fun z => absurd z.1 (by decide)))).trans hF
  have g31 : (mEnS (mCl0 S F dd) (nI q) (F + 1)).1 31 0 q = nI t := (mEnS_o _ _ _ _ _ _ (fun z => absurd z.1 (by decide)) (fun z => absurd z.1 (by decide)) (by decide) (by decide) (by decide) (by decide)).trans ((wI_o _ _ _ _ _ _ _ _ (fun z => absurd z.1 (by decide))).trans e31)
  have hne : ¬ nI (F + 1) = 8 := fun z => by rw [show (8 : Int32) = nI 8 from rfl, nI_eq (by omega) (by omega)] at z; omega
  refine ws_aload_n (i := 0) X d_M_calls_0 rfl rfl ?_
  refine ws_getI X fl_M_243 ob8 d_M_calls_1 ?_
  refine ws_bipush (v := 8) X d_M_calls_4 rfl ?_
  rw [hF]
  refine ws_icmp_ne X d_M_calls_6 (fun h6 => ?_) (fun h6 => ?_)
  · refine ws_aload_n (i := 0) X d_M_calls_15 rfl rfl ?_
    refine ws_getR X fl_M_94 ob8 d_M_calls_16 ?_
    refine ws_iload_n (i := 1) X d_M_calls_19 rfl rfl ?_
    refine ws_dup2_11 X d_M_calls_20 rfl rfl ?_
    refine ws_iald X ak51 ob51 (hinF) d_M_calls_21 ?_
    rw [hcF]
    refine ws_iconst (v := 2) X d_M_calls_22 rfl ?_
    refine ws_iadd X d_M_calls_23 ?_
    refine ws_iast X ak51 ob51 (hinF) d_M_calls_24 ?_
    rw [hcF]
    refine ws_aload_n (i := 0) X d_M_calls_25 rfl rfl ?_
    refine ws_getR X fl_M_97 ob8 d_M_calls_26 ?_
    refine ws_iload_n (i := 1) X d_M_calls_29 rfl rfl ?_
    refine ws_dup2_11 X d_M_calls_30 rfl rfl ?_
    refine ws_iald X ak52 ob52 (hinF) d_M_calls_31 ?_
    rw [hcF, e52]
    refine ws_aload_n (i := 0) X d_M_calls_32 rfl rfl ?_
    refine ws_getR X fl_M_33 ob8 d_M_calls_33 ?_
    refine ws_iload_n (i := 2) X d_M_calls_36 rfl rfl ?_
    refine ws_iald X ak31 ob31 (hinq) d_M_calls_37 ?_
    rw [hcq, e31]
    refine ws_isub X d_M_calls_38 ?_
    rw [eS]
    refine ws_iast X ak52 ob52 (hinF) d_M_calls_39 ?_
    rw [hcF]
    refine WS_is (mCl0 S F dd) rfl ?_
    refine ws_bipush (v := 12) X d_M_calls_40 rfl ?_
    refine ws_iload_n (i := 1) X d_M_calls_42 rfl rfl ?_
    refine ws_imul X d_M_calls_43 ?_
    refine ws_bipush (v := 6) X d_M_calls_44 rfl ?_
    refine ws_iadd X d_M_calls_46 ?_
    refine ws_aload_n (i := 0) X d_M_calls_47 rfl rfl ?_
    refine ws_getR X fl_M_97 ob8 d_M_calls_48 ?_
    refine ws_iload_n (i := 1) X d_M_calls_51 rfl rfl ?_
    refine ws_iald X ak52 ob52 (hinF) d_M_calls_52 ?_
    rw [hcF, show (mCl0 S F dd).1 52 0 F = nI dd from wI_rd ..]
    refine ws_iadd X d_M_calls_53 ?_
    rw [hx]
    refine ws_istn_3 X rfl d_M_calls_54 (by decide) ?_
    refine ws_aload_n (i := 0) X d_M_calls_55 rfl rfl ?_
    refine ws_iload_n (i := 2) X d_M_calls_56 rfl rfl ?_
    refine ws_callV0 X (m_M_enter _ _ (F + 1) g36 (by omega)) cv_M_enter ml_M_268 ob8 rfl rfl (Nat.le_of_ble_eq_true rfl) ⟨Nat.le_of_ble_eq_true rfl, Nat.le_of_ble_eq_true rfl⟩ ⟨Nat.zero_le _, Nat.zero_le _⟩ d_M_calls_57 ?_
    refine ws_iconst (v := 0) X d_M_calls_60 rfl ?_
    refine ws_ist_4 X rfl d_M_calls_61 (by decide) ?_
    refine l_cl X hF8 (a := 12 * F + 6 + dd) (by omega) (by omega) hq t 0 _ g31 (by omega) (fun j => ?_)
    refine ws_vret X d_M_calls_128 ?_
    exact ⟨rfl, rfl⟩
  · exact absurd h6 hne


