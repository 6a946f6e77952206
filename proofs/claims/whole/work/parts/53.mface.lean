/-! the model's face, all but call -/
theorem mIn_k {v : Int32} {k : Nat} (hk : k < 2 ^ 31) (h : mIn v 0 (nI k - 1) = true) : ∃ j, j < k ∧ v = nI j := by
  rcases k with _ | k
  · exfalso
    simp only [mIn, Bool.and_eq_true, decide_eq_true_eq] at h
    have h1 := Int32.le_iff_toInt_le.mp (Int32.not_lt.mp h.1)
    have h2 := Int32.le_iff_toInt_le.mp (Int32.not_lt.mp h.2)
    have e : (nI 0 - 1).toInt = -1 := by decide
    have e0 : (0 : Int32).toInt = 0 := rfl
    rw [e] at h2; rw [e0] at h1; omega
  · rw [nI_m1] at h
    simp only [mIn, Bool.and_eq_true, decide_eq_true_eq] at h
    obtain ⟨j, hj, e⟩ := nI_of2 (M := nI k) (n := k) (nI_toInt (by omega)) h.1 (Int32.not_lt.mp h.2)
    exact ⟨j, by omega, e⟩
def mTabOk (i : Int32) : Bool := mIn i 0 7
def mTabV (i : Int32) : Int32 := if mTabOk i = true then 1 else -101
def mTabS (S : MS) (i : Int32) (b : Int64) : MS := if mTabOk i = true then wD S 25 0 i.toNatClampNeg (mDo b) else S
theorem m_M_table (S : MS) (i : Int32) (b : Int64) : MetE y_M_table c_M_table 4 ((some .int)) 2 45 [.inr (8, 0), .inl (.int i), .inl (.long b)] S (some (.inl (.int (mTabV i)))) (mTabS S i b) := by
  refine MetS.of (lv0 := [some (.inr (8, 0)), some (.inl (.int i)), some (.inl (.long b)), none]) pn_M rfl (Nat.le_of_ble_eq_true rfl) (fun p0 l0 e0 s0 m0 args below meth c0 G X => ?_)
  refine ws_iload_n (i := 1) X d_M_table_0 rfl rfl ?_
  refine ws_iconst (v := 0) X d_M_table_1 rfl ?_
  refine ws_bipush (v := 7) X d_M_table_2 rfl ?_
  refine ws_callS1 X (m_M_in _ _ _ _) cs_M_in ml_M_106 rfl rfl (Nat.le_of_ble_eq_true rfl) ⟨Nat.le_of_ble_eq_true rfl, Nat.le_of_ble_eq_true rfl⟩ ⟨Nat.zero_le _, Nat.zero_le _⟩ d_M_table_4 ?_
  refine ws_ifB_ne X d_M_table_7 (fun h7 => ?_) (fun h7 => ?_)
  · refine ws_aload_n (i := 0) X d_M_table_13 rfl rfl ?_
    refine ws_getR X fl_M_13 ob8 d_M_table_14 ?_
    refine ws_iload_n (i := 1) X d_M_table_17 rfl rfl ?_
    refine ws_lload_n (i := 2) X d_M_table_18 rfl rfl ?_
    refine ws_callS1 X (m_M_doubleOf _ _) cs_M_doubleOf ml_M_226 rfl rfl (Nat.le_of_ble_eq_true rfl) ⟨Nat.le_of_ble_eq_true rfl, Nat.le_of_ble_eq_true rfl⟩ ⟨Nat.zero_le _, Nat.zero_le _⟩ d_M_table_19 ?_
    refine ws_dast X ak25 ob25 (mIn_in (n := 8) (by assumption) (by decide) (by decide)) d_M_table_22 ?_
    refine ws_iconst (v := 1) X d_M_table_23 rfl ?_
    refine ws_iret X d_M_table_24 ?_
    exact ⟨by simp [mTabV, mTabOk, h7], by simp [mTabS, mTabOk, h7]⟩
  · refine ws_bipush (v := (-101)) X d_M_table_10 rfl ?_
    refine ws_iret X d_M_table_12 ?_
    exact ⟨by simp [mTabV, mTabOk, h7], by simp [mTabS, mTabOk, h7]⟩

def mMethV (S : MS) (m w : Int32) : Int32 := if mIn m 0 (S.1 8 0 9 - 1) = true then (if w = 0 then S.1 31 0 m.toNatClampNeg else if w = 1 then S.1 33 0 m.toNatClampNeg else if w = 2 then S.1 34 0 m.toNatClampNeg else if w = 3 then S.1 35 0 m.toNatClampNeg else if w = 4 then S.1 36 0 m.toNatClampNeg else if w = 5 then S.1 38 0 m.toNatClampNeg else if w = 6 then S.1 30 0 m.toNatClampNeg else if w = 7 then S.1 47 0 m.toNatClampNeg else if w = 8 then bI (decide (S.1 47 0 m.toNatClampNeg = 3)) else -102) else -101
theorem m_M_method (S : MS) (m w : Int32) (k : Nat) (hK : S.1 8 0 9 = nI k) (hk : k ≤ 5) : MetE y_M_method c_M_method 3 ((some .int)) 2 43 [.inr (8, 0), .inl (.int m), .inl (.int w)] S (some (.inl (.int (mMethV S m w)))) (S) := by
  refine MetS.of (lv0 := [some (.inr (8, 0)), some (.inl (.int m)), some (.inl (.int w))]) pn_M rfl (Nat.le_of_ble_eq_true rfl) (fun p0 l0 e0 s0 m0 args below meth c0 G X => ?_)
  have hin : mIn m 0 (S.1 8 0 9 - 1) = true → vp_in m 5 := fun h => by
    rw [hK] at h
    obtain ⟨j, hj, rfl⟩ := mIn_k (by omega) h
    exact vp_in_nI (by omega) (by omega)
  refine ws_aload_n (i := 0) X d_M_method_0 rfl rfl ?_
  refine ws_iload_n (i := 1) X d_M_method_1 rfl rfl ?_
  refine ws_callV1 X (m_M_isMethod _ _) cv_M_isMethod ml_M_230 ob8 rfl rfl (Nat.le_of_ble_eq_true rfl) ⟨Nat.le_of_ble_eq_true rfl, Nat.le_of_ble_eq_true rfl⟩ ⟨Nat.zero_le _, Nat.zero_le _⟩ d_M_method_2 ?_
  refine ws_ifB_ne X d_M_method_5 (fun h5 => ?_) (fun h5 => ?_)
  · refine ws_iload_n (i := 2) X d_M_method_11 rfl rfl ?_
    refine ws_tsw X [(0, 64), (1, 71), (2, 78), (3, 85), (4, 92), (5, 99), (6, 106), (7, 113), (8, 120)] d_M_method_12 (fun j hj => by
        have hj2 : j < 9 := by omega
        match j, hj2 with
        | 0, _ => exact ⟨_, 64, rfl, rfl, by decide⟩
        | 1, _ => exact ⟨_, 71, rfl, rfl, by decide⟩
        | 2, _ => exact ⟨_, 78, rfl, rfl, by decide⟩
        | 3, _ => exact ⟨_, 85, rfl, rfl, by decide⟩
        | 4, _ => exact ⟨_, 92, rfl, rfl, by decide⟩
        | 5, _ => exact ⟨_, 99, rfl, rfl, by decide⟩
        | 6, _ => exact ⟨_, 106, rfl, rfl, by decide⟩
        | 7, _ => exact ⟨_, 113, rfl, rfl, by decide⟩
        | 8, _ => exact ⟨_, 120, rfl, rfl, by decide⟩) (tgt := 136) rfl (And.intro (fun h12 => ?_) (And.intro (fun h12 => ?_) (And.intro (fun h12 => ?_) (And.intro (fun h12 => ?_) (And.intro (fun h12 => ?_) (And.intro (fun h12 => ?_) (And.intro (fun h12 => ?_) (And.intro (fun h12 => ?_) (And.intro (fun h12 => ?_) (trivial)))))))))) (fun h12 => ?_)
    · have h12 : w = 0 := h12
      subst h12
      refine ws_aload_n (i := 0) X d_M_method_64 rfl rfl ?_
      refine ws_getR X fl_M_33 ob8 d_M_method_65 ?_
      refine ws_iload_n (i := 1) X d_M_method_68 rfl rfl ?_
      refine ws_iald X ak31 ob31 (hin (by assumption)) d_M_method_69 ?_
      refine ws_iret X d_M_method_70 ?_
      exact ⟨by simp [mMethV, bI, h5], rfl⟩
    · have h12 : w = 1 := h12
      subst h12
      refine ws_aload_n (i := 0) X d_M_method_71 rfl rfl ?_
      refine ws_getR X fl_M_39 ob8 d_M_method_72 ?_
      refine ws_iload_n (i := 1) X d_M_method_75 rfl rfl ?_
      refine ws_iald X ak33 ob33 (hin (by assumption)) d_M_method_76 ?_
      refine ws_iret X d_M_method_77 ?_
      exact ⟨by simp [mMethV, bI, h5], rfl⟩
    · have h12 : w = 2 := h12
      subst h12
      refine ws_aload_n (i := 0) X d_M_method_78 rfl rfl ?_
      refine ws_getR X fl_M_42 ob8 d_M_method_79 ?_
      refine ws_iload_n (i := 1) X d_M_method_82 rfl rfl ?_
      refine ws_iald X ak34 ob34 (hin (by assumption)) d_M_method_83 ?_
      refine ws_iret X d_M_method_84 ?_
      exact ⟨by simp [mMethV, bI, h5], rfl⟩
    · have h12 : w = 3 := h12
      subst h12
      refine ws_aload_n (i := 0) X d_M_method_85 rfl rfl ?_
      refine ws_getR X fl_M_45 ob8 d_M_method_86 ?_
      refine ws_iload_n (i := 1) X d_M_method_89 rfl rfl ?_
      refine ws_iald X ak35 ob35 (hin (by assumption)) d_M_method_90 ?_
      refine ws_iret X d_M_method_91 ?_
      exact ⟨by simp [mMethV, bI, h5], rfl⟩
    · have h12 : w = 4 := h12
      subst h12
      refine ws_aload_n (i := 0) X d_M_method_92 rfl rfl ?_
      refine ws_getR X fl_M_48 ob8 d_M_method_93 ?_
      refine ws_iload_n (i := 1) X d_M_method_96 rfl rfl ?_
      refine ws_iald X ak36 ob36 (hin (by assumption)) d_M_method_97 ?_
      refine ws_iret X d_M_method_98 ?_
      exact ⟨by simp [mMethV, bI, h5], rfl⟩
    · have h12 : w = 5 := h12
      subst h12
      refine ws_aload_n (i := 0) X d_M_method_99 rfl rfl ?_
      refine ws_getR X fl_M_54 ob8 d_M_method_100 ?_
      refine ws_iload_n (i := 1) X d_M_method_103 rfl rfl ?_
      refine ws_iald X ak38 ob38 (hin (by assumption)) d_M_method_104 ?_
      refine ws_iret X d_M_method_105 ?_
      exact ⟨by simp [mMethV, bI, h5], rfl⟩
    · have h12 : w = 6 := h12
      subst h12
      refine ws_aload_n (i := 0) X d_M_method_106 rfl rfl ?_
      refine ws_getR X fl_M_30 ob8 d_M_method_107 ?_
      refine ws_iload_n (i := 1) X d_M_method_110 rfl rfl ?_
      refine ws_iald X ak30 ob30 (hin (by assumption)) d_M_method_111 ?_
      refine ws_iret X d_M_method_112 ?_
      exact ⟨by simp [mMethV, bI, h5], rfl⟩
    · have h12 : w = 7 := h12
      subst h12
      refine ws_aload_n (i := 0) X d_M_method_113 rfl rfl ?_
      refine ws_getR X fl_M_82 ob8 d_M_method_114 ?_
      refine ws_iload_n (i := 1) X d_M_method_117 rfl rfl ?_
      refine ws_iald X ak47 ob47 (hin (by assumption)) d_M_method_118 ?_
      refine ws_iret X d_M_method_119 ?_
      exact ⟨by simp [mMethV, bI, h5], rfl⟩
    · have h12 : w = 8 := h12
      subst h12
      refine ws_aload_n (i := 0) X d_M_method_120 rfl rfl ?_
      refine ws_getR X fl_M_82 ob8 d_M_method_121 ?_
      refine ws_iload_n (i := 1) X d_M_method_124 rfl rfl ?_
      refine ws_iald X ak47 ob47 (hin (by assumption)) d_M_method_125 ?_
      refine ws_iconst (v := 3) X d_M_method_126 rfl ?_
      refine ws_icmp_ne X d_M_method_127 (fun h127 => ?_) (fun h127 => ?_)
      · refine ws_iconst (v := 0) X d_M_method_134 rfl ?_
        refine ws_iret X d_M_method_135 ?_
        exact ⟨by simp [mMethV, bI, h5, eq_false h127], rfl⟩
      · refine ws_iconst (v := 1) X d_M_method_130 rfl ?_
        refine ws_goto X d_M_method_131 ?_
        refine ws_iret X d_M_method_135 ?_
        exact ⟨by simp [mMethV, bI, h5, eq_true h127], rfl⟩
    · have g12_0 : ¬ w = 0 := fun z => by rw [z] at h12; exact absurd h12 (by decide)
      have g12_1 : ¬ w = 1 := fun z => by rw [z] at h12; exact absurd h12 (by decide)
      have g12_2 : ¬ w = 2 := fun z => by rw [z] at h12; exact absurd h12 (by decide)
      have g12_3 : ¬ w = 3 := fun z => by rw [z] at h12; exact absurd h12 (by decide)
      have g12_4 : ¬ w = 4 := fun z => by rw [z] at h12; exact absurd h12 (by decide)
      have g12_5 : ¬ w = 5 := fun z => by rw [z] at h12; exact absurd h12 (by decide)
      have g12_6 : ¬ w = 6 := fun z => by rw [z] at h12; exact absurd h12 (by decide)
      have g12_7 : ¬ w = 7 := fun z => by rw [z] at h12; exact absurd h12 (by decide)
      have g12_8 : ¬ w = 8 := fun z => by rw [z] at h12; exact absurd h12 (by decide)
      refine ws_bipush (v := (-102)) X d_M_method_136 rfl ?_
      refine ws_iret X d_M_method_138 ?_
      exact ⟨by simp [mMethV, bI, h5, eq_false g12_0, eq_false g12_1, eq_false g12_2, eq_false g12_3, eq_false g12_4, eq_false g12_5, eq_false g12_6, eq_false g12_7, eq_false g12_8], rfl⟩
  · refine ws_bipush (v := (-101)) X d_M_method_8 rfl ?_
    refine ws_iret X d_M_method_10 ?_
    exact ⟨by simp [mMethV, bI, h5], rfl⟩

def mPoolV (S : MS) (e w : Int32) : Int64 := if mIn e 0 (S.1 8 0 4 - 1) = true then (if mIn w 0 1 = true then (if w = 0 then (S.1 26 0 e.toNatClampNeg).toInt64 else if S.1 26 0 e.toNatClampNeg = 3 then (S.1 28 0 e.toNatClampNeg).toInt64 else if S.1 26 0 e.toNatClampNeg = 1 then S.2.1 27 0 e.toNatClampNeg else mDl (mDo (S.2.1 27 0 e.toNatClampNeg))) else -102) else -101
theorem m_M_pool (S : MS) (e w : Int32) (k : Nat) (hK : S.1 8 0 4 = nI k) (hk : k ≤ 16) : MetE y_M_pool c_M_pool 3 ((some .long)) 2 45 [.inr (8, 0), .inl (.int e), .inl (.int w)] S (some (.inl (.long (mPoolV S e w)))) (S) := by
  refine MetS.of (lv0 := [some (.inr (8, 0)), some (.inl (.int e)), some (.inl (.int w))]) pn_M rfl (Nat.le_of_ble_eq_true rfl) (fun p0 l0 e0 s0 m0 args below meth c0 G X => ?_)
  have hin : mIn e 0 (S.1 8 0 4 - 1) = true → vp_in e 16 := fun h => by
    rw [hK] at h
    obtain ⟨j, hj, rfl⟩ := mIn_k (by omega) h
    exact vp_in_nI (by omega) (by omega)
  refine ws_iload_n (i := 1) X d_M_pool_0 rfl rfl ?_
  refine ws_iconst (v := 0) X d_M_pool_1 rfl ?_
  refine ws_aload_n (i := 0) X d_M_pool_2 rfl rfl ?_
  refine ws_getI X fl_M_138 ob8 d_M_pool_3 ?_
  refine ws_iconst (v := 1) X d_M_pool_6 rfl ?_
  refine ws_isub X d_M_pool_7 ?_
  refine ws_callS1 X (m_M_in _ _ _ _) cs_M_in ml_M_106 rfl rfl (Nat.le_of_ble_eq_true rfl) ⟨Nat.le_of_ble_eq_true rfl, Nat.le_of_ble_eq_true rfl⟩ ⟨Nat.zero_le _, Nat.zero_le _⟩ d_M_pool_8 ?_
  refine ws_ifB_ne X d_M_pool_11 (fun h11 => ?_) (fun h11 => ?_)
  · refine ws_iload_n (i := 2) X d_M_pool_18 rfl rfl ?_
    refine ws_iconst (v := 0) X d_M_pool_19 rfl ?_
    refine ws_iconst (v := 1) X d_M_pool_20 rfl ?_
    refine ws_callS1 X (m_M_in _ _ _ _) cs_M_in ml_M_106 rfl rfl (Nat.le_of_ble_eq_true rfl) ⟨Nat.le_of_ble_eq_true rfl, Nat.le_of_ble_eq_true rfl⟩ ⟨Nat.zero_le _, Nat.zero_le _⟩ d_M_pool_21 ?_
    refine ws_ifB_ne X d_M_pool_24 (fun h24 => ?_) (fun h24 => ?_)
    · refine ws_iload_n (i := 2) X d_M_pool_31 rfl rfl ?_
      refine ws_if_ne X d_M_pool_32 (fun h32 => ?_) (fun h32 => ?_)
      · refine ws_aload_n (i := 0) X d_M_pool_43 rfl rfl ?_
        refine ws_getR X fl_M_17 ob8 d_M_pool_44 ?_
        refine ws_iload_n (i := 1) X d_M_pool_47 rfl rfl ?_
        refine ws_iald X ak26 ob26 (hin (by assumption)) d_M_pool_48 ?_
        refine ws_iconst (v := 3) X d_M_pool_49 rfl ?_
        refine ws_icmp_ne X d_M_pool_50 (fun h50 => ?_) (fun h50 => ?_)
        · refine ws_aload_n (i := 0) X d_M_pool_63 rfl rfl ?_
          refine ws_getR X fl_M_17 ob8 d_M_pool_64 ?_
          refine ws_iload_n (i := 1) X d_M_pool_67 rfl rfl ?_
          refine ws_iald X ak26 ob26 (hin (by assumption)) d_M_pool_68 ?_
          refine ws_iconst (v := 1) X d_M_pool_69 rfl ?_
          refine ws_icmp_ne X d_M_pool_70 (fun h70 => ?_) (fun h70 => ?_)
          · refine ws_aload_n (i := 0) X d_M_pool_82 rfl rfl ?_
            refine ws_getR X fl_M_20 ob8 d_M_pool_83 ?_
            refine ws_iload_n (i := 1) X d_M_pool_86 rfl rfl ?_
            refine ws_lald X ak27 ob27 (hin (by assumption)) d_M_pool_87 ?_
            refine ws_callS1 X (m_M_doubleOf _ _) cs_M_doubleOf ml_M_226 rfl rfl (Nat.le_of_ble_eq_true rfl) ⟨Nat.le_of_ble_eq_true rfl, Nat.le_of_ble_eq_true rfl⟩ ⟨Nat.zero_le _, Nat.zero_le _⟩ d_M_pool_88 ?_
            refine ws_callS1 X (m_JD_doubleToLongBits _ _) cs_JD_doubleToLongBits ml_M_237 rfl rfl (Nat.le_of_ble_eq_true rfl) ⟨Nat.le_of_ble_eq_true rfl, Nat.le_of_ble_eq_true rfl⟩ ⟨Nat.zero_le _, Nat.zero_le _⟩ d_M_pool_91 ?_
            refine ws_lret X d_M_pool_94 ?_
            exact ⟨by simp [mPoolV, h11, h24, eq_false h32, eq_false h50, eq_false h70], rfl⟩
          · refine ws_aload_n (i := 0) X d_M_pool_73 rfl rfl ?_
            refine ws_getR X fl_M_20 ob8 d_M_pool_74 ?_
            refine ws_iload_n (i := 1) X d_M_pool_77 rfl rfl ?_
            refine ws_lald X ak27 ob27 (hin (by assumption)) d_M_pool_78 ?_
            refine ws_goto X d_M_pool_79 ?_
            refine ws_lret X d_M_pool_94 ?_
            exact ⟨by simp [mPoolV, h11, h24, eq_false h32, eq_false h50, eq_true h70], rfl⟩
        · refine ws_aload_n (i := 0) X d_M_pool_53 rfl rfl ?_
          refine ws_getR X fl_M_24 ob8 d_M_pool_54 ?_
          refine ws_iload_n (i := 1) X d_M_pool_57 rfl rfl ?_
          refine ws_iald X ak28 ob28 (hin (by assumption)) d_M_pool_58 ?_
          refine ws_i2l X d_M_pool_59 ?_
          refine ws_goto X d_M_pool_60 ?_
          refine ws_lret X d_M_pool_94 ?_
          exact ⟨by simp [mPoolV, h11, h24, eq_false h32, eq_true h50], rfl⟩
      · refine ws_aload_n (i := 0) X d_M_pool_35 rfl rfl ?_
        refine ws_getR X fl_M_17 ob8 d_M_pool_36 ?_
        refine ws_iload_n (i := 1) X d_M_pool_39 rfl rfl ?_
        refine ws_iald X ak26 ob26 (hin (by assumption)) d_M_pool_40 ?_
        refine ws_i2l X d_M_pool_41 ?_
        refine ws_lret X d_M_pool_42 ?_
        exact ⟨by simp [mPoolV, h11, h24, eq_true h32], rfl⟩
    · refine ws_ldc2 X d_M_pool_27 ct_M_235 ?_
      refine ws_lret X d_M_pool_30 ?_
      exact ⟨by simp [mPoolV, h11, h24], rfl⟩
  · refine ws_ldc2 X d_M_pool_14 ct_M_233 ?_
    refine ws_lret X d_M_pool_17 ?_
    exact ⟨by simp [mPoolV, h11], rfl⟩

def mTldV (S : MS) (w : Int32) : Int32 := if mIn w 0 4 = true then (if S.1 8 0 42 = 0 then 0 else if w = 0 then S.1 8 0 44 else if w = 1 then S.1 8 0 45 else if w = 2 then S.1 8 0 46 else if w = 3 then S.1 8 0 47 else S.1 8 0 48) else -102
theorem m_M_told (S : MS) (w : Int32) : MetE y_M_told c_M_told 2 ((some .int)) 1 22 [.inr (8, 0), .inl (.int w)] S (some (.inl (.int (mTldV S w)))) (S) := by
  refine MetS.of (lv0 := [some (.inr (8, 0)), some (.inl (.int w))]) pn_M rfl (Nat.le_of_ble_eq_true rfl) (fun p0 l0 e0 s0 m0 args below meth c0 G X => ?_)
  refine ws_iload_n (i := 1) X d_M_told_0 rfl rfl ?_
  refine ws_iconst (v := 0) X d_M_told_1 rfl ?_
  refine ws_iconst (v := 4) X d_M_told_2 rfl ?_
  refine ws_callS1 X (m_M_in _ _ _ _) cs_M_in ml_M_106 rfl rfl (Nat.le_of_ble_eq_true rfl) ⟨Nat.le_of_ble_eq_true rfl, Nat.le_of_ble_eq_true rfl⟩ ⟨Nat.zero_le _, Nat.zero_le _⟩ d_M_told_3 ?_
  refine ws_ifB_ne X d_M_told_6 (fun h6 => ?_) (fun h6 => ?_)
  · refine ws_aload_n (i := 0) X d_M_told_12 rfl rfl ?_
    refine ws_getZ X fl_M_255 ob8 d_M_told_13 ?_
    refine ws_if_ne X d_M_told_16 (fun h16 => ?_) (fun h16 => ?_)
    · refine ws_iload_n (i := 1) X d_M_told_21 rfl rfl ?_
      refine ws_tsw X [(0, 52), (1, 57), (2, 62), (3, 67)] d_M_told_22 (fun j hj => by
          have hj2 : j < 4 := by omega
          match j, hj2 with
          | 0, _ => exact ⟨_, 52, rfl, rfl, by decide⟩
          | 1, _ => exact ⟨_, 57, rfl, rfl, by decide⟩
          | 2, _ => exact ⟨_, 62, rfl, rfl, by decide⟩
          | 3, _ => exact ⟨_, 67, rfl, rfl, by decide⟩) (tgt := 72) rfl (And.intro (fun h22 => ?_) (And.intro (fun h22 => ?_) (And.intro (fun h22 => ?_) (And.intro (fun h22 => ?_) (trivial))))) (fun h22 => ?_)
      · have h22 : w = 0 := h22
        subst h22
        refine ws_aload_n (i := 0) X d_M_told_52 rfl rfl ?_
        refine ws_getI X fl_M_249 ob8 d_M_told_53 ?_
        refine ws_iret X d_M_told_56 ?_
        exact ⟨by simp [mTldV, h6, eq_false h16], rfl⟩
      · have h22 : w = 1 := h22
        subst h22
        refine ws_aload_n (i := 0) X d_M_told_57 rfl rfl ?_
        refine ws_getI X fl_M_262 ob8 d_M_told_58 ?_
        refine ws_iret X d_M_told_61 ?_
        exact ⟨by simp [mTldV, h6, eq_false h16], rfl⟩
      · have h22 : w = 2 := h22
        subst h22
        refine ws_aload_n (i := 0) X d_M_told_62 rfl rfl ?_
        refine ws_getI X fl_M_265 ob8 d_M_told_63 ?_
        refine ws_iret X d_M_told_66 ?_
        exact ⟨by simp [mTldV, h6, eq_false h16], rfl⟩
      · have h22 : w = 3 := h22
        subst h22
        refine ws_aload_n (i := 0) X d_M_told_67 rfl rfl ?_
        refine ws_getI X fl_M_252 ob8 d_M_told_68 ?_
        refine ws_iret X d_M_told_71 ?_
        exact ⟨by simp [mTldV, h6, eq_false h16], rfl⟩
      · have g22_0 : ¬ w = 0 := fun z => by rw [z] at h22; exact absurd h22 (by decide)
        have g22_1 : ¬ w = 1 := fun z => by rw [z] at h22; exact absurd h22 (by decide)
        have g22_2 : ¬ w = 2 := fun z => by rw [z] at h22; exact absurd h22 (by decide)
        have g22_3 : ¬ w = 3 := fun z => by rw [z] at h22; exact absurd h22 (by decide)
        refine ws_aload_n (i := 0) X d_M_told_72 rfl rfl ?_
        refine ws_getI X fl_M_246 ob8 d_M_told_73 ?_
        refine ws_iret X d_M_told_76 ?_
        exact ⟨by simp [mTldV, h6, eq_false h16, eq_false g22_0, eq_false g22_1, eq_false g22_2, eq_false g22_3], rfl⟩
    · refine ws_iconst (v := 0) X d_M_told_19 rfl ?_
      refine ws_iret X d_M_told_20 ?_
      exact ⟨by simp [mTldV, h6, eq_true h16], rfl⟩
  · refine ws_bipush (v := (-102)) X d_M_told_9 rfl ?_
    refine ws_iret X d_M_told_11 ?_
    exact ⟨by simp [mTldV, h6], rfl⟩

def mCntV (S : MS) (w : Int32) : Int32 := if w = 0 then S.1 8 0 1 else if w = 1 then S.1 8 0 9 else if w = 2 then S.1 8 0 4 else if w = 3 then S.1 8 0 3 else if w = 4 then S.1 8 0 30 else -102
theorem m_M_count (S : MS) (w : Int32) : MetE y_M_count c_M_count 2 ((some .int)) 0 0 [.inr (8, 0), .inl (.int w)] S (some (.inl (.int (mCntV S w)))) (S) := by
  refine MetS.of (lv0 := [some (.inr (8, 0)), some (.inl (.int w))]) pn_M rfl (Nat.le_of_ble_eq_true rfl) (fun p0 l0 e0 s0 m0 args below meth c0 G X => ?_)
  refine ws_iload_n (i := 1) X d_M_count_0 rfl rfl ?_
  refine ws_tsw X [(0, 36), (1, 41), (2, 46), (3, 51), (4, 56)] d_M_count_1 (fun j hj => by
      have hj2 : j < 5 := by omega
      match j, hj2 with
      | 0, _ => exact ⟨_, 36, rfl, rfl, by decide⟩
      | 1, _ => exact ⟨_, 41, rfl, rfl, by decide⟩
      | 2, _ => exact ⟨_, 46, rfl, rfl, by decide⟩
      | 3, _ => exact ⟨_, 51, rfl, rfl, by decide⟩
      | 4, _ => exact ⟨_, 56, rfl, rfl, by decide⟩) (tgt := 61) rfl (And.intro (fun h1 => ?_) (And.intro (fun h1 => ?_) (And.intro (fun h1 => ?_) (And.intro (fun h1 => ?_) (And.intro (fun h1 => ?_) (trivial)))))) (fun h1 => ?_)
  · have h1 : w = 0 := h1
    subst h1
    refine ws_aload_n (i := 0) X d_M_count_36 rfl rfl ?_
    refine ws_getI X fl_M_110 ob8 d_M_count_37 ?_
    refine ws_iret X d_M_count_40 ?_
    exact ⟨by simp [mCntV, if_true], rfl⟩
  · have h1 : w = 1 := h1
    subst h1
    refine ws_aload_n (i := 0) X d_M_count_41 rfl rfl ?_
    refine ws_getI X fl_M_162 ob8 d_M_count_42 ?_
    refine ws_iret X d_M_count_45 ?_
    exact ⟨by simp [mCntV, if_true], rfl⟩
  · have h1 : w = 2 := h1
    subst h1
    refine ws_aload_n (i := 0) X d_M_count_46 rfl rfl ?_
    refine ws_getI X fl_M_138 ob8 d_M_count_47 ?_
    refine ws_iret X d_M_count_50 ?_
    exact ⟨by simp [mCntV, if_true], rfl⟩
  · have h1 : w = 3 := h1
    subst h1
    refine ws_aload_n (i := 0) X d_M_count_51 rfl rfl ?_
    refine ws_getI X fl_M_156 ob8 d_M_count_52 ?_
    refine ws_iret X d_M_count_55 ?_
    exact ⟨by simp [mCntV, if_true], rfl⟩
  · have h1 : w = 4 := h1
    subst h1
    refine ws_aload_n (i := 0) X d_M_count_56 rfl rfl ?_
    refine ws_getI X fl_M_168 ob8 d_M_count_57 ?_
    refine ws_iret X d_M_count_60 ?_
    exact ⟨by simp [mCntV, if_true], rfl⟩
  · have g1_0 : ¬ w = 0 := fun z => by rw [z] at h1; exact absurd h1 (by decide)
    have g1_1 : ¬ w = 1 := fun z => by rw [z] at h1; exact absurd h1 (by decide)
    have g1_2 : ¬ w = 2 := fun z => by rw [z] at h1; exact absurd h1 (by decide)
    have g1_3 : ¬ w = 3 := fun z => by rw [z] at h1; exact absurd h1 (by decide)
    have g1_4 : ¬ w = 4 := fun z => by rw [z] at h1; exact absurd h1 (by decide)
    refine ws_bipush (v := (-102)) X d_M_count_61 rfl ?_
    refine ws_iret X d_M_count_63 ?_
    exact ⟨by simp [mCntV, eq_false g1_0, eq_false g1_1, eq_false g1_2, eq_false g1_3, eq_false g1_4], rfl⟩

theorem m_M_result (S : MS) : MetE y_M_result c_M_result 1 ((some .long)) 0 0 [.inr (8, 0)] S (some (.inl (.long (S.2.1 8 0 43)))) (S) := by
  refine MetS.of (lv0 := [some (.inr (8, 0))]) pn_M rfl (Nat.le_of_ble_eq_true rfl) (fun p0 l0 e0 s0 m0 args below meth c0 G X => ?_)
  refine ws_aload_n (i := 0) X d_M_result_0 rfl rfl ?_
  refine ws_getL X fl_M_258 ob8 d_M_result_1 ?_
  refine ws_lret X d_M_result_4 ?_
  exact ⟨rfl, rfl⟩

def mKndV (S : MS) (m p k : Int32) : Int32 := if mIn m 0 (S.1 8 0 9 - 1) = true then (if mIn p 0 (S.1 36 0 m.toNatClampNeg - 1) = true then (if S.1 43 0 (48 * m.toNatClampNeg + p.toNatClampNeg) = 0 then -101 else if 5 < k then -102 else if -(S.1 34 0 m.toNatClampNeg) ≤ k then (if k < 0 then S.1 46 0 (6 * (48 * m.toNatClampNeg + p.toNatClampNeg) + (-1 - k).toNatClampNeg) else S.1 45 0 (6 * (48 * m.toNatClampNeg + p.toNatClampNeg) + k.toNatClampNeg)) else -102) else -101) else -101
theorem nk_neg {lc : Nat} (h : lc ≤ 6) {k : Int32} (h1 : k < 0) (h2 : -(nI lc) ≤ k) : ∃ y, y < lc ∧ -1 - k = nI y := by
  have h1 := Int32.lt_iff_toInt_lt.mp h1
  have h2 := Int32.le_iff_toInt_le.mp h2
  have e0 : (0 : Int32).toInt = 0 := rfl
  have key : ∀ c, c ≤ 6 → (-(nI c)).toInt = -(c : Int) := by decide
  rw [e0] at h1
  rw [key lc h] at h2
  have hk : k = Int32.ofInt k.toInt := (Int32.ofInt_toInt k).symm
  have hz : k.toInt = -1 ∨ k.toInt = -2 ∨ k.toInt = -3 ∨ k.toInt = -4 ∨ k.toInt = -5 ∨ k.toInt = -6 := by omega
  rcases hz with z | z | z | z | z | z <;> rw [z] at hk h2
  · exact ⟨0, by omega, by rw [hk]; decide⟩
  · exact ⟨1, by omega, by rw [hk]; decide⟩
  · exact ⟨2, by omega, by rw [hk]; decide⟩
  · exact ⟨3, by omega, by rw [hk]; decide⟩
  · exact ⟨4, by omega, by rw [hk]; decide⟩
  · exact ⟨5, by omega, by rw [hk]; decide⟩
theorem ix_sub (a : Nat) (k : Int32) : nI a - 1 - k = nI a + (-1 - k) := by
  rw [Int32.sub_eq_add_neg, Int32.sub_eq_add_neg, Int32.sub_eq_add_neg, Int32.add_assoc]
theorem m_M_kind (S : MS) (m p k : Int32) (n : Nat) (hK : S.1 8 0 9 = nI n) (hk : n ≤ 5) (hB : ∀ q, q < n → ∃ lc L, S.1 34 0 q = nI lc ∧ lc ≤ 6 ∧ S.1 36 0 q = nI L ∧ L ≤ 48) : MetE y_M_kind c_M_kind 5 ((some .int)) 2 43 [.inr (8, 0), .inl (.int m), .inl (.int p), .inl (.int k)] S (some (.inl (.int (mKndV S m p k)))) (S) := by
  refine MetS.of (lv0 := [some (.inr (8, 0)), some (.inl (.int m)), some (.inl (.int p)), some (.inl (.int k)), none]) pn_M rfl (Nat.le_of_ble_eq_true rfl) (fun p0 l0 e0 s0 m0 args below meth c0 G X => ?_)
  refine ws_aload_n (i := 0) X d_M_kind_0 rfl rfl ?_
  refine ws_iload_n (i := 1) X d_M_kind_1 rfl rfl ?_
  refine ws_callV1 X (m_M_isMethod _ _) cv_M_isMethod ml_M_230 ob8 rfl rfl (Nat.le_of_ble_eq_true rfl) ⟨Nat.le_of_ble_eq_true rfl, Nat.le_of_ble_eq_true rfl⟩ ⟨Nat.zero_le _, Nat.zero_le _⟩ d_M_kind_2 ?_
  refine ws_ifB_eq X d_M_kind_5 (fun h5 => ?_) (fun h5 => ?_)
  · refine ws_bipush (v := (-101)) X d_M_kind_38 rfl ?_; refine ws_iret X d_M_kind_40 ?_; exact ⟨by simp [mKndV, h5], rfl⟩
  · rw [hK] at h5
    obtain ⟨q, hq, rfl⟩ := mIn_k (by omega) h5
    have h5 : mIn (nI q) 0 (S.1 8 0 9 - 1) = true := by rw [hK]; exact h5
    have hcq := nI_c (i := q) (by omega)
    have hinq : vp_in (nI q) 5 := vp_in_nI (by omega) (by omega)
    obtain ⟨lc, L, e1, e2, e3, e4⟩ := hB q hq
    refine ws_iload_n (i := 2) X d_M_kind_8 rfl rfl ?_
    refine ws_iconst (v := 0) X d_M_kind_9 rfl ?_
    refine ws_aload_n (i := 0) X d_M_kind_10 rfl rfl ?_
    refine ws_getR X fl_M_48 ob8 d_M_kind_11 ?_
    refine ws_iload_n (i := 1) X d_M_kind_14 rfl rfl ?_
    refine ws_iald X ak36 ob36 (hinq) d_M_kind_15 ?_
    rw [hcq]
    refine ws_iconst (v := 1) X d_M_kind_16 rfl ?_
    refine ws_isub X d_M_kind_17 ?_
    refine ws_callS1 X (m_M_in _ _ _ _) cs_M_in ml_M_106 rfl rfl (Nat.le_of_ble_eq_true rfl) ⟨Nat.le_of_ble_eq_true rfl, Nat.le_of_ble_eq_true rfl⟩ ⟨Nat.zero_le _, Nat.zero_le _⟩ d_M_kind_18 ?_
    refine ws_ifB_eq X d_M_kind_21 (fun h21 => ?_) (fun h21 => ?_)
    · refine ws_bipush (v := (-101)) X d_M_kind_38 rfl ?_; refine ws_iret X d_M_kind_40 ?_; exact ⟨by simp [mKndV, hcq, h5, h21], rfl⟩
    · have h21' := h21
      rw [e3] at h21'
      obtain ⟨z, hz, rfl⟩ := mIn_k (by omega) h21'
      have hcz := nI_c (i := z) (by omega)
      have hxx : nI 48 * nI q + nI z = nI (48 * q + z) := ixN _ _ _
      have hinb : vp_in (nI (48 * q + z)) 240 := vp_in_nI (by omega) (by omega)
      have hcb := nI_c (i := 48 * q + z) (by omega)
      refine ws_aload_n (i := 0) X d_M_kind_24 rfl rfl ?_
      refine ws_getR X fl_M_69 ob8 d_M_kind_25 ?_
      refine ws_bipush (v := 48) X d_M_kind_28 rfl ?_
      refine ws_iload_n (i := 1) X d_M_kind_30 rfl rfl ?_
      refine ws_imul X d_M_kind_31 ?_
      refine ws_iload_n (i := 2) X d_M_kind_32 rfl rfl ?_
      refine ws_iadd X d_M_kind_33 ?_
      rw [show (48 : Int32) = nI 48 from rfl, hxx]
      refine ws_zald X ak43 ob43 (hinb) d_M_kind_34 ?_
      rw [hcb]
      refine ws_if_ne X d_M_kind_35 (fun h35 => ?_) (fun h35 => ?_)
      · refine ws_iload_n (i := 3) X d_M_kind_41 rfl rfl ?_
        refine ws_iconst (v := 5) X d_M_kind_42 rfl ?_
        refine ws_icmp_gt X d_M_kind_43 (fun h43 => ?_) (fun h43 => ?_)
        · refine ws_bipush (v := (-102)) X d_M_kind_57 rfl ?_
          refine ws_iret X d_M_kind_59 ?_
          exact ⟨by simp [mKndV, hcq, hcz, h5, h21, eq_false h35, eq_true h43], rfl⟩
        · refine ws_iload_n (i := 3) X d_M_kind_46 rfl rfl ?_
          refine ws_aload_n (i := 0) X d_M_kind_47 rfl rfl ?_
          refine ws_getR X fl_M_42 ob8 d_M_kind_48 ?_
          refine ws_iload_n (i := 1) X d_M_kind_51 rfl rfl ?_
          refine ws_iald X ak34 ob34 (by assumption) d_M_kind_52 ?_
          rw [hcq]
          refine ws_ineg X d_M_kind_53 ?_
          refine ws_icmp_ge X d_M_kind_54 (fun h54 => ?_) (fun h54 => ?_)
          · refine ws_bipush (v := 6) X d_M_kind_60 rfl ?_
            refine ws_bipush (v := 48) X d_M_kind_62 rfl ?_
            refine ws_iload_n (i := 1) X d_M_kind_64 rfl rfl ?_
            refine ws_imul X d_M_kind_65 ?_
            refine ws_iload_n (i := 2) X d_M_kind_66 rfl rfl ?_
            refine ws_iadd X d_M_kind_67 ?_
            refine ws_imul X d_M_kind_68 ?_
            rw [show (48 : Int32) = nI 48 from rfl, hxx, show (6 : Int32) = nI 6 from rfl, pk_mul]
            refine ws_ist_4 X rfl d_M_kind_69 (by decide) ?_
            refine ws_iload_n (i := 3) X d_M_kind_71 rfl rfl ?_
            refine ws_if_lt X d_M_kind_72 (fun h72 => ?_) (fun h72 => ?_)
            · have hw := nk_neg e2 h72 (by rw [← e1]; exact h54)
              obtain ⟨y, hy, hY⟩ := hw
              have hy6 : y < 6 := by omega
              have hcy := nI_c (i := y) (by omega)
              have hin46 : vp_in (nI (6 * (48 * q + z) + y)) 1440 := vp_in_nI (by omega) (by omega)
              have hc46 := nI_c (i := 6 * (48 * q + z) + y) (by omega)
              refine ws_aload_n (i := 0) X d_M_kind_87 rfl rfl ?_
              refine ws_getR X fl_M_79 ob8 d_M_kind_88 ?_
              refine ws_iload (i := 4) X d_M_kind_91 rfl ?_
              refine ws_iconst (v := 1) X d_M_kind_93 rfl ?_
              refine ws_isub X d_M_kind_94 ?_
              refine ws_iload_n (i := 3) X d_M_kind_95 rfl rfl ?_
              refine ws_isub X d_M_kind_96 ?_
              rw [ix_sub, hY, nI_add]
              have HX := And.intro hY hc46
              refine ws_iald X ak46 ob46 (hin46) d_M_kind_97 ?_
              refine ws_iret X d_M_kind_98 ?_
              exact ⟨by simp [mKndV, hcq, hcz, hcy, HX, h5, h21, eq_false h35, eq_false h43, eq_true h54, eq_true h72], rfl⟩
            · obtain ⟨y, hy, rfl⟩ := nI_of2 (M := 5) (n := 5) rfl h72 (Int32.not_lt.mp h43)
              have hcy := nI_c (i := y) (by omega)
              have hin45 : vp_in (nI (6 * (48 * q + z) + y)) 1440 := vp_in_nI (by omega) (by omega)
              have hc45 := nI_c (i := 6 * (48 * q + z) + y) (by omega)
              refine ws_aload_n (i := 0) X d_M_kind_75 rfl rfl ?_
              refine ws_getR X fl_M_76 ob8 d_M_kind_76 ?_
              refine ws_iload (i := 4) X d_M_kind_79 rfl ?_
              refine ws_iload_n (i := 3) X d_M_kind_81 rfl rfl ?_
              refine ws_iadd X d_M_kind_82 ?_
              rw [nI_add]
              refine ws_iald X ak45 ob45 (hin45) d_M_kind_83 ?_
              rw [hc45]
              have HX : True := trivial
              refine ws_goto X d_M_kind_84 ?_
              refine ws_iret X d_M_kind_98 ?_
              exact ⟨by simp [mKndV, hcq, hcz, hcy, HX, h5, h21, eq_false h35, eq_false h43, eq_true h54, eq_false h72], rfl⟩
          · refine ws_bipush (v := (-102)) X d_M_kind_57 rfl ?_
            refine ws_iret X d_M_kind_59 ?_
            exact ⟨by simp [mKndV, hcq, hcz, h5, h21, eq_false h35, eq_false h43, eq_false h54], rfl⟩
      · refine ws_bipush (v := (-101)) X d_M_kind_38 rfl ?_
        refine ws_iret X d_M_kind_40 ?_
        exact ⟨by simp [mKndV, hcq, hcz, h5, h21, eq_true h35], rfl⟩


