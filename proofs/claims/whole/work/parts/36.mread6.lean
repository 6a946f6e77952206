/-! the model reads: the FILE -/
theorem mEnt_W {S : MS} {e : Nat} (h : MW S) : MW (mEnt S e) := by
  intro a ha
  have e1 : (mEnt1 S e).1 28 0 a = S.1 28 0 a := by rw [mEnt1, wI_o _ _ _ _ _ _ _ _ (fun z => absurd z.1 (by decide)), mTknS_o _ _ _ _ _ _ _ (fun z => absurd z.1 (by decide)) (fun z => absurd z.1 (by decide)) (fun z => absurd z.1 (by decide))]
  unfold mEnt
  by_cases g1 : mTknV S 1 3 4 = 1
  · rw [if_pos g1, wL_1, mLongGo_o _ _ _ (fun z => absurd z.1 (by decide)) (fun z => absurd z.1 (by decide)) (fun z => absurd z.1 (by decide)), e1]; exact h a ha
  · rw [if_neg g1]
    by_cases g2 : mTknV S 1 3 4 = 2
    · rw [if_pos g2, wL_1, mLongGo_o _ _ _ (fun z => absurd z.1 (by decide)) (fun z => absurd z.1 (by decide)) (fun z => absurd z.1 (by decide)), e1]; exact h a ha
    · rw [if_neg g2]
      by_cases g3 : mTknV S 1 3 4 = 3
      · rw [if_pos g3, letGo_o _ _ _ _ (fun z => absurd z.1 (by decide)) (fun z => absurd z.1 (by decide)) (fun z => absurd z.1 (by decide)) (by decide), mEnt2]
        by_cases hae : a = e
        · rw [hae, wI_rd]; exact mTknV_rng (mEnt1 S e) (lo := 1) (M := 8) (w := 3) (n := 8) rfl (by decide) (by decide)
        · rw [wI_o _ _ _ _ _ _ _ _ (fun z => hae z.2.2), mTknS_o _ _ _ _ _ _ _ (fun z => absurd z.1 (by decide)) (fun z => absurd z.1 (by decide)) (fun z => absurd z.1 (by decide)), e1]; exact h a ha
      · rw [if_neg g3, e1]; exact h a ha
theorem mPoolGo_W : ∀ (n e : Nat) (S : MS), MW S → MW (mPoolGo n e S)
  | 0, _, _, h => h
  | n + 1, e, S, h => by
    by_cases h1 : S.1 8 0 28 = 0
    · rw [mPoolGo, if_pos h1]; exact mPoolGo_W n _ _ (mEnt_W h)
    · rw [mPoolGo, if_neg h1]; exact h
theorem mPoolGo_MP : ∀ (n e : Nat) (S : MS), MP S → MP (mPoolGo n e S)
  | 0, _, _, h => h
  | n + 1, e, S, h => by
    by_cases h1 : S.1 8 0 28 = 0
    · rw [mPoolGo, if_pos h1]; exact mPoolGo_MP n _ _ (mEnt_MP e h)
    · rw [mPoolGo, if_neg h1]; exact h
theorem mPoolGo_o (b c d : Nat) (h1 : ¬ (b = 8 ∧ c = 0 ∧ d = 28)) (h2 : ¬ (b = 8 ∧ c = 0 ∧ d = 29)) (h3 : ¬ (b = 8 ∧ c = 0 ∧ d = 31)) (h4 : b ≠ 26) (h5 : b ≠ 28) (h6 : b ≠ 29) : ∀ (n e : Nat) (S : MS), (mPoolGo n e S).1 b c d = S.1 b c d
  | 0, _, _ => rfl
  | n + 1, e, S => by
    by_cases h : S.1 8 0 28 = 0
    · rw [mPoolGo, if_pos h, mPoolGo_o b c d h1 h2 h3 h4 h5 h6 n, mEnt_o _ _ _ _ _ h1 h2 h3 h4 h5 h6]
    · rw [mPoolGo, if_neg h]
theorem mPool1_MP {S : MS} (h : MP S) : MP (mPool1 S) := (mTknS_MP 0 16 3 h).same (wI_o _ _ _ _ _ _ _ _ (by decide)) (wI_o _ _ _ _ _ _ _ _ (by decide)) (fun j => wI_o _ _ _ _ _ _ _ _ (fun z => absurd z.1 (by decide)))
theorem mPool_MP {S : MS} (h : MP S) : MP (mPool S) := mPoolGo_MP _ _ _ (mPool1_MP h)
theorem mPool_W {S : MS} (h : MW S) : MW (mPool S) := mPoolGo_W _ _ _ (fun a ha => by rw [mPool1, wI_o _ _ _ _ _ _ _ _ (fun z => absurd z.1 (by decide)), mTknS_o _ _ _ _ _ _ _ (fun z => absurd z.1 (by decide)) (fun z => absurd z.1 (by decide)) (fun z => absurd z.1 (by decide))]; exact h a ha)
theorem mPool_en (S : MS) : ∃ n, n ≤ 16 ∧ (mPool S).1 8 0 4 = nI n := by
  rw [mPool, mPoolGo_o _ _ _ (by decide) (by decide) (by decide) (by decide) (by decide) (by decide), mPool1, wI_rd]
  exact mTknV_rng S (lo := 0) (M := 16) (w := 3) (n := 16) rfl (by decide) (by decide)
/-- the tape is sound -/
def MT (S : MS) : Prop := ∃ n : Nat, S.1 8 0 1 = nI n ∧ n ≤ 500 ∧ ∀ j, j < n → ∃ b, b < 256 ∧ S.1 24 0 j = nI b
theorem MT.p0 {S : MS} (h : MT S) : MP (wI S 8 0 31 0) := by
  obtain ⟨n, h1, h2, h3⟩ := h
  exact ⟨0, n, wI_rd .., by rw [wI_o _ _ _ _ _ _ _ _ (by decide)]; exact h1, Nat.zero_le _, h2, fun j hj => by rw [wI_o _ _ _ _ _ _ _ _ (fun z => absurd z.1 (by decide))]; exact h3 j hj⟩
theorem mTake_pos {S : MS} (hP : MP S) (h : (mTakeS S).1 8 0 28 = 0) : ∃ k, k + 1 ≤ 500 ∧ (mTakeS S).1 8 0 31 = nI (k + 1) := by
  obtain ⟨k, n, e1, e2, e3, e4, e5⟩ := hP
  have h0 := mTakeS_f h
  rw [mTakeS, if_pos h0] at h ⊢
  by_cases h4 : S.1 8 0 31 = S.1 8 0 1
  · rw [if_pos h4] at h; exact (mFaultS_0 (by decide) h).elim
  · rw [if_neg h4]
    have : k ≠ n := fun z => h4 (by rw [e1, e2, z])
    exact ⟨k, by omega, by rw [wI_rd, e1, nI_1]⟩
def mf2 (S : MS) : MS := mTknS (mTknS (wI S 8 0 31 0) 73 73 2) 78 78 2
def mf3 (S : MS) : MS := wI (mTknS (mf2 S) 1 2 2) 8 0 3 (mTknV (mf2 S) 1 2 2)
def mf5 (S : MS) : MS := wI (mTknS (mPool (mf3 S)) 1 5 3) 8 0 9 (mTknV (mPool (mf3 S)) 1 5 3)
def mfGo : Nat → Nat → MS → MS
  | 0, _, S => S
  | n + 1, k, S => if S.1 8 0 28 = 0 then mfGo n (k + 1) (mmS S k) else S
def mf6 (S : MS) : MS := mfGo ((mf5 S).1 8 0 9).toNatClampNeg 0 (mf5 S)
def mf7 (S : MS) : MS := if (mTakeS S).1 8 0 28 = 0 then (if mTakeV S = sumTo ((mTakeS S).1 24 0) (((mTakeS S).1 8 0 31 - 1).toNatClampNeg) &&& 255 then mTakeS S else mFaultS (mTakeS S) 9 ((mTakeS S).1 8 0 31 - 1)) else mTakeS S
def mf8 (S : MS) : MS := if S.1 8 0 28 = 0 then (if S.1 8 0 1 ≤ S.1 8 0 31 then S else mFaultS S 10 (S.1 8 0 31)) else S
def mfS (S : MS) : MS := mf8 (mf7 (mf6 S))
theorem mfGo_MP : ∀ (n k : Nat) (S : MS), MP S → MP (mfGo n k S)
  | 0, _, _, h => h
  | n + 1, k, S, h => by
    by_cases h1 : S.1 8 0 28 = 0
    · rw [mfGo, if_pos h1]; exact mfGo_MP n _ _ (mmS_MP k h)
    · rw [mfGo, if_neg h1]; exact h
theorem mf2_MP {S : MS} (h : MT S) : MP (mf2 S) := mTknS_MP _ _ _ (mTknS_MP _ _ _ h.p0)
theorem mf3_MP {S : MS} (h : MT S) : MP (mf3 S) := (mTknS_MP 1 2 2 (mf2_MP h)).same (wI_o _ _ _ _ _ _ _ _ (by decide)) (wI_o _ _ _ _ _ _ _ _ (by decide)) (fun j => wI_o _ _ _ _ _ _ _ _ (fun z => absurd z.1 (by decide)))
theorem mf5_MP {S : MS} (h : MT S) : MP (mf5 S) := (mTknS_MP 1 5 3 (mPool_MP (mf3_MP h))).same (wI_o _ _ _ _ _ _ _ _ (by decide)) (wI_o _ _ _ _ _ _ _ _ (by decide)) (fun j => wI_o _ _ _ _ _ _ _ _ (fun z => absurd z.1 (by decide)))
theorem mf3_W {S : MS} (h : MW S) : MW (mf3 S) := fun a ha => by
  rw [mf3, wI_o _ _ _ _ _ _ _ _ (fun z => absurd z.1 (by decide)), mTknS_o _ _ _ _ _ _ _ (fun z => absurd z.1 (by decide)) (fun z => absurd z.1 (by decide)) (fun z => absurd z.1 (by decide)), mf2, mTknS_o _ _ _ _ _ _ _ (fun z => absurd z.1 (by decide)) (fun z => absurd z.1 (by decide)) (fun z => absurd z.1 (by decide)), mTknS_o _ _ _ _ _ _ _ (fun z => absurd z.1 (by decide)) (fun z => absurd z.1 (by decide)) (fun z => absurd z.1 (by decide)), wI_o _ _ _ _ _ _ _ _ (fun z => absurd z.1 (by decide))]; exact h a ha
theorem mf5_W {S : MS} (h : MW S) : MW (mf5 S) := fun a ha => by
  rw [mf5, wI_o _ _ _ _ _ _ _ _ (fun z => absurd z.1 (by decide)), mTknS_o _ _ _ _ _ _ _ (fun z => absurd z.1 (by decide)) (fun z => absurd z.1 (by decide)) (fun z => absurd z.1 (by decide))]; exact mPool_W (mf3_W h) a ha
theorem mf5_en (S : MS) : ∃ n, n ≤ 16 ∧ (mf5 S).1 8 0 4 = nI n := by
  rw [mf5, wI_o _ _ _ _ _ _ _ _ (by decide), mTknS_o _ _ _ _ _ _ _ (by decide) (by decide) (by decide)]; exact mPool_en _
theorem mf5_mt (S : MS) : ∃ n, n ≤ 5 ∧ (mf5 S).1 8 0 9 = nI n := by
  rw [mf5, wI_rd]; exact mTknV_rng (mPool (mf3 S)) (lo := 1) (M := 5) (w := 3) (n := 5) rfl (by decide) (by decide)
section L38
variable {p : Program} {l : Launch} {e0 : Env} {s : State} {m0 : MethodId} {args : Array Value} {below : List Frame} {meth : Method} {c0 : Code} {G : GG} {A : Nat → Prop} {Q : State → Prop}
theorem l_mf (X : CX p s m0 args meth c0 G A c_M_readFile y_M_readFile.cls 2 (none)) {en mt : Nat} (hen : en ≤ 16) (hmt : mt ≤ 5) : ∀ (n k : Nat) (S : MS), MP S → MW S → (S.1 8 0 28 = 0 → MN S k) → S.1 8 0 4 = nI en → S.1 8 0 9 = nI mt → k + n = mt → (∀ j : Int32, WS p l e0 (rmS 5 113) s m0 args below meth c0 G A 2 0 0 Q 79 [some (.inr (8, 0)), some (.inl (.int j))] [] (mfGo n k S)) → WS p l e0 (rmS 5 113) s m0 args below meth c0 G A 2 0 0 Q 53 [some (.inr (8, 0)), some (.inl (.int (nI k)))] [] (S) := by
  intro n
  induction n with
  | zero =>
    intro k S hP hW hN hE hM hi' K
    have hh : S.1 8 0 9 ≤ nI k := by rw [hM, nI_leI (by omega) (by omega)]; omega
    refine ws_iload_n (i := 1) X d_M_readFile_53 rfl rfl ?_
    refine ws_aload_n (i := 0) X d_M_readFile_54 rfl rfl ?_
    refine ws_getI X fl_M_162 ob8 d_M_readFile_55 ?_
    refine ws_icmp_ge X d_M_readFile_58 (fun h58 => ?_) (fun h58 => ?_)
    · exact K _
    · exact absurd hh h58
  | succ n ih =>
    intro k S hP hW hN hE hM hi' K
    have hh : ¬ S.1 8 0 9 ≤ nI k := by rw [hM, nI_leI (by omega) (by omega)]; omega
    have hk : k < 5 := by omega
    rw [mfGo] at K
    refine ws_iload_n (i := 1) X d_M_readFile_53 rfl rfl ?_
    refine ws_aload_n (i := 0) X d_M_readFile_54 rfl rfl ?_
    refine ws_getI X fl_M_162 ob8 d_M_readFile_55 ?_
    refine ws_icmp_ge X d_M_readFile_58 (fun h58 => ?_) (fun h58 => ?_)
    · exact absurd h58 hh
    · refine ws_aload_n (i := 0) X d_M_readFile_61 rfl rfl ?_
      refine ws_getI X fl_M_118 ob8 d_M_readFile_62 ?_
      refine ws_if_ne X d_M_readFile_65 (fun h65 => ?_) (fun h65 => ?_)
      · simp only [eq_false h58, eq_false h65, if_true, if_false] at K; exact K _
      · refine ws_aload_n (i := 0) X d_M_readFile_68 rfl rfl ?_
        refine ws_iload_n (i := 1) X d_M_readFile_69 rfl rfl ?_
        refine ws_callV0 X (m_M_readMethod S k en hk hP hW (hN h65) hE hen) cv_M_readMethod ml_M_165 ob8 rfl rfl (Nat.le_of_ble_eq_true rfl) ⟨Nat.le_of_ble_eq_true rfl, Nat.le_of_ble_eq_true rfl⟩ ⟨Nat.zero_le _, Nat.zero_le _⟩ d_M_readFile_70 ?_
        refine ws_iinc_1 X rfl d_M_readFile_73 rfl (by decide) ?_
        refine ws_goto X d_M_readFile_76 ?_
        rw [nI_inc]; simp only [eq_false h58, eq_true h65, if_true, if_false] at K; exact ih (k + 1) _ (mmS_MP k hP) (mmS_W k hW) (fun hz => mmS_N hP hE hen (hN h65) hz) (by rw [mmS_o _ _ _ _ _ (by decide) (by decide) (by decide) (fun z => absurd z.1 (by decide)) (by decide)]; exact hE) (by rw [mmS_o _ _ _ _ _ (by decide) (by decide) (by decide) (fun z => absurd z.1 (by decide)) (by decide)]; exact hM) (by omega) K
end L38
theorem m_M_readFile (S : MS) (hT : MT S) (hW : MW S) : MetE y_M_readFile c_M_readFile 2 (none) 5 113 [.inr (8, 0)] S (none) (mfS S) := by
  refine MetS.of (lv0 := [some (.inr (8, 0)), none]) pn_M rfl (Nat.le_of_ble_eq_true rfl) (fun p0 l0 e0 s0 m0 args below meth c0 G X => ?_)
  have hP0 := hT.p0
  have hP1 := mTknS_MP 73 73 2 hP0
  have hP2 := mf2_MP hT
  have hP3 := mf3_MP hT
  have hP4 := mPool_MP hP3
  have hP6 : MP (mf6 S) := mfGo_MP _ _ _ (mf5_MP hT)
  refine ws_aload_n (i := 0) X d_M_readFile_0 rfl rfl ?_
  refine ws_iconst (v := 0) X d_M_readFile_1 rfl ?_
  refine ws_putI X fl_M_124 ob8 d_M_readFile_2 ?_
  refine ws_aload_n (i := 0) X d_M_readFile_5 rfl rfl ?_
  refine ws_bipush (v := 73) X d_M_readFile_6 rfl ?_
  refine ws_bipush (v := 73) X d_M_readFile_8 rfl ?_
  refine ws_iconst (v := 2) X d_M_readFile_10 rfl ?_
  refine ws_callV1 X (m_M_taken _ _ _ _ hP0) cv_M_taken ml_M_135 ob8 rfl rfl (Nat.le_of_ble_eq_true rfl) ⟨Nat.le_of_ble_eq_true rfl, Nat.le_of_ble_eq_true rfl⟩ ⟨Nat.zero_le _, Nat.zero_le _⟩ d_M_readFile_11 ?_
  refine ws_pop X d_M_readFile_14 rfl ?_
  refine ws_aload_n (i := 0) X d_M_readFile_15 rfl rfl ?_
  refine ws_bipush (v := 78) X d_M_readFile_16 rfl ?_
  refine ws_bipush (v := 78) X d_M_readFile_18 rfl ?_
  refine ws_iconst (v := 2) X d_M_readFile_20 rfl ?_
  refine ws_callV1 X (m_M_taken _ _ _ _ hP1) cv_M_taken ml_M_135 ob8 rfl rfl (Nat.le_of_ble_eq_true rfl) ⟨Nat.le_of_ble_eq_true rfl, Nat.le_of_ble_eq_true rfl⟩ ⟨Nat.zero_le _, Nat.zero_le _⟩ d_M_readFile_21 ?_
  refine WS_is (mf2 S) rfl ?_
  refine ws_pop X d_M_readFile_24 rfl ?_
  refine ws_aload_n (i := 0) X d_M_readFile_25 rfl rfl ?_
  refine ws_aload_n (i := 0) X d_M_readFile_26 rfl rfl ?_
  refine ws_iconst (v := 1) X d_M_readFile_27 rfl ?_
  refine ws_iconst (v := 2) X d_M_readFile_28 rfl ?_
  refine ws_iconst (v := 2) X d_M_readFile_29 rfl ?_
  refine ws_callV1 X (m_M_taken _ _ _ _ hP2) cv_M_taken ml_M_135 ob8 rfl rfl (Nat.le_of_ble_eq_true rfl) ⟨Nat.le_of_ble_eq_true rfl, Nat.le_of_ble_eq_true rfl⟩ ⟨Nat.zero_le _, Nat.zero_le _⟩ d_M_readFile_30 ?_
  refine ws_putI X fl_M_156 ob8 d_M_readFile_33 ?_
  refine WS_is (mf3 S) rfl ?_
  refine ws_aload_n (i := 0) X d_M_readFile_36 rfl rfl ?_
  refine ws_callV0 X (m_M_readPool _ hP3) cv_M_readPool ml_M_159 ob8 rfl rfl (Nat.le_of_ble_eq_true rfl) ⟨Nat.le_of_ble_eq_true rfl, Nat.le_of_ble_eq_true rfl⟩ ⟨Nat.zero_le _, Nat.zero_le _⟩ d_M_readFile_37 ?_
  refine ws_aload_n (i := 0) X d_M_readFile_40 rfl rfl ?_
  refine ws_aload_n (i := 0) X d_M_readFile_41 rfl rfl ?_
  refine ws_iconst (v := 1) X d_M_readFile_42 rfl ?_
  refine ws_iconst (v := 5) X d_M_readFile_43 rfl ?_
  refine ws_iconst (v := 3) X d_M_readFile_44 rfl ?_
  refine ws_callV1 X (m_M_taken _ _ _ _ hP4) cv_M_taken ml_M_135 ob8 rfl rfl (Nat.le_of_ble_eq_true rfl) ⟨Nat.le_of_ble_eq_true rfl, Nat.le_of_ble_eq_true rfl⟩ ⟨Nat.zero_le _, Nat.zero_le _⟩ d_M_readFile_45 ?_
  refine ws_putI X fl_M_162 ob8 d_M_readFile_48 ?_
  refine WS_is (mf5 S) rfl ?_
  refine ws_iconst (v := 0) X d_M_readFile_51 rfl ?_
  refine ws_istn_1 X rfl d_M_readFile_52 (by decide) ?_
  obtain ⟨en, hen, hE⟩ := mf5_en S
  obtain ⟨mt, hmt, hM⟩ := mf5_mt S
  refine l_mf X hen hmt mt 0 (mf5 S) (mf5_MP hT) (mf5_W hW) (fun _ k hk => absurd hk (Nat.not_lt_zero _)) hE hM (by omega) (fun j => ?_)
  refine WS_is (mf6 S) (by rw [mf6, hM, nI_c (by omega)]) ?_
  refine ws_aload_n (i := 0) X d_M_readFile_79 rfl rfl ?_
  refine ws_callV1 X (m_M_take _ hP6) cv_M_take ml_M_131 ob8 rfl rfl (Nat.le_of_ble_eq_true rfl) ⟨Nat.le_of_ble_eq_true rfl, Nat.le_of_ble_eq_true rfl⟩ ⟨Nat.zero_le _, Nat.zero_le _⟩ d_M_readFile_80 ?_
  refine ws_istn_1 X rfl d_M_readFile_83 (by decide) ?_
  refine ws_aload_n (i := 0) X d_M_readFile_84 rfl rfl ?_
  refine ws_getI X fl_M_118 ob8 d_M_readFile_85 ?_
  refine ws_if_ne X d_M_readFile_88 (fun h88 => ?_) (fun h88 => ?_)
  · refine WS_is (mf7 (mf6 S)) (by first | simp [mf7, hQ, nI_m1, nI_c (show q < 2 ^ 31 by omega), eq_false h88] | simp [mf7, eq_false h88]) ?_
    refine ws_aload_n (i := 0) X d_M_readFile_117 rfl rfl ?_
    refine ws_getI X fl_M_118 ob8 d_M_readFile_118 ?_
    refine ws_if_ne X d_M_readFile_121 (fun h121 => ?_) (fun h121 => ?_)
    · refine ws_vret X d_M_readFile_145 ?_
      exact ⟨rfl, by simp [mfS, mf8, eq_false h88, eq_false h121]⟩
    · refine ws_aload_n (i := 0) X d_M_readFile_124 rfl rfl ?_
      refine ws_getI X fl_M_124 ob8 d_M_readFile_125 ?_
      refine ws_aload_n (i := 0) X d_M_readFile_128 rfl rfl ?_
      refine ws_getI X fl_M_110 ob8 d_M_readFile_129 ?_
      refine ws_icmp_ge X d_M_readFile_132 (fun h132 => ?_) (fun h132 => ?_)
      · refine ws_vret X d_M_readFile_145 ?_
        exact ⟨rfl, by simp [mfS, mf8, eq_false h88, eq_true h121, eq_true h132]⟩
      · refine ws_aload_n (i := 0) X d_M_readFile_135 rfl rfl ?_
        refine ws_bipush (v := 10) X d_M_readFile_136 rfl ?_
        refine ws_aload_n (i := 0) X d_M_readFile_138 rfl rfl ?_
        refine ws_getI X fl_M_124 ob8 d_M_readFile_139 ?_
        refine ws_callV0 X (m_M_faults _ _ _) cv_M_faults ml_M_127 ob8 rfl rfl (Nat.le_of_ble_eq_true rfl) ⟨Nat.le_of_ble_eq_true rfl, Nat.le_of_ble_eq_true rfl⟩ ⟨Nat.zero_le _, Nat.zero_le _⟩ d_M_readFile_142 ?_
        refine ws_vret X d_M_readFile_145 ?_
        exact ⟨rfl, by simp [mfS, mf8, eq_false h88, eq_true h121, eq_false h132]⟩
  · obtain ⟨q, hq, hQ⟩ := mTake_pos hP6 h88
    refine ws_iload_n (i := 1) X d_M_readFile_91 rfl rfl ?_
    refine ws_aload_n (i := 0) X d_M_readFile_92 rfl rfl ?_
    refine ws_aload_n (i := 0) X d_M_readFile_93 rfl rfl ?_
    refine ws_getI X fl_M_124 ob8 d_M_readFile_94 ?_
    refine ws_iconst (v := 1) X d_M_readFile_97 rfl ?_
    refine ws_isub X d_M_readFile_98 ?_
    rw [hQ, nI_m1]
    refine ws_callV1 X (m_M_sumAhead _ _ (by omega)) cv_M_sumAhead ml_M_114 ob8 rfl rfl (Nat.le_of_ble_eq_true rfl) ⟨Nat.le_of_ble_eq_true rfl, Nat.le_of_ble_eq_true rfl⟩ ⟨Nat.zero_le _, Nat.zero_le _⟩ d_M_readFile_99 ?_
    refine ws_icmp_eq X d_M_readFile_102 (fun h102 => ?_) (fun h102 => ?_)
    · refine WS_is (mf7 (mf6 S)) (by first | simp [mf7, hQ, nI_m1, nI_c (show q < 2 ^ 31 by omega), eq_true h88, eq_true h102] | simp [mf7, eq_true h88, eq_true h102]) ?_
      refine ws_aload_n (i := 0) X d_M_readFile_117 rfl rfl ?_
      refine ws_getI X fl_M_118 ob8 d_M_readFile_118 ?_
      refine ws_if_ne X d_M_readFile_121 (fun h121 => ?_) (fun h121 => ?_)
      · refine ws_vret X d_M_readFile_145 ?_
        exact ⟨rfl, by simp [mfS, mf8, eq_true h88, eq_true h102, eq_false h121]⟩
      · refine ws_aload_n (i := 0) X d_M_readFile_124 rfl rfl ?_
        refine ws_getI X fl_M_124 ob8 d_M_readFile_125 ?_
        refine ws_aload_n (i := 0) X d_M_readFile_128 rfl rfl ?_
        refine ws_getI X fl_M_110 ob8 d_M_readFile_129 ?_
        refine ws_icmp_ge X d_M_readFile_132 (fun h132 => ?_) (fun h132 => ?_)
        · refine ws_vret X d_M_readFile_145 ?_
          exact ⟨rfl, by simp [mfS, mf8, eq_true h88, eq_true h102, eq_true h121, eq_true h132]⟩
        · refine ws_aload_n (i := 0) X d_M_readFile_135 rfl rfl ?_
          refine ws_bipush (v := 10) X d_M_readFile_136 rfl ?_
          refine ws_aload_n (i := 0) X d_M_readFile_138 rfl rfl ?_
          refine ws_getI X fl_M_124 ob8 d_M_readFile_139 ?_
          refine ws_callV0 X (m_M_faults _ _ _) cv_M_faults ml_M_127 ob8 rfl rfl (Nat.le_of_ble_eq_true rfl) ⟨Nat.le_of_ble_eq_true rfl, Nat.le_of_ble_eq_true rfl⟩ ⟨Nat.zero_le _, Nat.zero_le _⟩ d_M_readFile_142 ?_
          refine ws_vret X d_M_readFile_145 ?_
          exact ⟨rfl, by simp [mfS, mf8, eq_true h88, eq_true h102, eq_true h121, eq_false h132]⟩
    · refine ws_aload_n (i := 0) X d_M_readFile_105 rfl rfl ?_
      refine ws_bipush (v := 9) X d_M_readFile_106 rfl ?_
      refine ws_aload_n (i := 0) X d_M_readFile_108 rfl rfl ?_
      refine ws_getI X fl_M_124 ob8 d_M_readFile_109 ?_
      refine ws_iconst (v := 1) X d_M_readFile_112 rfl ?_
      refine ws_isub X d_M_readFile_113 ?_
      refine ws_callV0 X (m_M_faults _ _ _) cv_M_faults ml_M_127 ob8 rfl rfl (Nat.le_of_ble_eq_true rfl) ⟨Nat.le_of_ble_eq_true rfl, Nat.le_of_ble_eq_true rfl⟩ ⟨Nat.zero_le _, Nat.zero_le _⟩ d_M_readFile_114 ?_
      refine WS_is (mf7 (mf6 S)) (by first | simp [mf7, hQ, nI_m1, nI_c (show q < 2 ^ 31 by omega), eq_true h88, eq_false h102] | simp [mf7, eq_true h88, eq_false h102]) ?_
      refine ws_aload_n (i := 0) X d_M_readFile_117 rfl rfl ?_
      refine ws_getI X fl_M_118 ob8 d_M_readFile_118 ?_
      refine ws_if_ne X d_M_readFile_121 (fun h121 => ?_) (fun h121 => ?_)
      · refine ws_vret X d_M_readFile_145 ?_
        exact ⟨rfl, by simp [mfS, mf8, eq_true h88, eq_false h102, eq_false h121]⟩
      · refine ws_aload_n (i := 0) X d_M_readFile_124 rfl rfl ?_
        refine ws_getI X fl_M_124 ob8 d_M_readFile_125 ?_
        refine ws_aload_n (i := 0) X d_M_readFile_128 rfl rfl ?_
        refine ws_getI X fl_M_110 ob8 d_M_readFile_129 ?_
        refine ws_icmp_ge X d_M_readFile_132 (fun h132 => ?_) (fun h132 => ?_)
        · refine ws_vret X d_M_readFile_145 ?_
          exact ⟨rfl, by simp [mfS, mf8, eq_true h88, eq_false h102, eq_true h121, eq_true h132]⟩
        · refine ws_aload_n (i := 0) X d_M_readFile_135 rfl rfl ?_
          refine ws_bipush (v := 10) X d_M_readFile_136 rfl ?_
          refine ws_aload_n (i := 0) X d_M_readFile_138 rfl rfl ?_
          refine ws_getI X fl_M_124 ob8 d_M_readFile_139 ?_
          refine ws_callV0 X (m_M_faults _ _ _) cv_M_faults ml_M_127 ob8 rfl rfl (Nat.le_of_ble_eq_true rfl) ⟨Nat.le_of_ble_eq_true rfl, Nat.le_of_ble_eq_true rfl⟩ ⟨Nat.zero_le _, Nat.zero_le _⟩ d_M_readFile_142 ?_
          refine ws_vret X d_M_readFile_145 ?_
          exact ⟨rfl, by simp [mfS, mf8, eq_true h88, eq_false h102, eq_true h121, eq_false h132]⟩


