/-! the model reads: MAPs and methods -/
theorem WS_is {p : Program} {l : Launch} {e : Env} {R : Room} {s : State} {m : MethodId} {args : Array Value} {below : List Frame} {meth : Method} {c : Code} {G : GG} {A : Nat → Prop} {nL cells slots : Nat} {Q : State → Prop} {pc : Nat} {lv : List (Option MV)} {st : List MV} {S : MS} (S' : MS) (h : S' = S) (k : WS p l e R s m args below meth c G A nL cells slots Q pc lv st S') : WS p l e R s m args below meth c G A nL cells slots Q pc lv st S := h ▸ k
theorem ixN (c e k : Nat) : nI c * nI e + nI k = nI (c * e + k) := by rw [pk_mul, nI_add]
/-- a byte within bounds is put into an array -/
def setT (S : MS) (kd i : Nat) (lo up w : Int32) : MS := wI (mTknS S lo up w) kd 0 i (mTknV S lo up w)
theorem setT_MP {S : MS} {kd : Nat} (i : Nat) (lo up w : Int32) (h8 : kd ≠ 8) (h24 : kd ≠ 24) (h : MP S) : MP (setT S kd i lo up w) := (mTknS_MP lo up w h).same (wI_o _ _ _ _ _ _ _ _ (fun z => h8 z.1.symm)) (wI_o _ _ _ _ _ _ _ _ (fun z => h8 z.1.symm)) (fun j => wI_o _ _ _ _ _ _ _ _ (fun z => h24 z.1.symm))
theorem setT_o (S : MS) (kd i : Nat) (lo up w : Int32) (b c d : Nat) (h1 : ¬ (b = 8 ∧ c = 0 ∧ d = 28)) (h2 : ¬ (b = 8 ∧ c = 0 ∧ d = 29)) (h3 : ¬ (b = 8 ∧ c = 0 ∧ d = 31)) (h4 : ¬ (b = kd ∧ c = 0 ∧ d = i)) : (setT S kd i lo up w).1 b c d = S.1 b c d := by
  rw [setT, wI_o _ _ _ _ _ _ _ _ h4, mTknS_o _ _ _ _ _ _ _ h1 h2 h3]
theorem setT_rd (S : MS) (kd i : Nat) (lo up w : Int32) : (setT S kd i lo up w).1 kd 0 i = mTknV S lo up w := wI_rd ..
def fillGo (kd a : Nat) (lo up : Int32) : Nat → Nat → MS → MS
  | 0, _, S => S
  | n + 1, l, S => fillGo kd a lo up n (l + 1) (setT S kd (a + l) lo up 7)
theorem fillGo_MP {kd : Nat} (a : Nat) (lo up : Int32) (h8 : kd ≠ 8) (h24 : kd ≠ 24) : ∀ (n l : Nat) (S : MS), MP S → MP (fillGo kd a lo up n l S)
  | 0, _, _, h => h
  | n + 1, l, S, h => fillGo_MP a lo up h8 h24 n (l + 1) _ (setT_MP _ _ _ _ h8 h24 h)
theorem fillGo_o (kd a : Nat) (lo up : Int32) (b c d : Nat) (h1 : ¬ (b = 8 ∧ c = 0 ∧ d = 28)) (h2 : ¬ (b = 8 ∧ c = 0 ∧ d = 29)) (h3 : ¬ (b = 8 ∧ c = 0 ∧ d = 31)) (h4 : b ≠ kd) : ∀ (n l : Nat) (S : MS), (fillGo kd a lo up n l S).1 b c d = S.1 b c d
  | 0, _, _ => rfl
  | n + 1, l, S => by rw [fillGo, fillGo_o kd a lo up b c d h1 h2 h3 h4 n, setT_o _ _ _ _ _ _ _ _ _ h1 h2 h3 (fun z => h4 z.1)]
section L36
variable {p : Program} {l : Launch} {e0 : Env} {s : State} {m0 : MethodId} {args : Array Value} {below : List Frame} {meth : Method} {c0 : Code} {G : GG} {A : Nat → Prop} {Q : State → Prop}
theorem l_rmL (X : CX p s m0 args meth c0 G A c_M_readMap y_M_readMap.cls 6 (none)) {m k a lc : Nat} {x4 : Int32} (hm : m < 5) (ha : a < 40) (hl : lc ≤ 6) : ∀ (n i : Nat) (S : MS), MP S → S.1 34 0 m = nI lc → i + n = lc → (∀ j : Int32, WS p l e0 (rmS 3 66) s m0 args below meth c0 G A 6 0 0 Q 108 [some (.inr (8, 0)), some (.inl (.int (nI m))), some (.inl (.int (nI k))), some (.inl (.int (nI a))), some (.inl (.int x4)), some (.inl (.int j))] [] (fillGo 40 (6 * a) 0 2 n i S)) → WS p l e0 (rmS 3 66) s m0 args below meth c0 G A 6 0 0 Q 71 [some (.inr (8, 0)), some (.inl (.int (nI m))), some (.inl (.int (nI k))), some (.inl (.int (nI a))), some (.inl (.int x4)), some (.inl (.int (nI i)))] [] (S) := by
  intro n
  have hcm := nI_c (i := m) (by omega)
  have hinm : vp_in (nI m) 5 := vp_in_nI hm (by omega)
  induction n with
  | zero =>
    intro i S hP hS hi' K
    have hh : S.1 34 0 m ≤ nI i := by rw [hS, nI_leI (by omega) (by omega)]; omega
    refine ws_iload (i := 5) X d_M_readMap_71 rfl ?_
    refine ws_aload_n (i := 0) X d_M_readMap_73 rfl rfl ?_
    refine ws_getR X fl_M_42 ob8 d_M_readMap_74 ?_
    refine ws_iload_n (i := 1) X d_M_readMap_77 rfl rfl ?_
    refine ws_iald X ak34 ob34 (by assumption) d_M_readMap_78 ?_
    rw [hcm]
    refine ws_icmp_ge X d_M_readMap_79 (fun h79 => ?_) (fun h79 => ?_)
    · exact K _
    · exact absurd hh h79
  | succ n ih =>
    intro i S hP hS hi' K
    have hh : ¬ S.1 34 0 m ≤ nI i := by rw [hS, nI_leI (by omega) (by omega)]; omega
    have hin : vp_in (nI (6 * a + i)) 240 := vp_in_nI (by omega) (by omega)
    have hc8 := nI_c (i := 6 * a + i) (by omega)
    rw [fillGo] at K
    refine ws_iload (i := 5) X d_M_readMap_71 rfl ?_
    refine ws_aload_n (i := 0) X d_M_readMap_73 rfl rfl ?_
    refine ws_getR X fl_M_42 ob8 d_M_readMap_74 ?_
    refine ws_iload_n (i := 1) X d_M_readMap_77 rfl rfl ?_
    refine ws_iald X ak34 ob34 (by assumption) d_M_readMap_78 ?_
    rw [hcm]
    refine ws_icmp_ge X d_M_readMap_79 (fun h79 => ?_) (fun h79 => ?_)
    · exact absurd h79 hh
    · refine ws_aload_n (i := 0) X d_M_readMap_82 rfl rfl ?_
      refine ws_getR X fl_M_60 ob8 d_M_readMap_83 ?_
      refine ws_bipush (v := 6) X d_M_readMap_86 rfl ?_
      refine ws_iload_n (i := 3) X d_M_readMap_88 rfl rfl ?_
      refine ws_imul X d_M_readMap_89 ?_
      refine ws_iload (i := 5) X d_M_readMap_90 rfl ?_
      refine ws_iadd X d_M_readMap_92 ?_
      rw [show (6 : Int32) = nI 6 from rfl, ixN]
      refine ws_aload_n (i := 0) X d_M_readMap_93 rfl rfl ?_
      refine ws_iconst (v := 0) X d_M_readMap_94 rfl ?_
      refine ws_iconst (v := 2) X d_M_readMap_95 rfl ?_
      refine ws_bipush (v := 7) X d_M_readMap_96 rfl ?_
      refine ws_callV1 X (m_M_taken _ _ _ _ (by assumption)) cv_M_taken ml_M_135 ob8 rfl rfl (Nat.le_of_ble_eq_true rfl) ⟨Nat.le_of_ble_eq_true rfl, Nat.le_of_ble_eq_true rfl⟩ ⟨Nat.zero_le _, Nat.zero_le _⟩ d_M_readMap_98 ?_
      refine ws_iast X ak40 ob40 (by assumption) d_M_readMap_101 ?_
      rw [hc8]
      refine ws_iinc_5 X rfl d_M_readMap_102 rfl (by decide) ?_
      refine ws_goto X d_M_readMap_105 ?_
      rw [nI_inc]; exact ih (i + 1) _ (setT_MP _ _ _ _ (by decide) (by decide) hP) (by show (setT S 40 (6 * a + i) 0 2 7).1 34 0 m = nI lc; rw [setT_o _ _ _ _ _ _ _ _ _ (fun z => absurd z.1 (by decide)) (fun z => absurd z.1 (by decide)) (fun z => absurd z.1 (by decide)) (fun z => absurd z.1 (by decide))]; exact hS) (by omega) K
theorem l_rmS (X : CX p s m0 args meth c0 G A c_M_readMap y_M_readMap.cls 6 (none)) {m k a dp : Nat} {x4 : Int32} (ha : a < 40) (hl : dp ≤ 6) : ∀ (n i : Nat) (S : MS), MP S → S.1 41 0 a = nI dp → i + n = dp → (∀ j : Int32, WS p l e0 (rmS 3 66) s m0 args below meth c0 G A 6 0 0 Q 166 [some (.inr (8, 0)), some (.inl (.int (nI m))), some (.inl (.int (nI k))), some (.inl (.int (nI a))), some (.inl (.int x4)), some (.inl (.int j))] [] (fillGo 42 (6 * a) 1 2 n i S)) → WS p l e0 (rmS 3 66) s m0 args below meth c0 G A 6 0 0 Q 129 [some (.inr (8, 0)), some (.inl (.int (nI m))), some (.inl (.int (nI k))), some (.inl (.int (nI a))), some (.inl (.int x4)), some (.inl (.int (nI i)))] [] (S) := by
  intro n
  have hcm := nI_c (i := a) (by omega)
  have hinm : vp_in (nI a) 40 := vp_in_nI ha (by omega)
  induction n with
  | zero =>
    intro i S hP hS hi' K
    have hh : S.1 41 0 a ≤ nI i := by rw [hS, nI_leI (by omega) (by omega)]; omega
    refine ws_iload (i := 5) X d_M_readMap_129 rfl ?_
    refine ws_aload_n (i := 0) X d_M_readMap_131 rfl rfl ?_
    refine ws_getR X fl_M_63 ob8 d_M_readMap_132 ?_
    refine ws_iload_n (i := 3) X d_M_readMap_135 rfl rfl ?_
    refine ws_iald X ak41 ob41 (by assumption) d_M_readMap_136 ?_
    rw [hcm]
    refine ws_icmp_ge X d_M_readMap_137 (fun h137 => ?_) (fun h137 => ?_)
    · exact K _
    · exact absurd hh h137
  | succ n ih =>
    intro i S hP hS hi' K
    have hh : ¬ S.1 41 0 a ≤ nI i := by rw [hS, nI_leI (by omega) (by omega)]; omega
    have hin : vp_in (nI (6 * a + i)) 240 := vp_in_nI (by omega) (by omega)
    have hc8 := nI_c (i := 6 * a + i) (by omega)
    rw [fillGo] at K
    refine ws_iload (i := 5) X d_M_readMap_129 rfl ?_
    refine ws_aload_n (i := 0) X d_M_readMap_131 rfl rfl ?_
    refine ws_getR X fl_M_63 ob8 d_M_readMap_132 ?_
    refine ws_iload_n (i := 3) X d_M_readMap_135 rfl rfl ?_
    refine ws_iald X ak41 ob41 (by assumption) d_M_readMap_136 ?_
    rw [hcm]
    refine ws_icmp_ge X d_M_readMap_137 (fun h137 => ?_) (fun h137 => ?_)
    · exact absurd h137 hh
    · refine ws_aload_n (i := 0) X d_M_readMap_140 rfl rfl ?_
      refine ws_getR X fl_M_66 ob8 d_M_readMap_141 ?_
      refine ws_bipush (v := 6) X d_M_readMap_144 rfl ?_
      refine ws_iload_n (i := 3) X d_M_readMap_146 rfl rfl ?_
      refine ws_imul X d_M_readMap_147 ?_
      refine ws_iload (i := 5) X d_M_readMap_148 rfl ?_
      refine ws_iadd X d_M_readMap_150 ?_
      rw [show (6 : Int32) = nI 6 from rfl, ixN]
      refine ws_aload_n (i := 0) X d_M_readMap_151 rfl rfl ?_
      refine ws_iconst (v := 1) X d_M_readMap_152 rfl ?_
      refine ws_iconst (v := 2) X d_M_readMap_153 rfl ?_
      refine ws_bipush (v := 7) X d_M_readMap_154 rfl ?_
      refine ws_callV1 X (m_M_taken _ _ _ _ (by assumption)) cv_M_taken ml_M_135 ob8 rfl rfl (Nat.le_of_ble_eq_true rfl) ⟨Nat.le_of_ble_eq_true rfl, Nat.le_of_ble_eq_true rfl⟩ ⟨Nat.zero_le _, Nat.zero_le _⟩ d_M_readMap_156 ?_
      refine ws_iast X ak42 ob42 (by assumption) d_M_readMap_159 ?_
      rw [hc8]
      refine ws_iinc_5 X rfl d_M_readMap_160 rfl (by decide) ?_
      refine ws_goto X d_M_readMap_163 ?_
      rw [nI_inc]; exact ih (i + 1) _ (setT_MP _ _ _ _ (by decide) (by decide) hP) (by show (setT S 42 (6 * a + i) 1 2 7).1 41 0 a = nI dp; rw [setT_o _ _ _ _ _ _ _ _ _ (fun z => absurd z.1 (by decide)) (fun z => absurd z.1 (by decide)) (fun z => absurd z.1 (by decide)) (fun z => absurd z.1 (by decide))]; exact hS) (by omega) K
end L36
def rmBad (T : MS) (m k : Nat) (p : Int32) : Bool := decide (T.1 36 0 m ≤ p) || (decide (¬ nI k ≤ 0) && decide (¬ T.1 39 0 (8 * m + k - 1) < p))
def rm1 (S : MS) (m k : Nat) : MS := wI (if rmBad (mTakeS S) m k (mTakeV S) = true then mFaultS (mTakeS S) 8 ((mTakeS S).1 8 0 31 - 1) else mTakeS S) 39 0 (8 * m + k) (mTakeV S)
def rm2 (S : MS) (m k : Nat) : MS := fillGo 40 (6 * (8 * m + k)) 0 2 (S.1 34 0 m).toNatClampNeg 0 (rm1 S m k)
def rm3 (S : MS) (m k : Nat) : MS := setT (rm2 S m k) 41 (8 * m + k) 0 (S.1 35 0 m) 3
def rmS' (S : MS) (m k : Nat) : MS := fillGo 42 (6 * (8 * m + k)) 1 2 (mTknV (rm2 S m k) 0 (S.1 35 0 m) 3).toNatClampNeg 0 (rm3 S m k)
theorem rm1_MP {S : MS} (m k : Nat) (h : MP S) : MP (rm1 S m k) := by
  have h1 : ∀ T : MS, MP T → MP (wI T 39 0 (8 * m + k) (mTakeV S)) := fun T hT => hT.same (wI_o _ _ _ _ _ _ _ _ (fun z => absurd z.1 (by decide))) (wI_o _ _ _ _ _ _ _ _ (fun z => absurd z.1 (by decide))) (fun j => wI_o _ _ _ _ _ _ _ _ (fun z => absurd z.1 (by decide)))
  unfold rm1
  by_cases hb : rmBad (mTakeS S) m k (mTakeV S) = true
  · rw [if_pos hb]; exact h1 _ ((mTakeS_MP h).same (mFaultS_o _ _ _ _ _ _ (by decide) (by decide)) (mFaultS_o _ _ _ _ _ _ (by decide) (by decide)) (fun j => mFaultS_o _ _ _ _ _ _ (fun z => absurd z.1 (by decide)) (fun z => absurd z.1 (by decide))))
  · rw [if_neg hb]; exact h1 _ (mTakeS_MP h)
theorem rm1_o (S : MS) (m k b c d : Nat) (h1 : ¬ (b = 8 ∧ c = 0 ∧ d = 28)) (h2 : ¬ (b = 8 ∧ c = 0 ∧ d = 29)) (h3 : ¬ (b = 8 ∧ c = 0 ∧ d = 31)) (h4 : b ≠ 39) : (rm1 S m k).1 b c d = S.1 b c d := by
  unfold rm1
  rw [wI_o _ _ _ _ _ _ _ _ (fun z => h4 z.1)]
  by_cases hb : rmBad (mTakeS S) m k (mTakeV S) = true
  · rw [if_pos hb, mFaultS_o _ _ _ _ _ _ h1 h2, mTakeS_o _ _ _ _ h1 h2 h3]
  · rw [if_neg hb, mTakeS_o _ _ _ _ h1 h2 h3]
theorem rm2_MP {S : MS} (m k : Nat) (h : MP S) : MP (rm2 S m k) := fillGo_MP _ _ _ (by decide) (by decide) _ _ _ (rm1_MP m k h)
theorem rm2_o (S : MS) (m k b c d : Nat) (h1 : ¬ (b = 8 ∧ c = 0 ∧ d = 28)) (h2 : ¬ (b = 8 ∧ c = 0 ∧ d = 29)) (h3 : ¬ (b = 8 ∧ c = 0 ∧ d = 31)) (h4 : b ≠ 39) (h5 : b ≠ 40) : (rm2 S m k).1 b c d = S.1 b c d := by rw [rm2, fillGo_o _ _ _ _ _ _ _ h1 h2 h3 h5, rm1_o _ _ _ _ _ _ h1 h2 h3 h4]
theorem rm3_MP {S : MS} (m k : Nat) (h : MP S) : MP (rm3 S m k) := setT_MP _ _ _ _ (by decide) (by decide) (rm2_MP m k h)
theorem rmS'_MP {S : MS} (m k : Nat) (h : MP S) : MP (rmS' S m k) := fillGo_MP _ _ _ (by decide) (by decide) _ _ _ (rm3_MP m k h)
theorem rmS'_o (S : MS) (m k b c d : Nat) (h1 : ¬ (b = 8 ∧ c = 0 ∧ d = 28)) (h2 : ¬ (b = 8 ∧ c = 0 ∧ d = 29)) (h3 : ¬ (b = 8 ∧ c = 0 ∧ d = 31)) (h4 : b ≠ 39) (h5 : b ≠ 40) (h6 : b ≠ 41) (h7 : b ≠ 42) : (rmS' S m k).1 b c d = S.1 b c d := by rw [rmS', fillGo_o _ _ _ _ _ _ _ h1 h2 h3 h7, rm3, setT_o _ _ _ _ _ _ _ _ _ h1 h2 h3 (fun z => h6 z.1), rm2_o _ _ _ _ _ _ h1 h2 h3 h4 h5]
theorem m_M_readMap (S : MS) (m k lc st : Nat) (hm : m < 5) (hk : k < 8) (hP : MP S) (hL : S.1 34 0 m = nI lc) (hlc : lc ≤ 6) (hT : S.1 35 0 m = nI st) (hst : st ≤ 6) : MetE y_M_readMap c_M_readMap 6 (none) 3 66 [.inr (8, 0), .inl (.int (nI m)), .inl (.int (nI k))] S (none) (rmS' S m k) := by
  refine MetS.of (lv0 := [some (.inr (8, 0)), some (.inl (.int (nI m))), some (.inl (.int (nI k))), none, none, none]) pn_M rfl (Nat.le_of_ble_eq_true rfl) (fun p0 l0 e0 s0 m0 args below meth c0 G X => ?_)
  have hcm := nI_c (i := m) (by omega)
  have hca := nI_c (i := 8 * m + k) (by omega)
  have hinm : vp_in (nI m) 5 := vp_in_nI hm (by omega)
  have hina : vp_in (nI (8 * m + k)) 40 := vp_in_nI (by omega) (by omega)
  have hd : ∀ h : ¬ nI k ≤ 0, nI (8 * m + k) - 1 = nI (8 * m + k - 1) := fun h => by
      rcases k with _ | k
      · exact absurd (by decide) h
      · rw [show 8 * m + (k + 1) = 8 * m + k + 1 from rfl, nI_m1]; rfl
  have hind : vp_in (nI (8 * m + k - 1)) 40 := vp_in_nI (by omega) (by omega)
  have hcd := nI_c (i := 8 * m + k - 1) (by omega)
  refine ws_bipush (v := 8) X d_M_readMap_0 rfl ?_
  refine ws_iload_n (i := 1) X d_M_readMap_2 rfl rfl ?_
  refine ws_imul X d_M_readMap_3 ?_
  refine ws_iload_n (i := 2) X d_M_readMap_4 rfl rfl ?_
  refine ws_iadd X d_M_readMap_5 ?_
  rw [show (8 : Int32) = nI 8 from rfl, ixN]
  refine ws_istn_3 X rfl d_M_readMap_6 (by decide) ?_
  refine ws_aload_n (i := 0) X d_M_readMap_7 rfl rfl ?_
  refine ws_callV1 X (m_M_take _ (by assumption)) cv_M_take ml_M_131 ob8 rfl rfl (Nat.le_of_ble_eq_true rfl) ⟨Nat.le_of_ble_eq_true rfl, Nat.le_of_ble_eq_true rfl⟩ ⟨Nat.zero_le _, Nat.zero_le _⟩ d_M_readMap_8 ?_
  refine ws_ist_4 X rfl d_M_readMap_11 (by decide) ?_
  refine ws_aload_n (i := 0) X d_M_readMap_13 rfl rfl ?_
  refine ws_getI X fl_M_118 ob8 d_M_readMap_14 ?_
  refine ws_if_ne X d_M_readMap_17 (fun h17 => ?_) (fun h17 => ?_)
  · refine ws_aload_n (i := 0) X d_M_readMap_60 rfl rfl ?_
    refine ws_getR X fl_M_57 ob8 d_M_readMap_61 ?_
    refine ws_iload_n (i := 3) X d_M_readMap_64 rfl rfl ?_
    refine ws_iload (i := 4) X d_M_readMap_65 rfl ?_
    refine ws_iast X ak39 ob39 (by assumption) d_M_readMap_67 ?_
    rw [hca]; refine WS_is (rm1 S m k) (by simp [rm1, rmBad, mFaultS, eq_false h17]) ?_
    refine ws_iconst (v := 0) X d_M_readMap_68 rfl ?_
    refine ws_ist_5 X rfl d_M_readMap_69 (by decide) ?_
    have eL : (rm1 S m k).1 34 0 m = nI lc := by rw [rm1_o _ _ _ _ _ _ (fun z => absurd z.1 (by decide)) (fun z => absurd z.1 (by decide)) (fun z => absurd z.1 (by decide)) (by decide)]; exact hL
    have e2 : rm2 S m k = fillGo 40 (6 * (8 * m + k)) 0 2 lc 0 (rm1 S m k) := by rw [rm2, hL, nI_c (by omega)]
    have eT : (rm2 S m k).1 35 0 m = nI st := by rw [rm2_o _ _ _ _ _ _ (fun z => absurd z.1 (by decide)) (fun z => absurd z.1 (by decide)) (fun z => absurd z.1 (by decide)) (by decide) (by decide)]; exact hT
    have hP2 := rm2_MP m k hP
    refine l_rmL X hm (by omega) hlc lc 0 (rm1 S m k) (rm1_MP m k hP) eL (by omega) (fun j => ?_)
    rw [← e2]
    refine ws_aload_n (i := 0) X d_M_readMap_108 rfl rfl ?_
    refine ws_getR X fl_M_63 ob8 d_M_readMap_109 ?_
    refine ws_iload_n (i := 3) X d_M_readMap_112 rfl rfl ?_
    refine ws_aload_n (i := 0) X d_M_readMap_113 rfl rfl ?_
    refine ws_iconst (v := 0) X d_M_readMap_114 rfl ?_
    refine ws_aload_n (i := 0) X d_M_readMap_115 rfl rfl ?_
    refine ws_getR X fl_M_45 ob8 d_M_readMap_116 ?_
    refine ws_iload_n (i := 1) X d_M_readMap_119 rfl rfl ?_
    refine ws_iald X ak35 ob35 (by assumption) d_M_readMap_120 ?_
    rw [hcm, eT]
    refine ws_iconst (v := 3) X d_M_readMap_121 rfl ?_
    refine ws_callV1 X (m_M_taken _ _ _ _ (by assumption)) cv_M_taken ml_M_135 ob8 rfl rfl (Nat.le_of_ble_eq_true rfl) ⟨Nat.le_of_ble_eq_true rfl, Nat.le_of_ble_eq_true rfl⟩ ⟨Nat.zero_le _, Nat.zero_le _⟩ d_M_readMap_122 ?_
    refine ws_iast X ak41 ob41 (by assumption) d_M_readMap_125 ?_
    rw [hca]
    refine ws_iconst (v := 0) X d_M_readMap_126 rfl ?_
    refine ws_ist_5 X rfl d_M_readMap_127 (by decide) ?_
    obtain ⟨dp, hdp, hD⟩ := mTknV_rng (rm2 S m k) (lo := 0) (M := nI st) (w := 3) (n := st) (nI_toInt (by omega)) (by decide) (by decide)
    refine WS_is (rm3 S m k) (by rw [rm3, hT]; rfl) ?_
    refine l_rmS X (dp := dp) (by omega) (by omega) dp 0 (rm3 S m k) (rm3_MP m k hP) (by rw [rm3, hT, setT_rd]; exact hD) (by omega) (fun j => ?_)
    refine WS_is (rmS' S m k) (by rw [rmS', hT, hD, nI_c (by omega)]) ?_
    refine ws_vret X d_M_readMap_166 ?_
    exact ⟨rfl, rfl⟩
  · refine ws_iload (i := 4) X d_M_readMap_20 rfl ?_
    refine ws_aload_n (i := 0) X d_M_readMap_22 rfl rfl ?_
    refine ws_getR X fl_M_48 ob8 d_M_readMap_23 ?_
    refine ws_iload_n (i := 1) X d_M_readMap_26 rfl rfl ?_
    refine ws_iald X ak36 ob36 (by assumption) d_M_readMap_27 ?_
    rw [hcm]
    refine ws_icmp_ge X d_M_readMap_28 (fun h28 => ?_) (fun h28 => ?_)
    · refine ws_aload_n (i := 0) X d_M_readMap_48 rfl rfl ?_
      refine ws_bipush (v := 8) X d_M_readMap_49 rfl ?_
      refine ws_aload_n (i := 0) X d_M_readMap_51 rfl rfl ?_
      refine ws_getI X fl_M_124 ob8 d_M_readMap_52 ?_
      refine ws_iconst (v := 1) X d_M_readMap_55 rfl ?_
      refine ws_isub X d_M_readMap_56 ?_
      refine ws_callV0 X (m_M_faults _ _ _) cv_M_faults ml_M_127 ob8 rfl rfl (Nat.le_of_ble_eq_true rfl) ⟨Nat.le_of_ble_eq_true rfl, Nat.le_of_ble_eq_true rfl⟩ ⟨Nat.zero_le _, Nat.zero_le _⟩ d_M_readMap_57 ?_
      refine ws_aload_n (i := 0) X d_M_readMap_60 rfl rfl ?_
      refine ws_getR X fl_M_57 ob8 d_M_readMap_61 ?_
      refine ws_iload_n (i := 3) X d_M_readMap_64 rfl rfl ?_
      refine ws_iload (i := 4) X d_M_readMap_65 rfl ?_
      refine ws_iast X ak39 ob39 (by assumption) d_M_readMap_67 ?_
      rw [hca]; refine WS_is (rm1 S m k) (by simp [rm1, rmBad, mFaultS, eq_true h17, eq_true h28]) ?_
      refine ws_iconst (v := 0) X d_M_readMap_68 rfl ?_
      refine ws_ist_5 X rfl d_M_readMap_69 (by decide) ?_
      have eL : (rm1 S m k).1 34 0 m = nI lc := by rw [rm1_o _ _ _ _ _ _ (fun z => absurd z.1 (by decide)) (fun z => absurd z.1 (by decide)) (fun z => absurd z.1 (by decide)) (by decide)]; exact hL
      have e2 : rm2 S m k = fillGo 40 (6 * (8 * m + k)) 0 2 lc 0 (rm1 S m k) := by rw [rm2, hL, nI_c (by omega)]
      have eT : (rm2 S m k).1 35 0 m = nI st := by rw [rm2_o _ _ _ _ _ _ (fun z => absurd z.1 (by decide)) (fun z => absurd z.1 (by decide)) (fun z => absurd z.1 (by decide)) (by decide) (by decide)]; exact hT
      have hP2 := rm2_MP m k hP
      refine l_rmL X hm (by omega) hlc lc 0 (rm1 S m k) (rm1_MP m k hP) eL (by omega) (fun j => ?_)
      rw [← e2]
      refine ws_aload_n (i := 0) X d_M_readMap_108 rfl rfl ?_
      refine ws_getR X fl_M_63 ob8 d_M_readMap_109 ?_
      refine ws_iload_n (i := 3) X d_M_readMap_112 rfl rfl ?_
      refine ws_aload_n (i := 0) X d_M_readMap_113 rfl rfl ?_
      refine ws_iconst (v := 0) X d_M_readMap_114 rfl ?_
      refine ws_aload_n (i := 0) X d_M_readMap_115 rfl rfl ?_
      refine ws_getR X fl_M_45 ob8 d_M_readMap_116 ?_
      refine ws_iload_n (i := 1) X d_M_readMap_119 rfl rfl ?_
      refine ws_iald X ak35 ob35 (by assumption) d_M_readMap_120 ?_
      rw [hcm, eT]
      refine ws_iconst (v := 3) X d_M_readMap_121 rfl ?_
      refine ws_callV1 X (m_M_taken _ _ _ _ (by assumption)) cv_M_taken ml_M_135 ob8 rfl rfl (Nat.le_of_ble_eq_true rfl) ⟨Nat.le_of_ble_eq_true rfl, Nat.le_of_ble_eq_true rfl⟩ ⟨Nat.zero_le _, Nat.zero_le _⟩ d_M_readMap_122 ?_
      refine ws_iast X ak41 ob41 (by assumption) d_M_readMap_125 ?_
      rw [hca]
      refine ws_iconst (v := 0) X d_M_readMap_126 rfl ?_
      refine ws_ist_5 X rfl d_M_readMap_127 (by decide) ?_
      obtain ⟨dp, hdp, hD⟩ := mTknV_rng (rm2 S m k) (lo := 0) (M := nI st) (w := 3) (n := st) (nI_toInt (by omega)) (by decide) (by decide)
      refine WS_is (rm3 S m k) (by rw [rm3, hT]; rfl) ?_
      refine l_rmS X (dp := dp) (by omega) (by omega) dp 0 (rm3 S m k) (rm3_MP m k hP) (by rw [rm3, hT, setT_rd]; exact hD) (by omega) (fun j => ?_)
      refine WS_is (rmS' S m k) (by rw [rmS', hT, hD, nI_c (by omega)]) ?_
      refine ws_vret X d_M_readMap_166 ?_
      exact ⟨rfl, rfl⟩
    · refine ws_iload_n (i := 2) X d_M_readMap_31 rfl rfl ?_
      refine ws_if_le X d_M_readMap_32 (fun h32 => ?_) (fun h32 => ?_)
      · refine ws_aload_n (i := 0) X d_M_readMap_60 rfl rfl ?_
        refine ws_getR X fl_M_57 ob8 d_M_readMap_61 ?_
        refine ws_iload_n (i := 3) X d_M_readMap_64 rfl rfl ?_
        refine ws_iload (i := 4) X d_M_readMap_65 rfl ?_
        refine ws_iast X ak39 ob39 (by assumption) d_M_readMap_67 ?_
        rw [hca]; refine WS_is (rm1 S m k) (by simp [rm1, rmBad, mFaultS, eq_true h17, eq_false h28, eq_true h32]) ?_
        refine ws_iconst (v := 0) X d_M_readMap_68 rfl ?_
        refine ws_ist_5 X rfl d_M_readMap_69 (by decide) ?_
        have eL : (rm1 S m k).1 34 0 m = nI lc := by rw [rm1_o _ _ _ _ _ _ (fun z => absurd z.1 (by decide)) (fun z => absurd z.1 (by decide)) (fun z => absurd z.1 (by decide)) (by decide)]; exact hL
        have e2 : rm2 S m k = fillGo 40 (6 * (8 * m + k)) 0 2 lc 0 (rm1 S m k) := by rw [rm2, hL, nI_c (by omega)]
        have eT : (rm2 S m k).1 35 0 m = nI st := by rw [rm2_o _ _ _ _ _ _ (fun z => absurd z.1 (by decide)) (fun z => absurd z.1 (by decide)) (fun z => absurd z.1 (by decide)) (by decide) (by decide)]; exact hT
        have hP2 := rm2_MP m k hP
        refine l_rmL X hm (by omega) hlc lc 0 (rm1 S m k) (rm1_MP m k hP) eL (by omega) (fun j => ?_)
        rw [← e2]
        refine ws_aload_n (i := 0) X d_M_readMap_108 rfl rfl ?_
        refine ws_getR X fl_M_63 ob8 d_M_readMap_109 ?_
        refine ws_iload_n (i := 3) X d_M_readMap_112 rfl rfl ?_
        refine ws_aload_n (i := 0) X d_M_readMap_113 rfl rfl ?_
        refine ws_iconst (v := 0) X d_M_readMap_114 rfl ?_
        refine ws_aload_n (i := 0) X d_M_readMap_115 rfl rfl ?_
        refine ws_getR X fl_M_45 ob8 d_M_readMap_116 ?_
        refine ws_iload_n (i := 1) X d_M_readMap_119 rfl rfl ?_
        refine ws_iald X ak35 ob35 (by assumption) d_M_readMap_120 ?_
        rw [hcm, eT]
        refine ws_iconst (v := 3) X d_M_readMap_121 rfl ?_
        refine ws_callV1 X (m_M_taken _ _ _ _ (by assumption)) cv_M_taken ml_M_135 ob8 rfl rfl (Nat.le_of_ble_eq_true rfl) ⟨Nat.le_of_ble_eq_true rfl, Nat.le_of_ble_eq_true rfl⟩ ⟨Nat.zero_le _, Nat.zero_le _⟩ d_M_readMap_122 ?_
        refine ws_iast X ak41 ob41 (by assumption) d_M_readMap_125 ?_
        rw [hca]
        refine ws_iconst (v := 0) X d_M_readMap_126 rfl ?_
        refine ws_ist_5 X rfl d_M_readMap_127 (by decide) ?_
        obtain ⟨dp, hdp, hD⟩ := mTknV_rng (rm2 S m k) (lo := 0) (M := nI st) (w := 3) (n := st) (nI_toInt (by omega)) (by decide) (by decide)
        refine WS_is (rm3 S m k) (by rw [rm3, hT]; rfl) ?_
        refine l_rmS X (dp := dp) (by omega) (by omega) dp 0 (rm3 S m k) (rm3_MP m k hP) (by rw [rm3, hT, setT_rd]; exact hD) (by omega) (fun j => ?_)
        refine WS_is (rmS' S m k) (by rw [rmS', hT, hD, nI_c (by omega)]) ?_
        refine ws_vret X d_M_readMap_166 ?_
        exact ⟨rfl, rfl⟩
      · refine ws_iload (i := 4) X d_M_readMap_35 rfl ?_
        refine ws_aload_n (i := 0) X d_M_readMap_37 rfl rfl ?_
        refine ws_getR X fl_M_57 ob8 d_M_readMap_38 ?_
        refine ws_iload_n (i := 3) X d_M_readMap_41 rfl rfl ?_
        refine ws_iconst (v := 1) X d_M_readMap_42 rfl ?_
        refine ws_isub X d_M_readMap_43 ?_
        rw [hd (by assumption)]
        refine ws_iald X ak39 ob39 (by assumption) d_M_readMap_44 ?_
        rw [hcd]
        refine ws_icmp_gt X d_M_readMap_45 (fun h45 => ?_) (fun h45 => ?_)
        · refine ws_aload_n (i := 0) X d_M_readMap_60 rfl rfl ?_
          refine ws_getR X fl_M_57 ob8 d_M_readMap_61 ?_
          refine ws_iload_n (i := 3) X d_M_readMap_64 rfl rfl ?_
          refine ws_iload (i := 4) X d_M_readMap_65 rfl ?_
          refine ws_iast X ak39 ob39 (by assumption) d_M_readMap_67 ?_
          rw [hca]; refine WS_is (rm1 S m k) (by simp [rm1, rmBad, mFaultS, eq_true h17, eq_false h28, eq_false h32, eq_true h45]) ?_
          refine ws_iconst (v := 0) X d_M_readMap_68 rfl ?_
          refine ws_ist_5 X rfl d_M_readMap_69 (by decide) ?_
          have eL : (rm1 S m k).1 34 0 m = nI lc := by rw [rm1_o _ _ _ _ _ _ (fun z => absurd z.1 (by decide)) (fun z => absurd z.1 (by decide)) (fun z => absurd z.1 (by decide)) (by decide)]; exact hL
          have e2 : rm2 S m k = fillGo 40 (6 * (8 * m + k)) 0 2 lc 0 (rm1 S m k) := by rw [rm2, hL, nI_c (by omega)]
          have eT : (rm2 S m k).1 35 0 m = nI st := by rw [rm2_o _ _ _ _ _ _ (fun z => absurd z.1 (by decide)) (fun z => absurd z.1 (by decide)) (fun z => absurd z.1 (by decide)) (by decide) (by decide)]; exact hT
          have hP2 := rm2_MP m k hP
          refine l_rmL X hm (by omega) hlc lc 0 (rm1 S m k) (rm1_MP m k hP) eL (by omega) (fun j => ?_)
          rw [← e2]
          refine ws_aload_n (i := 0) X d_M_readMap_108 rfl rfl ?_
          refine ws_getR X fl_M_63 ob8 d_M_readMap_109 ?_
          refine ws_iload_n (i := 3) X d_M_readMap_112 rfl rfl ?_
          refine ws_aload_n (i := 0) X d_M_readMap_113 rfl rfl ?_
          refine ws_iconst (v := 0) X d_M_readMap_114 rfl ?_
          refine ws_aload_n (i := 0) X d_M_readMap_115 rfl rfl ?_
          refine ws_getR X fl_M_45 ob8 d_M_readMap_116 ?_
          refine ws_iload_n (i := 1) X d_M_readMap_119 rfl rfl ?_
          refine ws_iald X ak35 ob35 (by assumption) d_M_readMap_120 ?_
          rw [hcm, eT]
          refine ws_iconst (v := 3) X d_M_readMap_121 rfl ?_
          refine ws_callV1 X (m_M_taken _ _ _ _ (by assumption)) cv_M_taken ml_M_135 ob8 rfl rfl (Nat.le_of_ble_eq_true rfl) ⟨Nat.le_of_ble_eq_true rfl, Nat.le_of_ble_eq_true rfl⟩ ⟨Nat.zero_le _, Nat.zero_le _⟩ d_M_readMap_122 ?_
          refine ws_iast X ak41 ob41 (by assumption) d_M_readMap_125 ?_
          rw [hca]
          refine ws_iconst (v := 0) X d_M_readMap_126 rfl ?_
          refine ws_ist_5 X rfl d_M_readMap_127 (by decide) ?_
          obtain ⟨dp, hdp, hD⟩ := mTknV_rng (rm2 S m k) (lo := 0) (M := nI st) (w := 3) (n := st) (nI_toInt (by omega)) (by decide) (by decide)
          refine WS_is (rm3 S m k) (by rw [rm3, hT]; rfl) ?_
          refine l_rmS X (dp := dp) (by omega) (by omega) dp 0 (rm3 S m k) (rm3_MP m k hP) (by rw [rm3, hT, setT_rd]; exact hD) (by omega) (fun j => ?_)
          refine WS_is (rmS' S m k) (by rw [rmS', hT, hD, nI_c (by omega)]) ?_
          refine ws_vret X d_M_readMap_166 ?_
          exact ⟨rfl, rfl⟩
        · refine ws_aload_n (i := 0) X d_M_readMap_48 rfl rfl ?_
          refine ws_bipush (v := 8) X d_M_readMap_49 rfl ?_
          refine ws_aload_n (i := 0) X d_M_readMap_51 rfl rfl ?_
          refine ws_getI X fl_M_124 ob8 d_M_readMap_52 ?_
          refine ws_iconst (v := 1) X d_M_readMap_55 rfl ?_
          refine ws_isub X d_M_readMap_56 ?_
          refine ws_callV0 X (m_M_faults _ _ _) cv_M_faults ml_M_127 ob8 rfl rfl (Nat.le_of_ble_eq_true rfl) ⟨Nat.le_of_ble_eq_true rfl, Nat.le_of_ble_eq_true rfl⟩ ⟨Nat.zero_le _, Nat.zero_le _⟩ d_M_readMap_57 ?_
          refine ws_aload_n (i := 0) X d_M_readMap_60 rfl rfl ?_
          refine ws_getR X fl_M_57 ob8 d_M_readMap_61 ?_
          refine ws_iload_n (i := 3) X d_M_readMap_64 rfl rfl ?_
          refine ws_iload (i := 4) X d_M_readMap_65 rfl ?_
          refine ws_iast X ak39 ob39 (by assumption) d_M_readMap_67 ?_
          rw [hca]; refine WS_is (rm1 S m k) (by simp [rm1, rmBad, mFaultS, eq_true h17, eq_false h28, eq_false h32, eq_false h45]) ?_
          refine ws_iconst (v := 0) X d_M_readMap_68 rfl ?_
          refine ws_ist_5 X rfl d_M_readMap_69 (by decide) ?_
          have eL : (rm1 S m k).1 34 0 m = nI lc := by rw [rm1_o _ _ _ _ _ _ (fun z => absurd z.1 (by decide)) (fun z => absurd z.1 (by decide)) (fun z => absurd z.1 (by decide)) (by decide)]; exact hL
          have e2 : rm2 S m k = fillGo 40 (6 * (8 * m + k)) 0 2 lc 0 (rm1 S m k) := by rw [rm2, hL, nI_c (by omega)]
          have eT : (rm2 S m k).1 35 0 m = nI st := by rw [rm2_o _ _ _ _ _ _ (fun z => absurd z.1 (by decide)) (fun z => absurd z.1 (by decide)) (fun z => absurd z.1 (by decide)) (by decide) (by decide)]; exact hT
          have hP2 := rm2_MP m k hP
          refine l_rmL X hm (by omega) hlc lc 0 (rm1 S m k) (rm1_MP m k hP) eL (by omega) (fun j => ?_)
          rw [← e2]
          refine ws_aload_n (i := 0) X d_M_readMap_108 rfl rfl ?_
          refine ws_getR X fl_M_63 ob8 d_M_readMap_109 ?_
          refine ws_iload_n (i := 3) X d_M_readMap_112 rfl rfl ?_
          refine ws_aload_n (i := 0) X d_M_readMap_113 rfl rfl ?_
          refine ws_iconst (v := 0) X d_M_readMap_114 rfl ?_
          refine ws_aload_n (i := 0) X d_M_readMap_115 rfl rfl ?_
          refine ws_getR X fl_M_45 ob8 d_M_readMap_116 ?_
          refine ws_iload_n (i := 1) X d_M_readMap_119 rfl rfl ?_
          refine ws_iald X ak35 ob35 (by assumption) d_M_readMap_120 ?_
          rw [hcm, eT]
          refine ws_iconst (v := 3) X d_M_readMap_121 rfl ?_
          refine ws_callV1 X (m_M_taken _ _ _ _ (by assumption)) cv_M_taken ml_M_135 ob8 rfl rfl (Nat.le_of_ble_eq_true rfl) ⟨Nat.le_of_ble_eq_true rfl, Nat.le_of_ble_eq_true rfl⟩ ⟨Nat.zero_le _, Nat.zero_le _⟩ d_M_readMap_122 ?_
          refine ws_iast X ak41 ob41 (by assumption) d_M_readMap_125 ?_
          rw [hca]
          refine ws_iconst (v := 0) X d_M_readMap_126 rfl ?_
          refine ws_ist_5 X rfl d_M_readMap_127 (by decide) ?_
          obtain ⟨dp, hdp, hD⟩ := mTknV_rng (rm2 S m k) (lo := 0) (M := nI st) (w := 3) (n := st) (nI_toInt (by omega)) (by decide) (by decide)
          refine WS_is (rm3 S m k) (by rw [rm3, hT]; rfl) ?_
          refine l_rmS X (dp := dp) (by omega) (by omega) dp 0 (rm3 S m k) (rm3_MP m k hP) (by rw [rm3, hT, setT_rd]; exact hD) (by omega) (fun j => ?_)
          refine WS_is (rmS' S m k) (by rw [rmS', hT, hD, nI_c (by omega)]) ?_
          refine ws_vret X d_M_readMap_166 ?_
          exact ⟨rfl, rfl⟩


