/-! the model reads: a method -/
theorem rn1_MP {S : MS} (m : Nat) (h : MP S) : MP (rn1 S m) := by
  unfold rn1
  by_cases hb : rnGood (mTakeS S) (mTakeV S).toNatClampNeg m = true
  · rw [if_pos hb]; exact mTakeS_MP h
  · rw [if_neg hb]; exact (mTakeS_MP h).same (mFaultS_o _ _ _ _ _ _ (by decide) (by decide)) (mFaultS_o _ _ _ _ _ _ (by decide) (by decide)) (fun j => mFaultS_o _ _ _ _ _ _ (fun z => absurd z.1 (by decide)) (fun z => absurd z.1 (by decide)))
theorem rnS_MP {S : MS} (m : Nat) (h : MP S) : MP (rnS S m) := (rn1_MP m h).same (wI_o _ _ _ _ _ _ _ _ (fun z => absurd z.1 (by decide))) (wI_o _ _ _ _ _ _ _ _ (fun z => absurd z.1 (by decide))) (fun j => wI_o _ _ _ _ _ _ _ _ (fun z => absurd z.1 (by decide)))
theorem rnS_o (S : MS) (m b c d : Nat) (h1 : ¬ (b = 8 ∧ c = 0 ∧ d = 28)) (h2 : ¬ (b = 8 ∧ c = 0 ∧ d = 29)) (h3 : ¬ (b = 8 ∧ c = 0 ∧ d = 31)) (h4 : ¬ (b = 30 ∧ c = 0 ∧ d = m)) : (rnS S m).1 b c d = S.1 b c d := by
  unfold rnS rn1
  rw [wI_o _ _ _ _ _ _ _ _ h4]
  by_cases hb : rnGood (mTakeS S) (mTakeV S).toNatClampNeg m = true
  · rw [if_pos hb, mTakeS_o _ _ _ _ h1 h2 h3]
  · rw [if_neg hb, mFaultS_o _ _ _ _ _ _ h1 h2, mTakeS_o _ _ _ _ h1 h2 h3]
def qcGo (m : Nat) : Nat → Nat → MS → MS
  | 0, _, S => S
  | n + 1, i, S => qcGo m n (i + 1) (wI (mTakeS S) 37 0 (48 * m + i) (mTakeV S))
theorem qc1_MP {S : MS} (i : Nat) (h : MP S) : MP (wI (mTakeS S) 37 0 i (mTakeV S)) := (mTakeS_MP h).same (wI_o _ _ _ _ _ _ _ _ (fun z => absurd z.1 (by decide))) (wI_o _ _ _ _ _ _ _ _ (fun z => absurd z.1 (by decide))) (fun j => wI_o _ _ _ _ _ _ _ _ (fun z => absurd z.1 (by decide)))
theorem qcGo_MP (m : Nat) : ∀ (n i : Nat) (S : MS), MP S → MP (qcGo m n i S)
  | 0, _, _, h => h
  | n + 1, i, S, h => qcGo_MP m n (i + 1) _ (qc1_MP _ h)
theorem qcGo_o (m b c d : Nat) (h1 : ¬ (b = 8 ∧ c = 0 ∧ d = 28)) (h2 : ¬ (b = 8 ∧ c = 0 ∧ d = 29)) (h3 : ¬ (b = 8 ∧ c = 0 ∧ d = 31)) (h4 : b ≠ 37) : ∀ (n i : Nat) (S : MS), (qcGo m n i S).1 b c d = S.1 b c d
  | 0, _, _ => rfl
  | n + 1, i, S => by rw [qcGo, qcGo_o m b c d h1 h2 h3 h4 n, wI_o _ _ _ _ _ _ _ _ (fun z => h4 z.1), mTakeS_o _ _ _ _ h1 h2 h3]
def qmGo (m : Nat) : Nat → Nat → MS → MS
  | 0, _, S => S
  | n + 1, k, S => if S.1 8 0 28 = 0 then qmGo m n (k + 1) (rmS' S m k) else S
section L37
variable {p : Program} {l : Launch} {e0 : Env} {s : State} {m0 : MethodId} {args : Array Value} {below : List Frame} {meth : Method} {c0 : Code} {G : GG} {A : Nat → Prop} {Q : State → Prop}
theorem l_qT (X : CX p s m0 args meth c0 G A c_M_readMethod y_M_readMethod.cls 3 (none)) {m tk : Nat} (hm : m < 5) (ht : tk ≤ 3) : ∀ (n i : Nat) (S : MS), MP S → S.1 31 0 m = nI tk → i + n = tk → (∀ j : Int32, WS p l e0 (rmS 4 91) s m0 args below meth c0 G A 3 0 0 Q 54 [some (.inr (8, 0)), some (.inl (.int (nI m))), some (.inl (.int j))] [] (fillGo 32 (3 * m) 1 2 n i S)) → WS p l e0 (rmS 4 91) s m0 args below meth c0 G A 3 0 0 Q 20 [some (.inr (8, 0)), some (.inl (.int (nI m))), some (.inl (.int (nI i)))] [] (S) := by
  intro n
  have hcm := nI_c (i := m) (by omega)
  have hinm : vp_in (nI m) 5 := vp_in_nI hm (by omega)
  induction n with
  | zero =>
    intro i S hP hS hi' K
    have hh : S.1 31 0 m ≤ nI i := by rw [hS, nI_leI (by omega) (by omega)]; omega
    refine ws_iload_n (i := 2) X d_M_readMethod_20 rfl rfl ?_
    refine ws_aload_n (i := 0) X d_M_readMethod_21 rfl rfl ?_
    refine ws_getR X fl_M_33 ob8 d_M_readMethod_22 ?_
    refine ws_iload_n (i := 1) X d_M_readMethod_25 rfl rfl ?_
    refine ws_iald X ak31 ob31 (by assumption) d_M_readMethod_26 ?_
    rw [hcm]
    refine ws_icmp_ge X d_M_readMethod_27 (fun h27 => ?_) (fun h27 => ?_)
    · exact K _
    · exact absurd hh h27
  | succ n ih =>
    intro i S hP hS hi' K
    have hh : ¬ S.1 31 0 m ≤ nI i := by rw [hS, nI_leI (by omega) (by omega)]; omega
    have hin : vp_in (nI (3 * m + i)) 15 := vp_in_nI (by omega) (by omega)
    have hc8 := nI_c (i := 3 * m + i) (by omega)
    rw [fillGo] at K
    refine ws_iload_n (i := 2) X d_M_readMethod_20 rfl rfl ?_
    refine ws_aload_n (i := 0) X d_M_readMethod_21 rfl rfl ?_
    refine ws_getR X fl_M_33 ob8 d_M_readMethod_22 ?_
    refine ws_iload_n (i := 1) X d_M_readMethod_25 rfl rfl ?_
    refine ws_iald X ak31 ob31 (by assumption) d_M_readMethod_26 ?_
    rw [hcm]
    refine ws_icmp_ge X d_M_readMethod_27 (fun h27 => ?_) (fun h27 => ?_)
    · exact absurd h27 hh
    · refine ws_aload_n (i := 0) X d_M_readMethod_30 rfl rfl ?_
      refine ws_getR X fl_M_36 ob8 d_M_readMethod_31 ?_
      refine ws_iconst (v := 3) X d_M_readMethod_34 rfl ?_
      refine ws_iload_n (i := 1) X d_M_readMethod_35 rfl rfl ?_
      refine ws_imul X d_M_readMethod_36 ?_
      refine ws_iload_n (i := 2) X d_M_readMethod_37 rfl rfl ?_
      refine ws_iadd X d_M_readMethod_38 ?_
      rw [show (3 : Int32) = nI 3 from rfl, ixN]
      refine ws_aload_n (i := 0) X d_M_readMethod_39 rfl rfl ?_
      refine ws_iconst (v := 1) X d_M_readMethod_40 rfl ?_
      refine ws_iconst (v := 2) X d_M_readMethod_41 rfl ?_
      refine ws_bipush (v := 7) X d_M_readMethod_42 rfl ?_
      refine ws_callV1 X (m_M_taken _ _ _ _ (by assumption)) cv_M_taken ml_M_135 ob8 rfl rfl (Nat.le_of_ble_eq_true rfl) ⟨Nat.le_of_ble_eq_true rfl, Nat.le_of_ble_eq_true rfl⟩ ⟨Nat.zero_le _, Nat.zero_le _⟩ d_M_readMethod_44 ?_
      refine ws_iast X ak32 ob32 (by assumption) d_M_readMethod_47 ?_
      rw [hc8]
      refine ws_iinc_2 X rfl d_M_readMethod_48 rfl (by decide) ?_
      refine ws_goto X d_M_readMethod_51 ?_
      rw [nI_inc]; exact ih (i + 1) _ (setT_MP _ _ _ _ (by decide) (by decide) hP) (by show (setT S 32 (3 * m + i) 1 2 7).1 31 0 m = nI tk; rw [setT_o _ _ _ _ _ _ _ _ _ (fun z => absurd z.1 (by decide)) (fun z => absurd z.1 (by decide)) (fun z => absurd z.1 (by decide)) (fun z => absurd z.1 (by decide))]; exact hS) (by omega) K
theorem l_qC (X : CX p s m0 args meth c0 G A c_M_readMethod y_M_readMethod.cls 3 (none)) {m ln : Nat} (hm : m < 5) (ht : ln ≤ 48) : ∀ (n i : Nat) (S : MS), MP S → S.1 36 0 m = nI ln → i + n = ln → (∀ j : Int32, WS p l e0 (rmS 4 91) s m0 args below meth c0 G A 3 0 0 Q 148 [some (.inr (8, 0)), some (.inl (.int (nI m))), some (.inl (.int j))] [] (qcGo m n i S)) → WS p l e0 (rmS 4 91) s m0 args below meth c0 G A 3 0 0 Q 117 [some (.inr (8, 0)), some (.inl (.int (nI m))), some (.inl (.int (nI i)))] [] (S) := by
  intro n
  have hcm := nI_c (i := m) (by omega)
  have hinm : vp_in (nI m) 5 := vp_in_nI hm (by omega)
  induction n with
  | zero =>
    intro i S hP hS hi' K
    have hh : S.1 36 0 m ≤ nI i := by rw [hS, nI_leI (by omega) (by omega)]; omega
    refine ws_iload_n (i := 2) X d_M_readMethod_117 rfl rfl ?_
    refine ws_aload_n (i := 0) X d_M_readMethod_118 rfl rfl ?_
    refine ws_getR X fl_M_48 ob8 d_M_readMethod_119 ?_
    refine ws_iload_n (i := 1) X d_M_readMethod_122 rfl rfl ?_
    refine ws_iald X ak36 ob36 (by assumption) d_M_readMethod_123 ?_
    rw [hcm]
    refine ws_icmp_ge X d_M_readMethod_124 (fun h124 => ?_) (fun h124 => ?_)
    · exact K _
    · exact absurd hh h124
  | succ n ih =>
    intro i S hP hS hi' K
    have hh : ¬ S.1 36 0 m ≤ nI i := by rw [hS, nI_leI (by omega) (by omega)]; omega
    have hin : vp_in (nI (48 * m + i)) 240 := vp_in_nI (by omega) (by omega)
    have hc8 := nI_c (i := 48 * m + i) (by omega)
    rw [qcGo] at K
    refine ws_iload_n (i := 2) X d_M_readMethod_117 rfl rfl ?_
    refine ws_aload_n (i := 0) X d_M_readMethod_118 rfl rfl ?_
    refine ws_getR X fl_M_48 ob8 d_M_readMethod_119 ?_
    refine ws_iload_n (i := 1) X d_M_readMethod_122 rfl rfl ?_
    refine ws_iald X ak36 ob36 (by assumption) d_M_readMethod_123 ?_
    rw [hcm]
    refine ws_icmp_ge X d_M_readMethod_124 (fun h124 => ?_) (fun h124 => ?_)
    · exact absurd h124 hh
    · refine ws_aload_n (i := 0) X d_M_readMethod_127 rfl rfl ?_
      refine ws_getR X fl_M_51 ob8 d_M_readMethod_128 ?_
      refine ws_bipush (v := 48) X d_M_readMethod_131 rfl ?_
      refine ws_iload_n (i := 1) X d_M_readMethod_133 rfl rfl ?_
      refine ws_imul X d_M_readMethod_134 ?_
      refine ws_iload_n (i := 2) X d_M_readMethod_135 rfl rfl ?_
      refine ws_iadd X d_M_readMethod_136 ?_
      rw [show (48 : Int32) = nI 48 from rfl, ixN]
      refine ws_aload_n (i := 0) X d_M_readMethod_137 rfl rfl ?_
      refine ws_callV1 X (m_M_take _ (by assumption)) cv_M_take ml_M_131 ob8 rfl rfl (Nat.le_of_ble_eq_true rfl) ⟨Nat.le_of_ble_eq_true rfl, Nat.le_of_ble_eq_true rfl⟩ ⟨Nat.zero_le _, Nat.zero_le _⟩ d_M_readMethod_138 ?_
      refine ws_iast X ak37 ob37 (by assumption) d_M_readMethod_141 ?_
      rw [hc8]
      refine ws_iinc_2 X rfl d_M_readMethod_142 rfl (by decide) ?_
      refine ws_goto X d_M_readMethod_145 ?_
      rw [nI_inc]; exact ih (i + 1) _ (qc1_MP _ hP) (by rw [wI_o _ _ _ _ _ _ _ _ (fun z => absurd z.1 (by decide)), mTakeS_o _ _ _ _ (fun z => absurd z.1 (by decide)) (fun z => absurd z.1 (by decide)) (fun z => absurd z.1 (by decide))]; exact hS) (by omega) K
theorem l_qM (X : CX p s m0 args meth c0 G A c_M_readMethod y_M_readMethod.cls 3 (none)) {m mp lc st : Nat} (hm : m < 5) (ht : mp ≤ 8) (hlc : lc ≤ 6) (hst : st ≤ 6) : ∀ (n k : Nat) (S : MS), MP S → S.1 38 0 m = nI mp → S.1 34 0 m = nI lc → S.1 35 0 m = nI st → k + n = mp → (∀ j : Int32, WS p l e0 (rmS 4 91) s m0 args below meth c0 G A 3 0 0 Q 193 [some (.inr (8, 0)), some (.inl (.int (nI m))), some (.inl (.int j))] [] (qmGo m n k S)) → WS p l e0 (rmS 4 91) s m0 args below meth c0 G A 3 0 0 Q 164 [some (.inr (8, 0)), some (.inl (.int (nI m))), some (.inl (.int (nI k)))] [] (S) := by
  intro n
  have hcm := nI_c (i := m) (by omega)
  have hinm : vp_in (nI m) 5 := vp_in_nI hm (by omega)
  induction n with
  | zero =>
    intro k S hP hS hL hT hi' K
    have hh : S.1 38 0 m ≤ nI k := by rw [hS, nI_leI (by omega) (by omega)]; omega
    refine ws_iload_n (i := 2) X d_M_readMethod_164 rfl rfl ?_
    refine ws_aload_n (i := 0) X d_M_readMethod_165 rfl rfl ?_
    refine ws_getR X fl_M_54 ob8 d_M_readMethod_166 ?_
    refine ws_iload_n (i := 1) X d_M_readMethod_169 rfl rfl ?_
    refine ws_iald X ak38 ob38 (by assumption) d_M_readMethod_170 ?_
    rw [hcm]
    refine ws_icmp_ge X d_M_readMethod_171 (fun h171 => ?_) (fun h171 => ?_)
    · exact K _
    · exact absurd hh h171
  | succ n ih =>
    intro k S hP hS hL hT hi' K
    have hh : ¬ S.1 38 0 m ≤ nI k := by rw [hS, nI_leI (by omega) (by omega)]; omega
    have hk : k < 8 := by omega
    rw [qmGo] at K
    have hO : ∀ b c d, b ≠ 8 → b ≠ 39 → b ≠ 40 → b ≠ 41 → b ≠ 42 → (rmS' S m k).1 b c d = S.1 b c d := fun b c d g1 g2 g3 g4 g5 => rmS'_o S m k b c d (fun z => g1 z.1) (fun z => g1 z.1) (fun z => g1 z.1) g2 g3 g4 g5
    refine ws_iload_n (i := 2) X d_M_readMethod_164 rfl rfl ?_
    refine ws_aload_n (i := 0) X d_M_readMethod_165 rfl rfl ?_
    refine ws_getR X fl_M_54 ob8 d_M_readMethod_166 ?_
    refine ws_iload_n (i := 1) X d_M_readMethod_169 rfl rfl ?_
    refine ws_iald X ak38 ob38 (by assumption) d_M_readMethod_170 ?_
    rw [hcm]
    refine ws_icmp_ge X d_M_readMethod_171 (fun h171 => ?_) (fun h171 => ?_)
    · exact absurd h171 hh
    · refine ws_aload_n (i := 0) X d_M_readMethod_174 rfl rfl ?_
      refine ws_getI X fl_M_118 ob8 d_M_readMethod_175 ?_
      refine ws_if_ne X d_M_readMethod_178 (fun h178 => ?_) (fun h178 => ?_)
      · simp only [eq_false h171, eq_false h178, if_true, if_false] at K; exact K _
      · refine ws_aload_n (i := 0) X d_M_readMethod_181 rfl rfl ?_
        refine ws_iload_n (i := 1) X d_M_readMethod_182 rfl rfl ?_
        refine ws_iload_n (i := 2) X d_M_readMethod_183 rfl rfl ?_
        refine ws_callV0 X (m_M_readMap S m k lc st hm hk hP hL hlc hT hst) cv_M_readMap ml_M_153 ob8 rfl rfl (Nat.le_of_ble_eq_true rfl) ⟨Nat.le_of_ble_eq_true rfl, Nat.le_of_ble_eq_true rfl⟩ ⟨Nat.zero_le _, Nat.zero_le _⟩ d_M_readMethod_184 ?_
        refine ws_iinc_2 X rfl d_M_readMethod_187 rfl (by decide) ?_
        refine ws_goto X d_M_readMethod_190 ?_
        rw [nI_inc]; simp only [eq_false h171, eq_true h178, if_true, if_false] at K; exact ih (k + 1) _ (rmS'_MP m k hP) (by rw [hO _ _ _ (by decide) (by decide) (by decide) (by decide) (by decide)]; exact hS) (by rw [hO _ _ _ (by decide) (by decide) (by decide) (by decide) (by decide)]; exact hL) (by rw [hO _ _ _ (by decide) (by decide) (by decide) (by decide) (by decide)]; exact hT) (by omega) K
end L37
def mm1 (S : MS) (m : Nat) : MS := setT (rnS S m) 31 m 0 3 3
def mm2 (S : MS) (m : Nat) : MS := fillGo 32 (3 * m) 1 2 ((mm1 S m).1 31 0 m).toNatClampNeg 0 (mm1 S m)
def mm3 (S : MS) (m : Nat) : MS := setT (mm2 S m) 33 m 1 2 7
def mm4 (S : MS) (m : Nat) : MS := setT (mm3 S m) 34 m ((mm3 S m).1 31 0 m) 6 3
def mm5 (S : MS) (m : Nat) : MS := setT (mm4 S m) 35 m 1 6 3
def mm6 (S : MS) (m : Nat) : MS := setT (mm5 S m) 36 m 1 48 3
def mm7 (S : MS) (m : Nat) : MS := qcGo m ((mm6 S m).1 36 0 m).toNatClampNeg 0 (mm6 S m)
def mm8 (S : MS) (m : Nat) : MS := setT (mm7 S m) 38 m 0 8 3
def mmS (S : MS) (m : Nat) : MS := qmGo m ((mm8 S m).1 38 0 m).toNatClampNeg 0 (mm8 S m)
theorem mm1_MP {S : MS} (m : Nat) (h : MP S) : MP (mm1 S m) := setT_MP _ _ _ _ (by decide) (by decide) (rnS_MP m h)
theorem mm2_MP {S : MS} (m : Nat) (h : MP S) : MP (mm2 S m) := fillGo_MP _ _ _ (by decide) (by decide) _ _ _ (mm1_MP m h)
theorem mm3_MP {S : MS} (m : Nat) (h : MP S) : MP (mm3 S m) := setT_MP _ _ _ _ (by decide) (by decide) (mm2_MP m h)
theorem mm4_MP {S : MS} (m : Nat) (h : MP S) : MP (mm4 S m) := setT_MP _ _ _ _ (by decide) (by decide) (mm3_MP m h)
theorem mm5_MP {S : MS} (m : Nat) (h : MP S) : MP (mm5 S m) := setT_MP _ _ _ _ (by decide) (by decide) (mm4_MP m h)
theorem mm6_MP {S : MS} (m : Nat) (h : MP S) : MP (mm6 S m) := setT_MP _ _ _ _ (by decide) (by decide) (mm5_MP m h)
theorem mm7_MP {S : MS} (m : Nat) (h : MP S) : MP (mm7 S m) := qcGo_MP _ _ _ _ (mm6_MP m h)
theorem mm8_MP {S : MS} (m : Nat) (h : MP S) : MP (mm8 S m) := setT_MP _ _ _ _ (by decide) (by decide) (mm7_MP m h)
theorem mmTk (S : MS) (m : Nat) : ∃ t, t ≤ 3 ∧ (mm1 S m).1 31 0 m = nI t := by
  rw [mm1, setT_rd]; exact mTknV_rng (rnS S m) (lo := 0) (M := 3) (w := 3) (n := 3) rfl (by decide) (by decide)
theorem mmLc (S : MS) (m : Nat) : ∃ t, t ≤ 6 ∧ (mm4 S m).1 34 0 m = nI t := by
  obtain ⟨t, ht, hT⟩ := mmTk S m
  have e3 : (mm3 S m).1 31 0 m = nI t := by rw [mm3, setT_o _ _ _ _ _ _ _ _ _ (fun z => absurd z.1 (by decide)) (fun z => absurd z.1 (by decide)) (fun z => absurd z.1 (by decide)) (fun z => absurd z.1 (by decide)), mm2, fillGo_o _ _ _ _ _ _ _ (fun z => absurd z.1 (by decide)) (fun z => absurd z.1 (by decide)) (fun z => absurd z.1 (by decide)) (by decide)]; exact hT
  rw [mm4, setT_rd, e3]
  exact mTknV_rng (mm3 S m) (lo := nI t) (M := 6) (w := 3) (n := 6) rfl (nI_pos (by omega)) (by decide)
theorem mmSt (S : MS) (m : Nat) : ∃ t, t ≤ 6 ∧ (mm5 S m).1 35 0 m = nI t := by
  rw [mm5, setT_rd]; exact mTknV_rng (mm4 S m) (lo := 1) (M := 6) (w := 3) (n := 6) rfl (by decide) (by decide)
theorem mmLn (S : MS) (m : Nat) : ∃ t, t ≤ 48 ∧ (mm6 S m).1 36 0 m = nI t := by
  rw [mm6, setT_rd]; exact mTknV_rng (mm5 S m) (lo := 1) (M := 48) (w := 3) (n := 48) rfl (by decide) (by decide)
theorem mmMp (S : MS) (m : Nat) : ∃ t, t ≤ 8 ∧ (mm8 S m).1 38 0 m = nI t := by
  rw [mm8, setT_rd]; exact mTknV_rng (mm7 S m) (lo := 0) (M := 8) (w := 3) (n := 8) rfl (by decide) (by decide)
theorem mm8_5 (S : MS) (m b c d : Nat) (h1 : b ≠ 8) (h2 : b ≠ 36) (h3 : b ≠ 37) (h4 : b ≠ 38) : (mm8 S m).1 b c d = (mm5 S m).1 b c d := by
  rw [mm8, setT_o _ _ _ _ _ _ _ _ _ (fun z => h1 z.1) (fun z => h1 z.1) (fun z => h1 z.1) (fun z => h4 z.1), mm7, qcGo_o _ _ _ _ (fun z => h1 z.1) (fun z => h1 z.1) (fun z => h1 z.1) h3, mm6, setT_o _ _ _ _ _ _ _ _ _ (fun z => h1 z.1) (fun z => h1 z.1) (fun z => h1 z.1) (fun z => h2 z.1)]
theorem m_M_readMethod (S : MS) (m en : Nat) (hm : m < 5) (hP : MP S) (hW : MW S) (hN : MN S m) (hE : S.1 8 0 4 = nI en) (hen : en ≤ 16) : MetE y_M_readMethod c_M_readMethod 3 (none) 4 91 [.inr (8, 0), .inl (.int (nI m))] S (none) (mmS S m) := by
  refine MetS.of (lv0 := [some (.inr (8, 0)), some (.inl (.int (nI m))), none]) pn_M rfl (Nat.le_of_ble_eq_true rfl) (fun p0 l0 e0 s0 m0 args below meth c0 G X => ?_)
  have hcm := nI_c (i := m) (by omega)
  have hinm : vp_in (nI m) 5 := vp_in_nI hm (by omega)
  have hP1 := rnS_MP m hP
  have hP2 := mm2_MP m hP
  have hP3 := mm3_MP m hP
  have hP4 := mm4_MP m hP
  have hP5 := mm5_MP m hP
  have hP7 := mm7_MP m hP
  refine ws_aload_n (i := 0) X d_M_readMethod_0 rfl rfl ?_
  refine ws_iload_n (i := 1) X d_M_readMethod_1 rfl rfl ?_
  refine ws_callV0 X (m_M_readName S m en hm hP hW hN hE hen) cv_M_readName ml_M_149 ob8 rfl rfl (Nat.le_of_ble_eq_true rfl) ⟨Nat.le_of_ble_eq_true rfl, Nat.le_of_ble_eq_true rfl⟩ ⟨Nat.zero_le _, Nat.zero_le _⟩ d_M_readMethod_2 ?_
  refine ws_aload_n (i := 0) X d_M_readMethod_5 rfl rfl ?_
  refine ws_getR X fl_M_33 ob8 d_M_readMethod_6 ?_
  refine ws_iload_n (i := 1) X d_M_readMethod_9 rfl rfl ?_
  refine ws_aload_n (i := 0) X d_M_readMethod_10 rfl rfl ?_
  refine ws_iconst (v := 0) X d_M_readMethod_11 rfl ?_
  refine ws_iconst (v := 3) X d_M_readMethod_12 rfl ?_
  refine ws_iconst (v := 3) X d_M_readMethod_13 rfl ?_
  refine ws_callV1 X (m_M_taken _ _ _ _ hP1) cv_M_taken ml_M_135 ob8 rfl rfl (Nat.le_of_ble_eq_true rfl) ⟨Nat.le_of_ble_eq_true rfl, Nat.le_of_ble_eq_true rfl⟩ ⟨Nat.zero_le _, Nat.zero_le _⟩ d_M_readMethod_14 ?_
  refine ws_iast X ak31 ob31 (by assumption) d_M_readMethod_17 ?_
  rw [hcm]; refine WS_is (mm1 S m) rfl ?_
  refine ws_iconst (v := 0) X d_M_readMethod_18 rfl ?_
  refine ws_istn_2 X rfl d_M_readMethod_19 (by decide) ?_
  obtain ⟨tk, htk, hT⟩ := mmTk S m
  refine l_qT X hm htk tk 0 (mm1 S m) (mm1_MP m hP) hT (by omega) (fun j => ?_)
  refine WS_is (mm2 S m) (by rw [mm2, hT, nI_c (by omega)]) ?_
  refine ws_aload_n (i := 0) X d_M_readMethod_54 rfl rfl ?_
  refine ws_getR X fl_M_39 ob8 d_M_readMethod_55 ?_
  refine ws_iload_n (i := 1) X d_M_readMethod_58 rfl rfl ?_
  refine ws_aload_n (i := 0) X d_M_readMethod_59 rfl rfl ?_
  refine ws_iconst (v := 1) X d_M_readMethod_60 rfl ?_
  refine ws_iconst (v := 2) X d_M_readMethod_61 rfl ?_
  refine ws_bipush (v := 7) X d_M_readMethod_62 rfl ?_
  refine ws_callV1 X (m_M_taken _ _ _ _ hP2) cv_M_taken ml_M_135 ob8 rfl rfl (Nat.le_of_ble_eq_true rfl) ⟨Nat.le_of_ble_eq_true rfl, Nat.le_of_ble_eq_true rfl⟩ ⟨Nat.zero_le _, Nat.zero_le _⟩ d_M_readMethod_64 ?_
  refine ws_iast X ak33 ob33 (by assumption) d_M_readMethod_67 ?_
  rw [hcm]; refine WS_is (mm3 S m) rfl ?_
  refine ws_aload_n (i := 0) X d_M_readMethod_68 rfl rfl ?_
  refine ws_getR X fl_M_42 ob8 d_M_readMethod_69 ?_
  refine ws_iload_n (i := 1) X d_M_readMethod_72 rfl rfl ?_
  refine ws_aload_n (i := 0) X d_M_readMethod_73 rfl rfl ?_
  refine ws_aload_n (i := 0) X d_M_readMethod_74 rfl rfl ?_
  refine ws_getR X fl_M_33 ob8 d_M_readMethod_75 ?_
  refine ws_iload_n (i := 1) X d_M_readMethod_78 rfl rfl ?_
  refine ws_iald X ak31 ob31 (by assumption) d_M_readMethod_79 ?_
  rw [hcm]
  refine ws_bipush (v := 6) X d_M_readMethod_80 rfl ?_
  refine ws_iconst (v := 3) X d_M_readMethod_82 rfl ?_
  refine ws_callV1 X (m_M_taken _ _ _ _ hP3) cv_M_taken ml_M_135 ob8 rfl rfl (Nat.le_of_ble_eq_true rfl) ⟨Nat.le_of_ble_eq_true rfl, Nat.le_of_ble_eq_true rfl⟩ ⟨Nat.zero_le _, Nat.zero_le _⟩ d_M_readMethod_83 ?_
  refine ws_iast X ak34 ob34 (by assumption) d_M_readMethod_86 ?_
  rw [hcm]; refine WS_is (mm4 S m) rfl ?_
  refine ws_aload_n (i := 0) X d_M_readMethod_87 rfl rfl ?_
  refine ws_getR X fl_M_45 ob8 d_M_readMethod_88 ?_
  refine ws_iload_n (i := 1) X d_M_readMethod_91 rfl rfl ?_
  refine ws_aload_n (i := 0) X d_M_readMethod_92 rfl rfl ?_
  refine ws_iconst (v := 1) X d_M_readMethod_93 rfl ?_
  refine ws_bipush (v := 6) X d_M_readMethod_94 rfl ?_
  refine ws_iconst (v := 3) X d_M_readMethod_96 rfl ?_
  refine ws_callV1 X (m_M_taken _ _ _ _ hP4) cv_M_taken ml_M_135 ob8 rfl rfl (Nat.le_of_ble_eq_true rfl) ⟨Nat.le_of_ble_eq_true rfl, Nat.le_of_ble_eq_true rfl⟩ ⟨Nat.zero_le _, Nat.zero_le _⟩ d_M_readMethod_97 ?_
  refine ws_iast X ak35 ob35 (by assumption) d_M_readMethod_100 ?_
  rw [hcm]; refine WS_is (mm5 S m) rfl ?_
  refine ws_aload_n (i := 0) X d_M_readMethod_101 rfl rfl ?_
  refine ws_getR X fl_M_48 ob8 d_M_readMethod_102 ?_
  refine ws_iload_n (i := 1) X d_M_readMethod_105 rfl rfl ?_
  refine ws_aload_n (i := 0) X d_M_readMethod_106 rfl rfl ?_
  refine ws_iconst (v := 1) X d_M_readMethod_107 rfl ?_
  refine ws_bipush (v := 48) X d_M_readMethod_108 rfl ?_
  refine ws_iconst (v := 3) X d_M_readMethod_110 rfl ?_
  refine ws_callV1 X (m_M_taken _ _ _ _ hP5) cv_M_taken ml_M_135 ob8 rfl rfl (Nat.le_of_ble_eq_true rfl) ⟨Nat.le_of_ble_eq_true rfl, Nat.le_of_ble_eq_true rfl⟩ ⟨Nat.zero_le _, Nat.zero_le _⟩ d_M_readMethod_111 ?_
  refine ws_iast X ak36 ob36 (by assumption) d_M_readMethod_114 ?_
  rw [hcm]; refine WS_is (mm6 S m) rfl ?_
  refine ws_iconst (v := 0) X d_M_readMethod_115 rfl ?_
  refine ws_istn_2 X rfl d_M_readMethod_116 (by decide) ?_
  obtain ⟨ln, hln, hL⟩ := mmLn S m
  refine l_qC X hm hln ln 0 (mm6 S m) (mm6_MP m hP) hL (by omega) (fun j => ?_)
  refine WS_is (mm7 S m) (by rw [mm7, hL, nI_c (by omega)]) ?_
  refine ws_aload_n (i := 0) X d_M_readMethod_148 rfl rfl ?_
  refine ws_getR X fl_M_54 ob8 d_M_readMethod_149 ?_
  refine ws_iload_n (i := 1) X d_M_readMethod_152 rfl rfl ?_
  refine ws_aload_n (i := 0) X d_M_readMethod_153 rfl rfl ?_
  refine ws_iconst (v := 0) X d_M_readMethod_154 rfl ?_
  refine ws_bipush (v := 8) X d_M_readMethod_155 rfl ?_
  refine ws_iconst (v := 3) X d_M_readMethod_157 rfl ?_
  refine ws_callV1 X (m_M_taken _ _ _ _ hP7) cv_M_taken ml_M_135 ob8 rfl rfl (Nat.le_of_ble_eq_true rfl) ⟨Nat.le_of_ble_eq_true rfl, Nat.le_of_ble_eq_true rfl⟩ ⟨Nat.zero_le _, Nat.zero_le _⟩ d_M_readMethod_158 ?_
  refine ws_iast X ak38 ob38 (by assumption) d_M_readMethod_161 ?_
  rw [hcm]; refine WS_is (mm8 S m) rfl ?_
  refine ws_iconst (v := 0) X d_M_readMethod_162 rfl ?_
  refine ws_istn_2 X rfl d_M_readMethod_163 (by decide) ?_
  obtain ⟨mp, hmp, hM⟩ := mmMp S m
  obtain ⟨lc, hlc, hC⟩ := mmLc S m
  obtain ⟨st, hst, hS⟩ := mmSt S m
  have hC5 : (mm5 S m).1 34 0 m = nI lc := by rw [mm5, setT_o _ _ _ _ _ _ _ _ _ (fun z => absurd z.1 (by decide)) (fun z => absurd z.1 (by decide)) (fun z => absurd z.1 (by decide)) (fun z => absurd z.1 (by decide))]; exact hC
  refine l_qM X hm hmp hlc hst mp 0 (mm8 S m) (mm8_MP m hP) hM (by rw [mm8_5 _ _ _ _ _ (by decide) (by decide) (by decide) (by decide)]; exact hC5) (by rw [mm8_5 _ _ _ _ _ (by decide) (by decide) (by decide) (by decide)]; exact hS) (by omega) (fun j => ?_)
  refine WS_is (mmS S m) (by rw [mmS, hM, nI_c (by omega)]) ?_
  refine ws_vret X d_M_readMethod_193 ?_
  exact ⟨rfl, rfl⟩


