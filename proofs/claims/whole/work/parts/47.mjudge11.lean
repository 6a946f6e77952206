/-! the model judges: what judgeOp notes -/
def mjo1 (S : MS) (a k : Nat) : MS := wI S 45 0 (6 * a + k) (if S.1 8 0 33 ≤ nI k then 0 else S.1 48 0 k)
def mjo2 (S : MS) (m a k : Nat) : MS := wI (mjo1 S a k) 46 0 (6 * a + k) (if (mjo1 S a k).1 34 0 m ≤ nI k then 0 else (mjo1 S a k).1 49 0 k)
theorem mjo2_o (S : MS) (m a k b c d : Nat) (h1 : b ≠ 45) (h2 : b ≠ 46) : (mjo2 S m a k).1 b c d = S.1 b c d := by
  rw [mjo2, wI_o _ _ _ _ _ _ _ _ (fun z => h2 z.1), mjo1, wI_o _ _ _ _ _ _ _ _ (fun z => h1 z.1)]
def mjoGo (m a : Nat) : Nat → Nat → MS → MS
  | 0, _, S => S
  | n + 1, k, S => mjoGo m a n (k + 1) (mjo2 S m a k)
theorem mjoGo_o (m a b c d : Nat) (h1 : b ≠ 45) (h2 : b ≠ 46) : ∀ (n k : Nat) (S : MS), (mjoGo m a n k S).1 b c d = S.1 b c d
  | 0, _, _ => rfl
  | n + 1, k, S => by rw [mjoGo, mjoGo_o m a b c d h1 h2 n, mjo2_o _ _ _ _ _ _ _ h1 h2]
section L45
variable {p : Program} {l : Launch} {e0 : Env} {s : State} {m0 : MethodId} {args : Array Value} {below : List Frame} {meth : Method} {c0 : Code} {G : GG} {A : Nat → Prop} {Q : State → Prop}
theorem l_mjo (X : CX p s m0 args meth c0 G A c_M_judgeOp y_M_judgeOp.cls 8 (none)) {m a : Nat} {pl o x4 : Int32} (hm : m < 5) (ha : a < 240) : ∀ (n k : Nat) (S : MS), k + n = 6 → (∀ j : Int32, WS p l e0 (rmS 3 75) s m0 args below meth c0 G A 8 0 0 Q 176 [some (.inr (8, 0)), some (.inl (.int (nI m))), some (.inl (.int pl)), some (.inl (.int o)), some (.inl (.int x4)), some (.inl (.int (nI a))), some (.inl (.int j)), none] [] (mjoGo m a n k S)) → WS p l e0 (rmS 3 75) s m0 args below meth c0 G A 8 0 0 Q 95 [some (.inr (8, 0)), some (.inl (.int (nI m))), some (.inl (.int pl)), some (.inl (.int o)), some (.inl (.int x4)), some (.inl (.int (nI a))), some (.inl (.int (nI k))), none] [] (S) := by
  intro n
  have hcm := nI_c (i := m) (by omega)
  have hinm : vp_in (nI m) 5 := vp_in_nI hm (by omega)
  induction n with
  | zero =>
    intro k S hi' K
    have hh : (6 : Int32) ≤ nI k := by rw [show (6 : Int32) = nI 6 from rfl, nI_leI (by omega) (by omega)]; omega
    refine ws_iload (i := 6) X d_M_judgeOp_95 rfl ?_
    refine ws_bipush (v := 6) X d_M_judgeOp_97 rfl ?_
    refine ws_icmp_ge X d_M_judgeOp_99 (fun h99 => ?_) (fun h99 => ?_)
    · exact K _
    · exact absurd hh h99
  | succ n ih =>
    intro k S hi' K
    have hh : ¬ (6 : Int32) ≤ nI k := by rw [show (6 : Int32) = nI 6 from rfl, nI_leI (by omega) (by omega)]; omega
    have hin : vp_in (nI (6 * a + k)) 1440 := vp_in_nI (by omega) (by omega)
    have hin8 : vp_in (nI k) 8 := vp_in_nI (by omega) (by omega)
    have hin6 : vp_in (nI k) 6 := vp_in_nI (by omega) (by omega)
    have hc8 := nI_c (i := 6 * a + k) (by omega)
    have hck := nI_c (i := k) (by omega)
    have h66 : (6 : Int32) * nI a + nI k = nI (6 * a + k) := by rw [show (6 : Int32) = nI 6 from rfl, ixN]
    rw [mjoGo] at K
    refine ws_iload (i := 6) X d_M_judgeOp_95 rfl ?_
    refine ws_bipush (v := 6) X d_M_judgeOp_97 rfl ?_
    refine ws_icmp_ge X d_M_judgeOp_99 (fun h99 => ?_) (fun h99 => ?_)
    · exact absurd h99 hh
    · refine ws_aload_n (i := 0) X d_M_judgeOp_102 rfl rfl ?_
      refine ws_getR X fl_M_76 ob8 d_M_judgeOp_103 ?_
      refine ws_bipush (v := 6) X d_M_judgeOp_106 rfl ?_
      refine ws_iload (i := 5) X d_M_judgeOp_108 rfl ?_
      refine ws_imul X d_M_judgeOp_110 ?_
      refine ws_iload (i := 6) X d_M_judgeOp_111 rfl ?_
      refine ws_iadd X d_M_judgeOp_113 ?_
      rw [h66]
      refine ws_iload (i := 6) X d_M_judgeOp_114 rfl ?_
      refine ws_aload_n (i := 0) X d_M_judgeOp_116 rfl rfl ?_
      refine ws_getI X fl_M_177 ob8 d_M_judgeOp_117 ?_
      refine ws_icmp_ge X d_M_judgeOp_120 (fun h120 => ?_) (fun h120 => ?_)
      · refine ws_iconst (v := 0) X d_M_judgeOp_133 rfl ?_
        refine ws_iast X ak45 ob45 (by assumption) d_M_judgeOp_134 ?_
        rw [hc8]; refine WS_is (mjo1 S a k) (by simp [mjo1, eq_false h99, eq_true h120]) ?_
        refine ws_aload_n (i := 0) X d_M_judgeOp_135 rfl rfl ?_
        refine ws_getR X fl_M_79 ob8 d_M_judgeOp_136 ?_
        refine ws_bipush (v := 6) X d_M_judgeOp_139 rfl ?_
        refine ws_iload (i := 5) X d_M_judgeOp_141 rfl ?_
        refine ws_imul X d_M_judgeOp_143 ?_
        refine ws_iload (i := 6) X d_M_judgeOp_144 rfl ?_
        refine ws_iadd X d_M_judgeOp_146 ?_
        rw [h66]
        refine ws_iload (i := 6) X d_M_judgeOp_147 rfl ?_
        refine ws_aload_n (i := 0) X d_M_judgeOp_149 rfl rfl ?_
        refine ws_getR X fl_M_42 ob8 d_M_judgeOp_150 ?_
        refine ws_iload_n (i := 1) X d_M_judgeOp_153 rfl rfl ?_
        refine ws_iald X ak34 ob34 (by assumption) d_M_judgeOp_154 ?_
        rw [hcm]
        refine ws_icmp_ge X d_M_judgeOp_155 (fun h155 => ?_) (fun h155 => ?_)
        · refine ws_iconst (v := 0) X d_M_judgeOp_168 rfl ?_
          refine ws_iast X ak46 ob46 (by assumption) d_M_judgeOp_169 ?_
          rw [hc8]; refine WS_is (mjo2 S m a k) (by simp [mjo2, eq_false h99, eq_true h120, eq_true h155]) ?_
          refine ws_iinc_6 X rfl d_M_judgeOp_170 rfl (by decide) ?_
          refine ws_goto X d_M_judgeOp_173 ?_
          rw [nI_inc]; exact ih (k + 1) _ (by omega) K
        · refine ws_aload_n (i := 0) X d_M_judgeOp_158 rfl rfl ?_
          refine ws_getR X fl_M_88 ob8 d_M_judgeOp_159 ?_
          refine ws_iload (i := 6) X d_M_judgeOp_162 rfl ?_
          refine ws_iald X ak49 ob49 (by assumption) d_M_judgeOp_164 ?_
          rw [hck]
          refine ws_goto X d_M_judgeOp_165 ?_
          refine ws_iast X ak46 ob46 (by assumption) d_M_judgeOp_169 ?_
          rw [hc8]; refine WS_is (mjo2 S m a k) (by simp [mjo2, eq_false h99, eq_true h120, eq_false h155]) ?_
          refine ws_iinc_6 X rfl d_M_judgeOp_170 rfl (by decide) ?_
          refine ws_goto X d_M_judgeOp_173 ?_
          rw [nI_inc]; exact ih (k + 1) _ (by omega) K
      · refine ws_aload_n (i := 0) X d_M_judgeOp_123 rfl rfl ?_
        refine ws_getR X fl_M_85 ob8 d_M_judgeOp_124 ?_
        refine ws_iload (i := 6) X d_M_judgeOp_127 rfl ?_
        refine ws_iald X ak48 ob48 (by assumption) d_M_judgeOp_129 ?_
        rw [hck]
        refine ws_goto X d_M_judgeOp_130 ?_
        refine ws_iast X ak45 ob45 (by assumption) d_M_judgeOp_134 ?_
        rw [hc8]; refine WS_is (mjo1 S a k) (by simp [mjo1, eq_false h99, eq_false h120]) ?_
        refine ws_aload_n (i := 0) X d_M_judgeOp_135 rfl rfl ?_
        refine ws_getR X fl_M_79 ob8 d_M_judgeOp_136 ?_
        refine ws_bipush (v := 6) X d_M_judgeOp_139 rfl ?_
        refine ws_iload (i := 5) X d_M_judgeOp_141 rfl ?_
        refine ws_imul X d_M_judgeOp_143 ?_
        refine ws_iload (i := 6) X d_M_judgeOp_144 rfl ?_
        refine ws_iadd X d_M_judgeOp_146 ?_
        rw [h66]
        refine ws_iload (i := 6) X d_M_judgeOp_147 rfl ?_
        refine ws_aload_n (i := 0) X d_M_judgeOp_149 rfl rfl ?_
        refine ws_getR X fl_M_42 ob8 d_M_judgeOp_150 ?_
        refine ws_iload_n (i := 1) X d_M_judgeOp_153 rfl rfl ?_
        refine ws_iald X ak34 ob34 (by assumption) d_M_judgeOp_154 ?_
        rw [hcm]
        refine ws_icmp_ge X d_M_judgeOp_155 (fun h155 => ?_) (fun h155 => ?_)
        · refine ws_iconst (v := 0) X d_M_judgeOp_168 rfl ?_
          refine ws_iast X ak46 ob46 (by assumption) d_M_judgeOp_169 ?_
          rw [hc8]; refine WS_is (mjo2 S m a k) (by simp [mjo2, eq_false h99, eq_false h120, eq_true h155]) ?_
          refine ws_iinc_6 X rfl d_M_judgeOp_170 rfl (by decide) ?_
          refine ws_goto X d_M_judgeOp_173 ?_
          rw [nI_inc]; exact ih (k + 1) _ (by omega) K
        · refine ws_aload_n (i := 0) X d_M_judgeOp_158 rfl rfl ?_
          refine ws_getR X fl_M_88 ob8 d_M_judgeOp_159 ?_
          refine ws_iload (i := 6) X d_M_judgeOp_162 rfl ?_
          refine ws_iald X ak49 ob49 (by assumption) d_M_judgeOp_164 ?_
          rw [hck]
          refine ws_goto X d_M_judgeOp_165 ?_
          refine ws_iast X ak46 ob46 (by assumption) d_M_judgeOp_169 ?_
          rw [hc8]; refine WS_is (mjo2 S m a k) (by simp [mjo2, eq_false h99, eq_false h120, eq_false h155]) ?_
          refine ws_iinc_6 X rfl d_M_judgeOp_170 rfl (by decide) ?_
          refine ws_goto X d_M_judgeOp_173 ?_
          rw [nI_inc]; exact ih (k + 1) _ (by omega) K
end L45

