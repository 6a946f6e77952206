/-! read -/
theorem mpGo_o (q : Nat) (a b d : Nat) (h : a ≠ 6) : ∀ (n i : Nat) (S : MS), (mpGo S q n i).2.1 a b d = S.1 a b d
  | 0, _, _ => rfl
  | n + 1, i, S => by
    rw [mpGo]
    by_cases h1 : S.1 4 q 6 ≤ nI i
    · rw [if_pos h1]
    · rw [if_neg h1]
      by_cases h2 : kindsAtM S q (mapPlaceM S q (nI i)) = -1
      · rw [if_pos h2]; exact wI_o _ _ _ _ _ _ _ _ (fun z => h z.1)
      · rw [if_neg h2, mpGo_o q a b d h n (i + 1)]; exact wI_o _ _ _ _ _ _ _ _ (fun z => h z.1)
theorem jmGo_o (q : Nat) (tk : Nat → Nat) (a b d : Nat) (h : a ≠ 6) (h2 : a ≠ 17) : ∀ (n i : Nat) (S : MS), (jmGo q tk n i S).2.1 a b d = S.1 a b d
  | 0, _, _ => rfl
  | n + 1, i, S => by
    have e : (jopS (wI S 6 0 0 (nI i)) q tk).1 a b d = S.1 a b d := by
      rw [jopS_o _ _ _ _ _ _ (fun z => h z.1) (fun z => h z.1) h2, wI_o _ _ _ _ _ _ _ _ (fun z => h z.1)]
    rw [jmGo]
    by_cases h1 : S.1 4 q 5 ≤ nI i
    · rw [if_pos h1]; exact mpGo_o q a b d h 9 0 S
    · rw [if_neg h1]
      by_cases h3 : jopV (wI S 6 0 0 (nI i)) q tk = 0
      · rw [if_pos h3]
        by_cases h4 : opByte (codeM (jopS (wI S 6 0 0 (nI i)) q tk) q (nI i)) = true
        · rw [if_pos h4, jmGo_o q tk a b d h h2 n (i + 2)]; exact e
        · rw [if_neg h4, jmGo_o q tk a b d h h2 n (i + 1)]; exact e
      · rw [if_neg h3]; exact e
theorem jm0_o (S : MS) (q a b d : Nat) (h : a ≠ 6) (h2 : a ≠ 17) : (jm0 S q).1 a b d = S.1 a b d := by
  rw [jm0, wI_o _ _ _ _ _ _ _ _ (fun z => h z.1), wI_o _ _ _ _ _ _ _ _ (fun z => h z.1), clrJ_o _ _ _ _ _ _ h2]
/-- what the rows hold behind a FILE that was read -/
def GR (tk : Nat → Nat) (k : Nat) (S : MS) : Prop := S.1 2 0 3 = nI k ∧ k ≤ 5 ∧ ∀ q, q < 5 → S.1 4 q 5 ≤ 48 ∧ S.1 4 q 6 ≤ 8 ∧ S.1 4 q 1 = nI (tk q) ∧ tk q ≤ 3
theorem GR.same {tk : Nat → Nat} {k : Nat} {S S' : MS} (h : GR tk k S) (h2 : ∀ b d, S'.1 2 b d = S.1 2 b d) (h4 : ∀ b d, S'.1 4 b d = S.1 4 b d) : GR tk k S' := by
  refine ⟨by rw [h2]; exact h.1, h.2.1, fun q hq => ?_⟩
  rw [h4, h4, h4]
  exact h.2.2 q hq
def jmR (tk : Nat → Nat) (i : Nat) (S : MS) : Int32 × MS := jmGo (nI i).toNatClampNeg tk 50 0 (jm0 S (nI i).toNatClampNeg)
def jmN (tk : Nat → Nat) (i : Nat) (S : MS) : MS := wI (jmR tk i S).2 0 0 5 (jmR tk i S).1
def rdGo (tk : Nat → Nat) : Nat → Nat → Int32 → MS → Int32 × MS
  | 0, _, a, S => (a, S)
  | n + 1, i, a, S => if S.1 2 0 3 ≤ nI i then (a, S) else if S.1 0 0 5 = 0 then rdGo tk n (i + 1) (if (jmN tk i S).1 0 0 5 = 0 then (jmN tk i S).1 2 0 3 else -1000 - 50 * nI i - (jmN tk i S).1 6 0 0) (jmN tk i S) else (a, S)
theorem jmN_GR {tk : Nat → Nat} {k i : Nat} {S : MS} (h : GR tk k S) : GR tk k (jmN tk i S) := by
  refine h.same (fun b d => ?_) (fun b d => ?_) <;>
  · rw [jmN, wI_o _ _ _ _ _ _ _ _ (fun z => absurd z.1 (by decide)), jmR, jmGo_o _ _ _ _ _ (by decide) (by decide), jm0_o _ _ _ _ _ (by decide) (by decide)]
section L19
variable {p : Program} {l : Launch} {e0 : Env} {s : State} {m0 : MethodId} {args : Array Value} {below : List Frame} {meth : Method} {c0 : Code} {G : GG} {A : Nat → Prop} {Q : State → Prop}
theorem l_rd (X : CX p s m0 args meth c0 G A c_IF_read y_IF_read.cls 3 ((some .int))) {tk : Nat → Nat} {k : Nat} : ∀ (n i : Nat) (a : Int32) (S : MS), i + n = k → GR tk k S → (∀ (j : Int32), WS p l e0 (rmS 7 166) s m0 args below meth c0 G A 3 0 0 Q 136 [some (.inr (0, 0)), some (.inl (.int (rdGo tk n i a S).1)), some (.inl (.int j))] [] ((rdGo tk n i a S).2)) → WS p l e0 (rmS 7 166) s m0 args below meth c0 G A 3 0 0 Q 62 [some (.inr (0, 0)), some (.inl (.int a)), some (.inl (.int (nI i)))] [] (S) := by
  intro n
  induction n with
  | zero =>
    intro i a S hi hG K
    have hk5 := hG.2.1
    have hh : S.1 2 0 3 ≤ nI i := by rw [hG.1, nI_leI (by omega) (by omega)]; omega
    refine ws_iload_n (i := 2) X d_IF_read_62 rfl rfl ?_
    refine ws_aload_n (i := 0) X d_IF_read_63 rfl rfl ?_
    refine ws_getR X fl_IF_19 ob0 d_IF_read_64 ?_
    refine ws_getI X fl_IF_80 ob2 d_IF_read_67 ?_
    refine ws_icmp_ge X d_IF_read_70 (fun h70 => ?_) (fun h70 => ?_)
    · exact K _
    · exact absurd hh h70
  | succ n ih =>
    intro i a S hi hG K
    have hk5 := hG.2.1
    have hh : ¬ S.1 2 0 3 ≤ nI i := by rw [hG.1, nI_leI (by omega) (by omega)]; omega
    have hok : okG S (nI i) = true := okG_n hk5 hG.1 (by omega)
    have hc := nI_c (i := i) (by omega)
    have hr := hG.2.2 i (by omega)
    rw [rdGo] at K
    refine ws_iload_n (i := 2) X d_IF_read_62 rfl rfl ?_
    refine ws_aload_n (i := 0) X d_IF_read_63 rfl rfl ?_
    refine ws_getR X fl_IF_19 ob0 d_IF_read_64 ?_
    refine ws_getI X fl_IF_80 ob2 d_IF_read_67 ?_
    refine ws_icmp_ge X d_IF_read_70 (fun h70 => ?_) (fun h70 => ?_)
    · exact absurd h70 hh
    · refine ws_aload_n (i := 0) X d_IF_read_73 rfl rfl ?_
      refine ws_getI X fl_IF_77 ob0 d_IF_read_74 ?_
      refine ws_if_ne X d_IF_read_77 (fun h77 => ?_) (fun h77 => ?_)
      · simp only [eq_false h70, eq_false h77, if_true, if_false] at K; exact K _
      · refine ws_aload_n (i := 0) X d_IF_read_80 rfl rfl ?_
        refine ws_aload_n (i := 0) X d_IF_read_81 rfl rfl ?_
        refine ws_getR X fl_IF_33 ob0 d_IF_read_82 ?_
        refine ws_aload_n (i := 0) X d_IF_read_85 rfl rfl ?_
        refine ws_getR X fl_IF_19 ob0 d_IF_read_86 ?_
        refine ws_iload_n (i := 2) X d_IF_read_89 rfl rfl ?_
        refine ws_callV1 X (m_Judge_judgeMethod _ _ tk hok (by rw [hc]; exact hr.1) (by rw [hc]; exact hr.2.1) (fun j hj => (hG.2.2 j hj).2.2)) cv_Judge_judgeMethod ml_IF_86 ob6 rfl rfl (Nat.le_of_ble_eq_true rfl) ⟨Nat.le_of_ble_eq_true rfl, Nat.le_of_ble_eq_true rfl⟩ ⟨Nat.zero_le _, Nat.zero_le _⟩ d_IF_read_90 ?_
        refine ws_putI X fl_IF_77 ob0 d_IF_read_93 ?_
        show WS _ _ _ _ _ _ _ _ _ _ _ _ _ _ _ _ _ _ _ (jmN tk i S)
        refine ws_aload_n (i := 0) X d_IF_read_96 rfl rfl ?_
        refine ws_getI X fl_IF_77 ob0 d_IF_read_97 ?_
        refine ws_if_ne X d_IF_read_100 (fun h100 => ?_) (fun h100 => ?_)
        · refine ws_sipush (v := (-1000)) X d_IF_read_113 rfl ?_
          refine ws_bipush (v := 50) X d_IF_read_116 rfl ?_
          refine ws_iload_n (i := 2) X d_IF_read_118 rfl rfl ?_
          refine ws_imul X d_IF_read_119 ?_
          refine ws_isub X d_IF_read_120 ?_
          refine ws_aload_n (i := 0) X d_IF_read_121 rfl rfl ?_
          refine ws_getR X fl_IF_33 ob0 d_IF_read_122 ?_
          refine ws_getI X fl_IF_90 ob6 d_IF_read_125 ?_
          refine ws_isub X d_IF_read_128 ?_
          refine ws_istn_1 X rfl d_IF_read_129 (by decide) ?_
          refine ws_iinc_2 X rfl d_IF_read_130 rfl (by decide) ?_
          refine ws_goto X d_IF_read_133 ?_
          rw [nI_inc]; simp only [eq_false h70, eq_true h77, eq_false h100, if_true, if_false] at K; exact ih (i + 1) _ _ (by omega) (jmN_GR hG) K
        · refine ws_aload_n (i := 0) X d_IF_read_103 rfl rfl ?_
          refine ws_getR X fl_IF_19 ob0 d_IF_read_104 ?_
          refine ws_getI X fl_IF_80 ob2 d_IF_read_107 ?_
          refine ws_goto X d_IF_read_110 ?_
          refine ws_istn_1 X rfl d_IF_read_129 (by decide) ?_
          refine ws_iinc_2 X rfl d_IF_read_130 rfl (by decide) ?_
          refine ws_goto X d_IF_read_133 ?_
          rw [nI_inc]; simp only [eq_false h70, eq_true h77, eq_true h100, if_true, if_false] at K; exact ih (i + 1) _ _ (by omega) (jmN_GR hG) K
end L19
def rd1 (S : MS) : MS := wI (rfS (wI S 0 0 6 0)) 0 0 5 ((rfS (wI S 0 0 6 0)).1 5 0 1)
def rdA (S : MS) : Int32 := if (rd1 S).1 0 0 5 = 0 then (rd1 S).1 2 0 3 else -200 - (rd1 S).1 5 0 0
def rdR (tk : Nat → Nat) (k : Nat) (S : MS) : Int32 × MS := rdGo tk k 0 (rdA S) (rd1 S)
def rdS (tk : Nat → Nat) (k : Nat) (S : MS) : MS := if (rdR tk k S).2.1 0 0 5 = 0 then (rdR tk k S).2 else forgetG (rdR tk k S).2
theorem m_IF_read (S : MS) (tk : Nat → Nat) (k : Nat) (hG : GR tk k (rd1 S)) : MetE y_IF_read c_IF_read 3 ((some .int)) 7 166 [.inr (0, 0)] S (some (.inl (.int (rdR tk k S).1))) (rdS tk k S) := by
  refine MetS.of (lv0 := [some (.inr (0, 0)), none, none]) pn_IF rfl (Nat.le_of_ble_eq_true rfl) (fun p0 l0 e0 s0 m0 args below meth c0 G X => ?_)
  refine ws_aload_n (i := 0) X d_IF_read_0 rfl rfl ?_
  refine ws_iconst (v := 0) X d_IF_read_1 rfl ?_
  refine ws_putI X fl_IF_67 ob0 d_IF_read_2 ?_
  refine ws_aload_n (i := 0) X d_IF_read_5 rfl rfl ?_
  refine ws_getR X fl_IF_26 ob0 d_IF_read_6 ?_
  refine ws_aload_n (i := 0) X d_IF_read_9 rfl rfl ?_
  refine ws_getR X fl_IF_10 ob0 d_IF_read_10 ?_
  refine ws_aload_n (i := 0) X d_IF_read_13 rfl rfl ?_
  refine ws_getR X fl_IF_19 ob0 d_IF_read_14 ?_
  refine ws_callV0 X (m_Read_readFile _) cv_Read_readFile ml_IF_70 ob5 rfl rfl (Nat.le_of_ble_eq_true rfl) ⟨Nat.le_of_ble_eq_true rfl, Nat.le_of_ble_eq_true rfl⟩ ⟨Nat.zero_le _, Nat.zero_le _⟩ d_IF_read_17 ?_
  refine ws_aload_n (i := 0) X d_IF_read_20 rfl rfl ?_
  refine ws_aload_n (i := 0) X d_IF_read_21 rfl rfl ?_
  refine ws_getR X fl_IF_26 ob0 d_IF_read_22 ?_
  refine ws_getI X fl_IF_74 ob5 d_IF_read_25 ?_
  refine ws_putI X fl_IF_77 ob0 d_IF_read_28 ?_
  show WS _ _ _ _ _ _ _ _ _ _ _ _ _ _ _ _ _ _ _ (rd1 S)
  refine ws_aload_n (i := 0) X d_IF_read_31 rfl rfl ?_
  refine ws_getI X fl_IF_77 ob0 d_IF_read_32 ?_
  refine ws_if_ne X d_IF_read_35 (fun h35 => ?_) (fun h35 => ?_)
  · refine ws_sipush (v := (-200)) X d_IF_read_48 rfl ?_
    refine ws_aload_n (i := 0) X d_IF_read_51 rfl rfl ?_
    refine ws_getR X fl_IF_26 ob0 d_IF_read_52 ?_
    refine ws_getI X fl_IF_83 ob5 d_IF_read_55 ?_
    refine ws_isub X d_IF_read_58 ?_
    refine ws_istn_1 X rfl d_IF_read_59 (by decide) ?_
    refine ws_iconst (v := 0) X d_IF_read_60 rfl ?_
    refine ws_istn_2 X rfl d_IF_read_61 (by decide) ?_
    refine l_rd X k 0 _ (rd1 S) (by omega) hG (fun j => ?_)
    refine ws_aload_n (i := 0) X d_IF_read_136 rfl rfl ?_
    refine ws_getI X fl_IF_77 ob0 d_IF_read_137 ?_
    refine ws_if_eq X d_IF_read_140 (fun h140 => ?_) (fun h140 => ?_)
    · refine ws_iload_n (i := 1) X d_IF_read_150 rfl rfl ?_
      refine ws_iret X d_IF_read_151 ?_
      exact ⟨by simp [rdR, rdA, eq_false h35], by simp [rdS, rdR, rdA, eq_false h35, eq_true h140]⟩
    · refine ws_aload_n (i := 0) X d_IF_read_143 rfl rfl ?_
      refine ws_getR X fl_IF_19 ob0 d_IF_read_144 ?_
      refine ws_callV0 X (m_Prog_forget _) cv_Prog_forget ml_IF_91 ob2 rfl rfl (Nat.le_of_ble_eq_true rfl) ⟨Nat.le_of_ble_eq_true rfl, Nat.le_of_ble_eq_true rfl⟩ ⟨Nat.zero_le _, Nat.zero_le _⟩ d_IF_read_147 ?_
      refine ws_iload_n (i := 1) X d_IF_read_150 rfl rfl ?_
      refine ws_iret X d_IF_read_151 ?_
      exact ⟨by simp [rdR, rdA, eq_false h35], by simp [rdS, rdR, rdA, eq_false h35, eq_false h140]⟩
  · refine ws_aload_n (i := 0) X d_IF_read_38 rfl rfl ?_
    refine ws_getR X fl_IF_19 ob0 d_IF_read_39 ?_
    refine ws_getI X fl_IF_80 ob2 d_IF_read_42 ?_
    refine ws_goto X d_IF_read_45 ?_
    refine ws_istn_1 X rfl d_IF_read_59 (by decide) ?_
    refine ws_iconst (v := 0) X d_IF_read_60 rfl ?_
    refine ws_istn_2 X rfl d_IF_read_61 (by decide) ?_
    refine l_rd X k 0 _ (rd1 S) (by omega) hG (fun j => ?_)
    refine ws_aload_n (i := 0) X d_IF_read_136 rfl rfl ?_
    refine ws_getI X fl_IF_77 ob0 d_IF_read_137 ?_
    refine ws_if_eq X d_IF_read_140 (fun h140 => ?_) (fun h140 => ?_)
    · refine ws_iload_n (i := 1) X d_IF_read_150 rfl rfl ?_
      refine ws_iret X d_IF_read_151 ?_
      exact ⟨by simp [rdR, rdA, eq_true h35], by simp [rdS, rdR, rdA, eq_true h35, eq_true h140]⟩
    · refine ws_aload_n (i := 0) X d_IF_read_143 rfl rfl ?_
      refine ws_getR X fl_IF_19 ob0 d_IF_read_144 ?_
      refine ws_callV0 X (m_Prog_forget _) cv_Prog_forget ml_IF_91 ob2 rfl rfl (Nat.le_of_ble_eq_true rfl) ⟨Nat.le_of_ble_eq_true rfl, Nat.le_of_ble_eq_true rfl⟩ ⟨Nat.zero_le _, Nat.zero_le _⟩ d_IF_read_147 ?_
      refine ws_iload_n (i := 1) X d_IF_read_150 rfl rfl ?_
      refine ws_iret X d_IF_read_151 ?_
      exact ⟨by simp [rdR, rdA, eq_true h35], by simp [rdS, rdR, rdA, eq_true h35, eq_false h140]⟩


