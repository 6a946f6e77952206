/-! the model judges: a METHOD gone through -/
def bgGo (m : Nat) : Nat → Nat → MS → MS
  | 0, _, S => S
  | n + 1, i, S => bgGo m n (i + 1) (wI S 43 0 (48 * m + i) 0)
theorem bgGo_o (m b c d : Nat) (h : b ≠ 43) : ∀ (n i : Nat) (S : MS), (bgGo m n i S).1 b c d = S.1 b c d
  | 0, _, _ => rfl
  | n + 1, i, S => by rw [bgGo, bgGo_o m b c d h n, wI_o _ _ _ _ _ _ _ _ (fun z => h z.1)]
def ltGo (m : Nat) : Nat → Nat → MS → MS
  | 0, _, S => S
  | n + 1, i, S => ltGo m n (i + 1) (wI S 49 0 i (if S.1 31 0 m ≤ nI i then 0 else S.1 32 0 (3 * m + i)))
theorem ltGo_o (m b c d : Nat) (h : b ≠ 49) : ∀ (n i : Nat) (S : MS), (ltGo m n i S).1 b c d = S.1 b c d
  | 0, _, _ => rfl
  | n + 1, i, S => by rw [ltGo, ltGo_o m b c d h n, wI_o _ _ _ _ _ _ _ _ (fun z => h z.1)]
def opAt (S : MS) (m pl : Nat) : Nat := (S.1 37 0 (48 * m + pl)).toNatClampNeg
def mjGo (m : Nat) : Nat → Nat → MS → MS
  | 0, _, S => S
  | n + 1, pl, S => if S.1 36 0 m ≤ nI pl then S else if S.1 8 0 28 = 0 then mjGo m n (if mHas (nI (opAt S m pl)) = true then pl + 2 else pl + 1) (mjopS S m pl (opAt S m pl)) else S
def mmp1 (S : MS) (m i : Nat) : MS := if S.1 43 0 (48 * m + (S.1 39 0 (8 * m + i)).toNatClampNeg) = 0 then mFaultS S 11 (S.1 39 0 (8 * m + i)) else S
def mmpGo (m : Nat) : Nat → Nat → MS → MS
  | 0, _, S => S
  | n + 1, i, S => if S.1 8 0 28 = 0 then mmpGo m n (i + 1) (mmp1 S m i) else S
theorem mmp1_n (S : MS) (m i : Nat) {b c d : Nat} (h : NJ b d) : (mmp1 S m i).1 b c d = S.1 b c d := by
  unfold mmp1
  split
  · exact mFaultS_n _ _ _ h
  · rfl
section L47
variable {p : Program} {l : Launch} {e0 : Env} {s : State} {m0 : MethodId} {args : Array Value} {below : List Frame} {meth : Method} {c0 : Code} {G : GG} {A : Nat → Prop} {Q : State → Prop}
theorem l_bg (X : CX p s m0 args meth c0 G A c_M_judge y_M_judge.cls 4 (none)) {m : Nat} (hm : m < 5) : ∀ (n i : Nat) (S : MS), i + n = 48 → (∀ j : Int32, WS p l e0 (rmS 4 102) s m0 args below meth c0 G A 4 0 0 Q 26 [some (.inr (8, 0)), some (.inl (.int (nI m))), some (.inl (.int j)), none] [] (bgGo m n i S)) → WS p l e0 (rmS 4 102) s m0 args below meth c0 G A 4 0 0 Q 2 [some (.inr (8, 0)), some (.inl (.int (nI m))), some (.inl (.int (nI i))), none] [] (S) := by
  intro n
  induction n with
  | zero =>
    intro i S hi' K
    have hh : (48 : Int32) ≤ nI i := by rw [show (48 : Int32) = nI 48 from rfl, nI_leI (by omega) (by omega)]; omega
    refine ws_iload_n (i := 2) X d_M_judge_2 rfl rfl ?_
    refine ws_bipush (v := 48) X d_M_judge_3 rfl ?_
    refine ws_icmp_ge X d_M_judge_5 (fun h5 => ?_) (fun h5 => ?_)
    · exact K _
    · exact absurd hh h5
  | succ n ih =>
    intro i S hi' K
    have hh : ¬ (48 : Int32) ≤ nI i := by rw [show (48 : Int32) = nI 48 from rfl, nI_leI (by omega) (by omega)]; omega
    have hin : vp_in (nI (48 * m + i)) 240 := vp_in_nI (by omega) (by omega)
    have hc8 := nI_c (i := 48 * m + i) (by omega)
    have hx : (48 : Int32) * nI m + nI i = nI (48 * m + i) := by rw [show (48 : Int32) = nI 48 from rfl, ixN]
    rw [bgGo] at K
    refine ws_iload_n (i := 2) X d_M_judge_2 rfl rfl ?_
    refine ws_bipush (v := 48) X d_M_judge_3 rfl ?_
    refine ws_icmp_ge X d_M_judge_5 (fun h5 => ?_) (fun h5 => ?_)
    · exact absurd h5 hh
    · refine ws_aload_n (i := 0) X d_M_judge_8 rfl rfl ?_
      refine ws_getR X fl_M_69 ob8 d_M_judge_9 ?_
      refine ws_bipush (v := 48) X d_M_judge_12 rfl ?_
      refine ws_iload_n (i := 1) X d_M_judge_14 rfl rfl ?_
      refine ws_imul X d_M_judge_15 ?_
      refine ws_iload_n (i := 2) X d_M_judge_16 rfl rfl ?_
      refine ws_iadd X d_M_judge_17 ?_
      rw [hx]
      refine ws_iconst (v := 0) X d_M_judge_18 rfl ?_
      refine ws_zast X (rfl) ak43 ob43 (by assumption) d_M_judge_19 ?_
      rw [hc8]
      refine ws_iinc_2 X rfl d_M_judge_20 rfl (by decide) ?_
      refine ws_goto X d_M_judge_23 ?_
      rw [nI_inc]; exact ih (i + 1) _ (by omega) K
theorem l_lt (X : CX p s m0 args meth c0 G A c_M_judge y_M_judge.cls 4 (none)) {m t : Nat} (hm : m < 5) (ht : t ≤ 3) : ∀ (n i : Nat) (S : MS), S.1 31 0 m = nI t → i + n = 6 → (∀ j : Int32, WS p l e0 (rmS 4 102) s m0 args below meth c0 G A 4 0 0 Q 70 [some (.inr (8, 0)), some (.inl (.int (nI m))), some (.inl (.int j)), none] [] (ltGo m n i S)) → WS p l e0 (rmS 4 102) s m0 args below meth c0 G A 4 0 0 Q 28 [some (.inr (8, 0)), some (.inl (.int (nI m))), some (.inl (.int (nI i))), none] [] (S) := by
  intro n
  have hcm := nI_c (i := m) (by omega)
  have hinm : vp_in (nI m) 5 := vp_in_nI hm (by omega)
  induction n with
  | zero =>
    intro i S hT hi' K
    have hh : (6 : Int32) ≤ nI i := by rw [show (6 : Int32) = nI 6 from rfl, nI_leI (by omega) (by omega)]; omega
    refine ws_iload_n (i := 2) X d_M_judge_28 rfl rfl ?_
    refine ws_bipush (v := 6) X d_M_judge_29 rfl ?_
    refine ws_icmp_ge X d_M_judge_31 (fun h31 => ?_) (fun h31 => ?_)
    · exact K _
    · exact absurd hh h31
  | succ n ih =>
    intro i S hT hi' K
    have hh : ¬ (6 : Int32) ≤ nI i := by rw [show (6 : Int32) = nI 6 from rfl, nI_leI (by omega) (by omega)]; omega
    have hin6 : vp_in (nI i) 6 := vp_in_nI (by omega) (by omega)
    have hci := nI_c (i := i) (by omega)
    have hx : (3 : Int32) * nI m + nI i = nI (3 * m + i) := by rw [show (3 : Int32) = nI 3 from rfl, ixN]
    rw [ltGo] at K
    refine ws_iload_n (i := 2) X d_M_judge_28 rfl rfl ?_
    refine ws_bipush (v := 6) X d_M_judge_29 rfl ?_
    refine ws_icmp_ge X d_M_judge_31 (fun h31 => ?_) (fun h31 => ?_)
    · exact absurd h31 hh
    · refine ws_aload_n (i := 0) X d_M_judge_34 rfl rfl ?_
      refine ws_getR X fl_M_88 ob8 d_M_judge_35 ?_
      refine ws_iload_n (i := 2) X d_M_judge_38 rfl rfl ?_
      refine ws_iload_n (i := 2) X d_M_judge_39 rfl rfl ?_
      refine ws_aload_n (i := 0) X d_M_judge_40 rfl rfl ?_
      refine ws_getR X fl_M_33 ob8 d_M_judge_41 ?_
      refine ws_iload_n (i := 1) X d_M_judge_44 rfl rfl ?_
      refine ws_iald X ak31 ob31 (by assumption) d_M_judge_45 ?_
      rw [hcm]
      refine ws_icmp_ge X d_M_judge_46 (fun h46 => ?_) (fun h46 => ?_)
      · refine ws_iconst (v := 0) X d_M_judge_62 rfl ?_
        refine ws_iast X ak49 ob49 (hin6) d_M_judge_63 ?_
        rw [hci]
        refine ws_iinc_2 X rfl d_M_judge_64 rfl (by decide) ?_
        refine ws_goto X d_M_judge_67 ?_
        rw [nI_inc]; simp only [eq_false h31, eq_true h46, if_true, if_false] at K; exact ih (i + 1) _ (by rw [wI_o _ _ _ _ _ _ _ _ (fun z => absurd z.1 (by decide))]; exact hT) (by omega) K
      · have hlt : i < t := by have q := h46; rw [hT, nI_leI (by omega) (by omega)] at q; omega
        have hin15 : vp_in (nI (3 * m + i)) 15 := vp_in_nI (by omega) (by omega)
        have hc15 := nI_c (i := 3 * m + i) (by omega)
        refine ws_aload_n (i := 0) X d_M_judge_49 rfl rfl ?_
        refine ws_getR X fl_M_36 ob8 d_M_judge_50 ?_
        refine ws_iconst (v := 3) X d_M_judge_53 rfl ?_
        refine ws_iload_n (i := 1) X d_M_judge_54 rfl rfl ?_
        refine ws_imul X d_M_judge_55 ?_
        refine ws_iload_n (i := 2) X d_M_judge_56 rfl rfl ?_
        refine ws_iadd X d_M_judge_57 ?_
        rw [hx]
        refine ws_iald X ak32 ob32 (hin15) d_M_judge_58 ?_
        rw [hc15]
        refine ws_goto X d_M_judge_59 ?_
        refine ws_iast X ak49 ob49 (hin6) d_M_judge_63 ?_
        rw [hci]
        refine ws_iinc_2 X rfl d_M_judge_64 rfl (by decide) ?_
        refine ws_goto X d_M_judge_67 ?_
        rw [nI_inc]; simp only [eq_false h31, eq_false h46, if_true, if_false] at K; exact ih (i + 1) _ (by rw [wI_o _ _ _ _ _ _ _ _ (fun z => absurd z.1 (by decide))]; exact hT) (by omega) K
theorem l_mjm (X : CX p s m0 args meth c0 G A c_M_judge y_M_judge.cls 4 (none)) {m k en t lc st L mp : Nat} (hm : m < k) : ∀ (n pl : Nat) (S : MS) (x3 : Option MV), MB S k en → MBx S m t lc st L mp → (∃ d, d ≤ st ∧ S.1 8 0 33 = nI d) → 50 ≤ pl + n → pl ≤ 49 → (∀ (j : Int32) (x3 : Option MV), WS p l e0 (rmS 4 102) s m0 args below meth c0 G A 4 0 0 Q 136 [some (.inr (8, 0)), some (.inl (.int (nI m))), some (.inl (.int j)), x3] [] (mjGo m n pl S)) → WS p l e0 (rmS 4 102) s m0 args below meth c0 G A 4 0 0 Q 82 [some (.inr (8, 0)), some (.inl (.int (nI m))), some (.inl (.int (nI pl))), x3] [] (S) := by
  intro n
  induction n with
  | zero =>
    intro pl S x3 hB hX hd hi' hi2 K
    omega
  | succ n ih =>
    intro pl S x3 hB hX hd hi' hi2 K
    have hk5 := hB.2.1
    have hm5 : m < 5 := by omega
    have hXX := hX
    obtain ⟨h1, h2, h3, h4, h5, h6, h7, h8, h9, h10, h11, h12⟩ := hXX
    obtain ⟨d, hd1, hd2⟩ := hd
    have hcm := nI_c (i := m) (by omega)
    have hinm : vp_in (nI m) 5 := vp_in_nI hm5 (by omega)
    have hx : (48 : Int32) * nI m + nI pl = nI (48 * m + pl) := by rw [show (48 : Int32) = nI 48 from rfl, ixN]
    have hc8 := nI_c (i := 48 * m + pl) (by omega)
    rw [mjGo] at K
    refine ws_iload_n (i := 2) X d_M_judge_82 rfl rfl ?_
    refine ws_aload_n (i := 0) X d_M_judge_83 rfl rfl ?_
    refine ws_getR X fl_M_48 ob8 d_M_judge_84 ?_
    refine ws_iload_n (i := 1) X d_M_judge_87 rfl rfl ?_
    refine ws_iald X ak36 ob36 (by assumption) d_M_judge_88 ?_
    rw [hcm]
    refine ws_icmp_ge X d_M_judge_89 (fun h89 => ?_) (fun h89 => ?_)
    · simp only [eq_true h89, if_true, if_false] at K; exact K _ _
    · refine ws_aload_n (i := 0) X d_M_judge_92 rfl rfl ?_
      refine ws_getI X fl_M_118 ob8 d_M_judge_93 ?_
      refine ws_if_ne X d_M_judge_96 (fun h96 => ?_) (fun h96 => ?_)
      · simp only [eq_false h89, eq_false h96, if_true, if_false] at K; exact K _ _
      · skip
        have hlt : pl < L := by have q := h89; rw [h7, nI_leI (by omega) (by omega)] at q; omega
        have hin : vp_in (nI (48 * m + pl)) 240 := vp_in_nI (by omega) (by omega)
        obtain ⟨o, ho, hO⟩ := h11 pl hlt
        have hA : opAt S m pl = o := by rw [opAt, hO, nI_c (by omega)]
        refine ws_aload_n (i := 0) X d_M_judge_99 rfl rfl ?_
        refine ws_getR X fl_M_51 ob8 d_M_judge_100 ?_
        refine ws_bipush (v := 48) X d_M_judge_103 rfl ?_
        refine ws_iload_n (i := 1) X d_M_judge_105 rfl rfl ?_
        refine ws_imul X d_M_judge_106 ?_
        refine ws_iload_n (i := 2) X d_M_judge_107 rfl rfl ?_
        refine ws_iadd X d_M_judge_108 ?_
        rw [hx]
        refine ws_iald X ak37 ob37 (by assumption) d_M_judge_109 ?_
        rw [hc8, hO]
        refine ws_istn_3 X rfl d_M_judge_110 (by decide) ?_
        refine ws_aload_n (i := 0) X d_M_judge_111 rfl rfl ?_
        refine ws_iload_n (i := 1) X d_M_judge_112 rfl rfl ?_
        refine ws_iload_n (i := 2) X d_M_judge_113 rfl rfl ?_
        refine ws_iload_n (i := 3) X d_M_judge_114 rfl rfl ?_
        refine ws_callV0 X (m_M_judgeOp S m k en pl o t lc st L mp d hm hB hX hlt hO ho hd2 hd1) cv_M_judgeOp ml_M_184 ob8 rfl rfl (Nat.le_of_ble_eq_true rfl) ⟨Nat.le_of_ble_eq_true rfl, Nat.le_of_ble_eq_true rfl⟩ ⟨Nat.zero_le _, Nat.zero_le _⟩ d_M_judge_115 ?_
        refine ws_iload_n (i := 2) X d_M_judge_118 rfl rfl ?_
        refine ws_iload_n (i := 3) X d_M_judge_119 rfl rfl ?_
        refine ws_callS1 X (m_M_hasByte _ _) cs_M_hasByte ml_M_188 rfl rfl (Nat.le_of_ble_eq_true rfl) ⟨Nat.le_of_ble_eq_true rfl, Nat.le_of_ble_eq_true rfl⟩ ⟨Nat.zero_le _, Nat.zero_le _⟩ d_M_judge_120 ?_
        refine ws_ifB_eq X d_M_judge_123 (fun h123 => ?_) (fun h123 => ?_)
        · refine ws_iconst (v := 1) X d_M_judge_130 rfl ?_
          refine ws_iadd X d_M_judge_131 ?_
          refine ws_istn_2 X rfl d_M_judge_132 (by decide) ?_
          refine ws_goto X d_M_judge_133 ?_
          simp only [hA, eq_false h89, eq_true h96, h123, if_true, if_false, Bool.false_eq_true] at K
          first | rw [nI_1] | rw [show (2 : Int32) = nI 2 from rfl, nI_add]
          exact ih _ _ _ (mjopS_MB m pl o hB) (mjopS_MBx pl o hX) (mjopS_33 hm hB hX hlt hd2 hd1) (by omega) (by omega) K
        · refine ws_iconst (v := 2) X d_M_judge_126 rfl ?_
          refine ws_goto X d_M_judge_127 ?_
          refine ws_iadd X d_M_judge_131 ?_
          refine ws_istn_2 X rfl d_M_judge_132 (by decide) ?_
          refine ws_goto X d_M_judge_133 ?_
          simp only [hA, eq_false h89, eq_true h96, h123, if_true, if_false, Bool.false_eq_true] at K
          first | rw [nI_1] | rw [show (2 : Int32) = nI 2 from rfl, nI_add]
          exact ih _ _ _ (mjopS_MB m pl o hB) (mjopS_MBx pl o hX) (mjopS_33 hm hB hX hlt hd2 hd1) (by omega) (by omega) K
theorem l_mmp (X : CX p s m0 args meth c0 G A c_M_judge y_M_judge.cls 4 (none)) {m t lc st L mp : Nat} {x2 : Int32} (hm : m < 5) : ∀ (n i : Nat) (S : MS), MBx S m t lc st L mp → i + n = mp → (∀ j : Int32, WS p l e0 (rmS 4 102) s m0 args below meth c0 G A 4 0 0 Q 202 [some (.inr (8, 0)), some (.inl (.int (nI m))), some (.inl (.int x2)), some (.inl (.int j))] [] (mmpGo m n i S)) → WS p l e0 (rmS 4 102) s m0 args below meth c0 G A 4 0 0 Q 138 [some (.inr (8, 0)), some (.inl (.int (nI m))), some (.inl (.int x2)), some (.inl (.int (nI i)))] [] (S) := by
  intro n
  have hcm := nI_c (i := m) (by omega)
  have hinm : vp_in (nI m) 5 := vp_in_nI hm (by omega)
  induction n with
  | zero =>
    intro i S hX hi' K
    obtain ⟨h1, h2, h3, h4, h5, h6, h7, h8, h9, h10, h11, h12⟩ := hX
    have hh : S.1 38 0 m ≤ nI i := by rw [h9, nI_leI (by omega) (by omega)]; omega
    refine ws_iload_n (i := 3) X d_M_judge_138 rfl rfl ?_
    refine ws_aload_n (i := 0) X d_M_judge_139 rfl rfl ?_
    refine ws_getR X fl_M_54 ob8 d_M_judge_140 ?_
    refine ws_iload_n (i := 1) X d_M_judge_143 rfl rfl ?_
    refine ws_iald X ak38 ob38 (by assumption) d_M_judge_144 ?_
    rw [hcm]
    refine ws_icmp_ge X d_M_judge_145 (fun h145 => ?_) (fun h145 => ?_)
    · exact K _
    · exact absurd hh h145
  | succ n ih =>
    intro i S hX hi' K
    have hXX := hX
    obtain ⟨h1, h2, h3, h4, h5, h6, h7, h8, h9, h10, h11, h12⟩ := hXX
    have hh : ¬ S.1 38 0 m ≤ nI i := by rw [h9, nI_leI (by omega) (by omega)]; omega
    obtain ⟨q, d1, e1, e2, e3, e4⟩ := h12 i (by omega)
    have hin40 : vp_in (nI (8 * m + i)) 40 := vp_in_nI (by omega) (by omega)
    have hc40 := nI_c (i := 8 * m + i) (by omega)
    have hx : (8 : Int32) * nI m + nI i = nI (8 * m + i) := by rw [show (8 : Int32) = nI 8 from rfl, ixN]
    have hy : (48 : Int32) * nI m + nI q = nI (48 * m + q) := by rw [show (48 : Int32) = nI 48 from rfl, ixN]
    have hin240 : vp_in (nI (48 * m + q)) 240 := vp_in_nI (by omega) (by omega)
    have hc240 := nI_c (i := 48 * m + q) (by omega)
    have hq := nI_c (i := q) (by omega)
    have hMB : MBx (mmp1 S m i) m t lc st L mp := hX.same (fun b d h1 h2 => mmp1_n _ _ _ ⟨by omega, by omega, fun z => by omega⟩)
    rw [mmpGo] at K
    refine ws_iload_n (i := 3) X d_M_judge_138 rfl rfl ?_
    refine ws_aload_n (i := 0) X d_M_judge_139 rfl rfl ?_
    refine ws_getR X fl_M_54 ob8 d_M_judge_140 ?_
    refine ws_iload_n (i := 1) X d_M_judge_143 rfl rfl ?_
    refine ws_iald X ak38 ob38 (by assumption) d_M_judge_144 ?_
    rw [hcm]
    refine ws_icmp_ge X d_M_judge_145 (fun h145 => ?_) (fun h145 => ?_)
    · exact absurd h145 hh
    · refine ws_aload_n (i := 0) X d_M_judge_148 rfl rfl ?_
      refine ws_getI X fl_M_118 ob8 d_M_judge_149 ?_
      refine ws_if_ne X d_M_judge_152 (fun h152 => ?_) (fun h152 => ?_)
      · simp only [eq_false h145, eq_false h152, if_true, if_false] at K; exact K _
      · refine ws_aload_n (i := 0) X d_M_judge_155 rfl rfl ?_
        refine ws_getR X fl_M_69 ob8 d_M_judge_156 ?_
        refine ws_bipush (v := 48) X d_M_judge_159 rfl ?_
        refine ws_iload_n (i := 1) X d_M_judge_161 rfl rfl ?_
        refine ws_imul X d_M_judge_162 ?_
        refine ws_aload_n (i := 0) X d_M_judge_163 rfl rfl ?_
        refine ws_getR X fl_M_57 ob8 d_M_judge_164 ?_
        refine ws_bipush (v := 8) X d_M_judge_167 rfl ?_
        refine ws_iload_n (i := 1) X d_M_judge_169 rfl rfl ?_
        refine ws_imul X d_M_judge_170 ?_
        refine ws_iload_n (i := 3) X d_M_judge_171 rfl rfl ?_
        refine ws_iadd X d_M_judge_172 ?_
        rw [hx]
        refine ws_iald X ak39 ob39 (hin40) d_M_judge_173 ?_
        rw [hc40, e3]
        refine ws_iadd X d_M_judge_174 ?_
        rw [hy]
        refine ws_zald X ak43 ob43 (hin240) d_M_judge_175 ?_
        rw [hc240]
        refine ws_if_ne X d_M_judge_176 (fun h176 => ?_) (fun h176 => ?_)
        · refine ws_iinc_3 X rfl d_M_judge_196 rfl (by decide) ?_
          refine ws_goto X d_M_judge_199 ?_
          rw [nI_inc]; simp only [eq_false h145, eq_true h152, eq_false h176, if_true, if_false] at K
          refine WS_is (mmp1 S m i) (by simp [mmp1, e3, hq, eq_false h145, eq_true h152, eq_false h176]) ?_
          exact ih (i + 1) _ hMB (by omega) K
        · refine ws_aload_n (i := 0) X d_M_judge_179 rfl rfl ?_
          refine ws_bipush (v := 11) X d_M_judge_180 rfl ?_
          refine ws_aload_n (i := 0) X d_M_judge_182 rfl rfl ?_
          refine ws_getR X fl_M_57 ob8 d_M_judge_183 ?_
          refine ws_bipush (v := 8) X d_M_judge_186 rfl ?_
          refine ws_iload_n (i := 1) X d_M_judge_188 rfl rfl ?_
          refine ws_imul X d_M_judge_189 ?_
          refine ws_iload_n (i := 3) X d_M_judge_190 rfl rfl ?_
          refine ws_iadd X d_M_judge_191 ?_
          rw [hx]
          refine ws_iald X ak39 ob39 (hin40) d_M_judge_192 ?_
          rw [hc40]
          refine ws_callV0 X (m_M_faults _ _ _) cv_M_faults ml_M_127 ob8 rfl rfl (Nat.le_of_ble_eq_true rfl) ⟨Nat.le_of_ble_eq_true rfl, Nat.le_of_ble_eq_true rfl⟩ ⟨Nat.zero_le _, Nat.zero_le _⟩ d_M_judge_193 ?_
          refine ws_iinc_3 X rfl d_M_judge_196 rfl (by decide) ?_
          refine ws_goto X d_M_judge_199 ?_
          rw [nI_inc]; simp only [eq_false h145, eq_true h152, eq_true h176, if_true, if_false] at K
          refine WS_is (mmp1 S m i) (by simp [mmp1, e3, hq, eq_false h145, eq_true h152, eq_true h176]) ?_
          exact ih (i + 1) _ hMB (by omega) K
end L47
theorem mjGo_n (m : Nat) {b c d : Nat} (h : NO b d) : ∀ (n pl : Nat) (S : MS), (mjGo m n pl S).1 b c d = S.1 b c d
  | 0, _, _ => rfl
  | n + 1, pl, S => by
    rw [mjGo]
    split
    · rfl
    · split
      · rw [mjGo_n m h n, mjopS_n _ _ _ _ h]
      · rfl
theorem mmpGo_n (m : Nat) {b c d : Nat} (h : NJ b d) : ∀ (n i : Nat) (S : MS), (mmpGo m n i S).1 b c d = S.1 b c d
  | 0, _, _ => rfl
  | n + 1, i, S => by
    rw [mmpGo]
    split
    · rw [mmpGo_n m h n, mmp1_n _ _ _ h]
    · rfl
def mjg0 (S : MS) (m : Nat) : MS := ltGo m 6 0 (bgGo m 48 0 S)
def mjg1 (S : MS) (m : Nat) : MS := wI (wI (mjg0 S m) 8 0 33 0) 8 0 32 1
def mjg2 (S : MS) (m : Nat) : MS := mjGo m 50 0 (mjg1 S m)
def mjgS (S : MS) (m : Nat) : MS := mmpGo m (S.1 38 0 m).toNatClampNeg 0 (mjg2 S m)
theorem mjg1_n (S : MS) (m : Nat) {b c d : Nat} (h : NO b d) : (mjg1 S m).1 b c d = S.1 b c d := by
  rw [mjg1, wI_o _ _ _ _ _ _ _ _ (fun z => (h.1.2.2 z.1).2.2.1 z.2.2), wI_o _ _ _ _ _ _ _ _ (fun z => (h.1.2.2 z.1).2.2.2 z.2.2), mjg0, ltGo_o _ _ _ _ h.1.2.1, bgGo_o _ _ _ _ h.2.1]
theorem mjg2_n (S : MS) (m : Nat) {b c d : Nat} (h : NO b d) : (mjg2 S m).1 b c d = S.1 b c d := by
  rw [mjg2, mjGo_n m h, mjg1_n _ _ h]
theorem mjgS_n (S : MS) (m : Nat) {b c d : Nat} (h : NO b d) : (mjgS S m).1 b c d = S.1 b c d := by
  rw [mjgS, mmpGo_n m h.1, mjg2_n _ _ h]
theorem MB.n {S S' : MS} {k en : Nat} (h : MB S k en) (hs : ∀ b c d, NO b d → S'.1 b c d = S.1 b c d) : MB S' k en := h.same (hs _ _ _ (NO_8 (by decide))) (hs _ _ _ (NO_8 (by decide))) (fun b d h1 h2 => hs _ _ _ (NO_f h1 h2))
theorem MBx.n {S S' : MS} {m t lc st L mp : Nat} (h : MBx S m t lc st L mp) (hs : ∀ b c d, NO b d → S'.1 b c d = S.1 b c d) : MBx S' m t lc st L mp := h.same (fun b d h1 h2 => hs _ _ _ (NO_f h1 h2))
theorem m_M_judge (S : MS) (m k en t lc st L mp : Nat) (hm : m < k) (hB : MB S k en) (hX : MBx S m t lc st L mp) : MetE y_M_judge c_M_judge 4 (none) 4 102 [.inr (8, 0), .inl (.int (nI m))] S (none) (mjgS S m) := by
  refine MetS.of (lv0 := [some (.inr (8, 0)), some (.inl (.int (nI m))), none, none]) pn_M rfl (Nat.le_of_ble_eq_true rfl) (fun p0 l0 e0 s0 m0 args below meth c0 G X => ?_)
  have hm5 : m < 5 := by have := hB.2.1; omega
  have hX1 := hX.n (fun b c d h => mjg1_n S m (c := c) h)
  have hB1 := hB.n (fun b c d h => mjg1_n S m (c := c) h)
  have hX2 := hX.n (fun b c d h => mjg2_n S m (c := c) h)
  refine ws_iconst (v := 0) X d_M_judge_0 rfl ?_
  refine ws_istn_2 X rfl d_M_judge_1 (by decide) ?_
  refine l_bg X hm5 48 0 S (by omega) (fun j => ?_)
  refine ws_iconst (v := 0) X d_M_judge_26 rfl ?_
  refine ws_istn_2 X rfl d_M_judge_27 (by decide) ?_
  refine l_lt X hm5 hX.2.1 6 0 _ ((bgGo_o _ _ _ _ (by decide) _ _ _).trans hX.1) (by omega) (fun j => ?_)
  refine ws_aload_n (i := 0) X d_M_judge_70 rfl rfl ?_
  refine ws_iconst (v := 0) X d_M_judge_71 rfl ?_
  refine ws_putI X fl_M_177 ob8 d_M_judge_72 ?_
  refine ws_aload_n (i := 0) X d_M_judge_75 rfl rfl ?_
  refine ws_iconst (v := 1) X d_M_judge_76 rfl ?_
  refine ws_putZ X (⟨rfl, rfl⟩) fl_M_180 ob8 d_M_judge_77 ?_
  refine ws_iconst (v := 0) X d_M_judge_80 rfl ?_
  refine ws_istn_2 X rfl d_M_judge_81 (by decide) ?_
  refine WS_is (mjg1 S m) rfl ?_
  refine l_mjm X hm 50 0 (mjg1 S m) none hB1 hX1 ⟨0, Nat.zero_le _, by rw [mjg1, wI_o _ _ _ _ _ _ _ _ (by decide), wI_rd]; rfl⟩ (by omega) (by omega) (fun j x3 => ?_)
  refine WS_is (mjg2 S m) rfl ?_
  refine ws_iconst (v := 0) X d_M_judge_136 rfl ?_
  refine ws_istn_3 X rfl d_M_judge_137 (by decide) ?_
  refine l_mmp X hm5 mp 0 (mjg2 S m) hX2 (by omega) (fun j => ?_)
  refine WS_is (mjgS S m) (by rw [mjgS, hX.2.2.2.2.2.2.2.2.1, nI_c (by have := hX.2.2.2.2.2.2.2.2.2.1; omega)]) ?_
  refine ws_vret X d_M_judge_202 ⟨rfl, rfl⟩


