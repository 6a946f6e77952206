/-! the model reads: read -/
def flGo : Nat → Nat → MS → MS
  | 0, _, S => S
  | n + 1, i, S => flGo n (i + 1) (wI S 47 0 i 0)
theorem flGo_o (b c d : Nat) (h : b ≠ 47) : ∀ (n i : Nat) (S : MS), (flGo n i S).1 b c d = S.1 b c d
  | 0, _, _ => rfl
  | n + 1, i, S => by rw [flGo, flGo_o b c d h n, wI_o _ _ _ _ _ _ _ _ (fun z => h z.1)]
def mrGo : Nat → Nat → Int32 → MS → Int32 × MS
  | 0, _, a, S => (a, S)
  | n + 1, i, a, S => if S.1 8 0 9 ≤ nI i then (a, S) else if S.1 8 0 28 = 0 then mrGo n (i + 1) (-1000 - 50 * nI i - (mjgS S i).1 8 0 29) (mjgS S i) else (a, S)
section L48
variable {p : Program} {l : Launch} {e0 : Env} {s : State} {m0 : MethodId} {args : Array Value} {below : List Frame} {meth : Method} {c0 : Code} {G : GG} {A : Nat → Prop} {Q : State → Prop}
theorem l_fl (X : CX p s m0 args meth c0 G A c_M_read y_M_read.cls 3 ((some .int))) {x2 : Option MV} : ∀ (n i : Nat) (S : MS), i + n = 5 → (∀ j : Int32, WS p l e0 (rmS 6 134) s m0 args below meth c0 G A 3 0 0 Q 35 [some (.inr (8, 0)), some (.inl (.int j)), x2] [] (flGo n i S)) → WS p l e0 (rmS 6 134) s m0 args below meth c0 G A 3 0 0 Q 17 [some (.inr (8, 0)), some (.inl (.int (nI i))), x2] [] (S) := by
  intro n
  induction n with
  | zero =>
    intro i S hi' K
    have hh : (5 : Int32) ≤ nI i := by rw [show (5 : Int32) = nI 5 from rfl, nI_leI (by omega) (by omega)]; omega
    refine ws_iload_n (i := 1) X d_M_read_17 rfl rfl ?_
    refine ws_iconst (v := 5) X d_M_read_18 rfl ?_
    refine ws_icmp_ge X d_M_read_19 (fun h19 => ?_) (fun h19 => ?_)
    · exact K _
    · exact absurd hh h19
  | succ n ih =>
    intro i S hi' K
    have hh : ¬ (5 : Int32) ≤ nI i := by rw [show (5 : Int32) = nI 5 from rfl, nI_leI (by omega) (by omega)]; omega
    have hin : vp_in (nI i) 5 := vp_in_nI (by omega) (by omega)
    have hci := nI_c (i := i) (by omega)
    rw [flGo] at K
    refine ws_iload_n (i := 1) X d_M_read_17 rfl rfl ?_
    refine ws_iconst (v := 5) X d_M_read_18 rfl ?_
    refine ws_icmp_ge X d_M_read_19 (fun h19 => ?_) (fun h19 => ?_)
    · exact absurd h19 hh
    · refine ws_aload_n (i := 0) X d_M_read_22 rfl rfl ?_
      refine ws_getR X fl_M_82 ob8 d_M_read_23 ?_
      refine ws_iload_n (i := 1) X d_M_read_26 rfl rfl ?_
      refine ws_iconst (v := 0) X d_M_read_27 rfl ?_
      refine ws_iast X ak47 ob47 (by assumption) d_M_read_28 ?_
      rw [hci]
      refine ws_iinc_1 X rfl d_M_read_29 rfl (by decide) ?_
      refine ws_goto X d_M_read_32 ?_
      rw [nI_inc]; exact ih (i + 1) _ (by omega) K
theorem l_mr (X : CX p s m0 args meth c0 G A c_M_read y_M_read.cls 3 ((some .int))) {k en : Nat} : ∀ (n i : Nat) (a : Int32) (S : MS), (S.1 8 0 28 = 0 → MB S k en) → i + n = 6 → (∀ j : Int32, WS p l e0 (rmS 6 134) s m0 args below meth c0 G A 3 0 0 Q 90 [some (.inr (8, 0)), some (.inl (.int (mrGo n i a S).1)), some (.inl (.int j))] [] ((mrGo n i a S).2)) → WS p l e0 (rmS 6 134) s m0 args below meth c0 G A 3 0 0 Q 50 [some (.inr (8, 0)), some (.inl (.int a)), some (.inl (.int (nI i)))] [] (S) := by
  intro n
  induction n with
  | zero =>
    intro i a S hB hi' K
    by_cases hf : S.1 8 0 28 = 0
    · have hh : S.1 8 0 9 ≤ nI i := by
        obtain ⟨b1, b2, -⟩ := hB hf
        rw [b1, nI_leI (by omega) (by omega)]; omega
      skip
      refine ws_iload_n (i := 2) X d_M_read_50 rfl rfl ?_
      refine ws_aload_n (i := 0) X d_M_read_51 rfl rfl ?_
      refine ws_getI X fl_M_162 ob8 d_M_read_52 ?_
      refine ws_icmp_ge X d_M_read_55 (fun h55 => ?_) (fun h55 => ?_)
      · exact K _
      · exact absurd hh h55
    · skip
      refine ws_iload_n (i := 2) X d_M_read_50 rfl rfl ?_
      refine ws_aload_n (i := 0) X d_M_read_51 rfl rfl ?_
      refine ws_getI X fl_M_162 ob8 d_M_read_52 ?_
      refine ws_icmp_ge X d_M_read_55 (fun h55 => ?_) (fun h55 => ?_)
      · exact K _
      · refine ws_aload_n (i := 0) X d_M_read_58 rfl rfl ?_
        refine ws_getI X fl_M_118 ob8 d_M_read_59 ?_
        refine ws_if_ne X d_M_read_62 (fun h62 => ?_) (fun h62 => ?_)
        · exact K _
        · exact absurd h62 hf
  | succ n ih =>
    intro i a S hB hi' K
    rw [mrGo] at K
    refine ws_iload_n (i := 2) X d_M_read_50 rfl rfl ?_
    refine ws_aload_n (i := 0) X d_M_read_51 rfl rfl ?_
    refine ws_getI X fl_M_162 ob8 d_M_read_52 ?_
    refine ws_icmp_ge X d_M_read_55 (fun h55 => ?_) (fun h55 => ?_)
    · simp only [eq_true h55, if_true, if_false] at K; exact K _
    · refine ws_aload_n (i := 0) X d_M_read_58 rfl rfl ?_
      refine ws_getI X fl_M_118 ob8 d_M_read_59 ?_
      refine ws_if_ne X d_M_read_62 (fun h62 => ?_) (fun h62 => ?_)
      · simp only [eq_false h55, eq_false h62, if_true, if_false] at K; exact K _
      · obtain ⟨b1, b2, b3, b4, b5⟩ := hB h62
        have hlt : i < k := by have q := h55; rw [b1, nI_leI (by omega) (by omega)] at q; omega
        obtain ⟨t, lc, st, L, mp, hX⟩ := b5 i hlt
        refine ws_aload_n (i := 0) X d_M_read_65 rfl rfl ?_
        refine ws_iload_n (i := 2) X d_M_read_66 rfl rfl ?_
        refine ws_callV0 X (m_M_judge S i k en t lc st L mp hlt (hB h62) hX) cv_M_judge ml_M_174 ob8 rfl rfl (Nat.le_of_ble_eq_true rfl) ⟨Nat.le_of_ble_eq_true rfl, Nat.le_of_ble_eq_true rfl⟩ ⟨Nat.zero_le _, Nat.zero_le _⟩ d_M_read_67 ?_
        refine ws_sipush (v := (-1000)) X d_M_read_70 rfl ?_
        refine ws_bipush (v := 50) X d_M_read_73 rfl ?_
        refine ws_iload_n (i := 2) X d_M_read_75 rfl rfl ?_
        refine ws_imul X d_M_read_76 ?_
        refine ws_isub X d_M_read_77 ?_
        refine ws_aload_n (i := 0) X d_M_read_78 rfl rfl ?_
        refine ws_getI X fl_M_121 ob8 d_M_read_79 ?_
        refine ws_isub X d_M_read_82 ?_
        refine ws_istn_1 X rfl d_M_read_83 (by decide) ?_
        refine ws_iinc_2 X rfl d_M_read_84 rfl (by decide) ?_
        refine ws_goto X d_M_read_87 ?_
        rw [nI_inc]; simp only [eq_false h55, eq_true h62, if_true, if_false] at K
        exact ih (i + 1) _ _ (fun _ => (hB h62).n (fun b c d h => mjgS_n S i h)) (by omega) K
end L48
def mrd0 (S : MS) : MS := flGo 5 0 (wI (wI (wI S 8 0 28 0) 8 0 29 0) 8 0 30 0)
def mrd1 (S : MS) : MS := mfS (mrd0 S)
def mrdR (S : MS) : Int32 × MS := mrGo 6 0 (-200 - (mrd1 S).1 8 0 29) (mrd1 S)
def mrdV (S : MS) : Int32 := if (mrdR S).2.1 8 0 28 = 0 then (mrdR S).2.1 8 0 9 else (mrdR S).1
def mrdS (S : MS) : MS := if (mrdR S).2.1 8 0 28 = 0 then (mrdR S).2 else wI (wI (wI (mrdR S).2 8 0 3 0) 8 0 4 0) 8 0 9 0
theorem m_M_read (S : MS) (k en : Nat) (hT : MT (mrd0 S)) (hW : MW (mrd0 S)) (hB : (mrd1 S).1 8 0 28 = 0 → MB (mrd1 S) k en) : MetE y_M_read c_M_read 3 ((some .int)) 6 134 [.inr (8, 0)] S (some (.inl (.int (mrdV S)))) (mrdS S) := by
  refine MetS.of (lv0 := [some (.inr (8, 0)), none, none]) pn_M rfl (Nat.le_of_ble_eq_true rfl) (fun p0 l0 e0 s0 m0 args below meth c0 G X => ?_)
  refine ws_aload_n (i := 0) X d_M_read_0 rfl rfl ?_
  refine ws_iconst (v := 0) X d_M_read_1 rfl ?_
  refine ws_putI X fl_M_118 ob8 d_M_read_2 ?_
  refine ws_aload_n (i := 0) X d_M_read_5 rfl rfl ?_
  refine ws_iconst (v := 0) X d_M_read_6 rfl ?_
  refine ws_putI X fl_M_121 ob8 d_M_read_7 ?_
  refine ws_aload_n (i := 0) X d_M_read_10 rfl rfl ?_
  refine ws_iconst (v := 0) X d_M_read_11 rfl ?_
  refine ws_putI X fl_M_168 ob8 d_M_read_12 ?_
  refine ws_iconst (v := 0) X d_M_read_15 rfl ?_
  refine ws_istn_1 X rfl d_M_read_16 (by decide) ?_
  refine l_fl X 5 0 _ (by omega) (fun j => ?_)
  refine WS_is (mrd0 S) rfl ?_
  refine ws_aload_n (i := 0) X d_M_read_35 rfl rfl ?_
  refine ws_callV0 X (m_M_readFile _ hT hW) cv_M_readFile ml_M_171 ob8 rfl rfl (Nat.le_of_ble_eq_true rfl) ⟨Nat.le_of_ble_eq_true rfl, Nat.le_of_ble_eq_true rfl⟩ ⟨Nat.zero_le _, Nat.zero_le _⟩ d_M_read_36 ?_
  refine WS_is (mrd1 S) rfl ?_
  refine ws_sipush (v := (-200)) X d_M_read_39 rfl ?_
  refine ws_aload_n (i := 0) X d_M_read_42 rfl rfl ?_
  refine ws_getI X fl_M_121 ob8 d_M_read_43 ?_
  refine ws_isub X d_M_read_46 ?_
  refine ws_istn_1 X rfl d_M_read_47 (by decide) ?_
  refine ws_iconst (v := 0) X d_M_read_48 rfl ?_
  refine ws_istn_2 X rfl d_M_read_49 (by decide) ?_
  refine l_mr X 6 0 _ (mrd1 S) hB (by omega) (fun j => ?_)
  refine WS_is (mrdR S).2 rfl ?_
  refine ws_aload_n (i := 0) X d_M_read_90 rfl rfl ?_
  refine ws_getI X fl_M_118 ob8 d_M_read_91 ?_
  refine ws_if_ne X d_M_read_94 (fun h94 => ?_) (fun h94 => ?_)
  · refine ws_aload_n (i := 0) X d_M_read_102 rfl rfl ?_
    refine ws_iconst (v := 0) X d_M_read_103 rfl ?_
    refine ws_putI X fl_M_156 ob8 d_M_read_104 ?_
    refine ws_aload_n (i := 0) X d_M_read_107 rfl rfl ?_
    refine ws_iconst (v := 0) X d_M_read_108 rfl ?_
    refine ws_putI X fl_M_138 ob8 d_M_read_109 ?_
    refine ws_aload_n (i := 0) X d_M_read_112 rfl rfl ?_
    refine ws_iconst (v := 0) X d_M_read_113 rfl ?_
    refine ws_putI X fl_M_162 ob8 d_M_read_114 ?_
    refine ws_iload_n (i := 1) X d_M_read_117 rfl rfl ?_
    refine ws_iret X d_M_read_118 ?_
    first | exact ⟨by rw [mrdV, if_pos h94], by rw [mrdS, if_pos h94]⟩ | exact ⟨by rw [mrdV, if_neg h94]; rfl, by rw [mrdS, if_neg h94]⟩
  · refine ws_aload_n (i := 0) X d_M_read_97 rfl rfl ?_
    refine ws_getI X fl_M_162 ob8 d_M_read_98 ?_
    refine ws_iret X d_M_read_101 ?_
    first | exact ⟨by rw [mrdV, if_pos h94], by rw [mrdS, if_pos h94]⟩ | exact ⟨by rw [mrdV, if_neg h94]; rfl, by rw [mrdS, if_neg h94]⟩


