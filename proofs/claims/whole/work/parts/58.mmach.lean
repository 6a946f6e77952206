/-! the model's machine: what is listed; push, pop, enter, fails, give -/
def mAbsV (x : UInt64) : UInt64 := if 0 < Op.cmpValue (FP.dcmp x FP.dconst0) .g then x else FP.dsub FP.dconst0 x
def mSgnV (x : UInt64) : UInt64 := if Op.cmpValue (FP.dcmp x FP.dconst0) .l ≤ 0 then (if 0 ≤ Op.cmpValue (FP.dcmp x FP.dconst0) .g then x else 13830554455654793216) else FP.dconst1
def mLstV (c : Int32) (x : UInt64) : UInt64 := if c = 97 then mAbsV x else if c = 102 then mFlr x else if c = 114 then mRoot x else mSgnV x
theorem abs_ok {x : UInt64} (h : ¬ 0 < Op.cmpValue (FP.dcmp x FP.dconst0) .g) : FP.dIsNaN (FP.dsub FP.dconst0 x) = false := by
  refine FP.Core.dsub_out' (fin_lit (by decide)) ?_
  cases hc : FP.Core.dcmp x 0 with
  | none => rw [show FP.dcmp x FP.dconst0 = none from hc] at h; exact absurd (by decide) h
  | some o => exact (FP.Core.dcmp_notNaN hc).1
theorem m_M_listed (S : MS) (e : Nat) (x : UInt64) (he : e < 16) : MetE y_M_listed c_M_listed 4 ((some .double)) 3 79 [.inr (8, 0), .inl (.int (nI e)), .inl (.double x)] S (some (.inl (.double (mLstV (S.1 29 0 (8 * e)) x)))) (S) := by
  refine MetS.of (lv0 := [some (.inr (8, 0)), some (.inl (.int (nI e))), some (.inl (.double x)), none]) pn_M rfl (Nat.le_of_ble_eq_true rfl) (fun p0 l0 e0 s0 m0 args below meth c0 G X => ?_)
  have hx : (8 : Int32) * nI e = nI (8 * e) := by rw [show (8 : Int32) = nI 8 from rfl, pk_mul]
  have hin : vp_in (nI (8 * e)) 128 := vp_in_nI (by omega) (by omega)
  have hc := nI_c (i := 8 * e) (by omega)
  refine ws_aload_n (i := 0) X d_M_listed_0 rfl rfl ?_
  refine ws_getR X fl_M_27 ob8 d_M_listed_1 ?_
  refine ws_bipush (v := 8) X d_M_listed_4 rfl ?_
  refine ws_iload_n (i := 1) X d_M_listed_6 rfl rfl ?_
  refine ws_imul X d_M_listed_7 ?_
  rw [hx]
  refine ws_iald X ak29 ob29 (hin) d_M_listed_8 ?_
  rw [hc]
  generalize S.1 29 0 (8 * e) = c
  refine ws_lsw X [(97, 44), (102, 63), (114, 58)] d_M_listed_9 (by decide) (fun v off hm => by
      have hm : (v, off) ∈ [((97 : Int), (35 : Int)), ((102 : Int), (54 : Int)), ((114 : Int), (49 : Int))] := hm
      simp only [List.mem_cons, Prod.mk.injEq, List.not_mem_nil, or_false] at hm
      rcases hm with ⟨rfl, rfl⟩ | ⟨rfl, rfl⟩ | ⟨rfl, rfl⟩
      · exact ⟨44, by decide, by decide⟩
      · exact ⟨63, by decide, by decide⟩
      · exact ⟨58, by decide, by decide⟩) (tgt := 68) rfl (And.intro (fun h9 => ?_) (And.intro (fun h9 => ?_) (And.intro (fun h9 => ?_) (trivial)))) (fun h9 => ?_)
  · have h9 : c = 97 := h9
    subst h9
    refine ws_dload_n (i := 2) X d_M_listed_44 rfl rfl ?_
    refine ws_dconst0 X d_M_listed_45 ?_
    refine ws_dcmp X d_M_listed_46 ?_
    refine ws_if_gt X d_M_listed_47 (fun h47 => ?_) (fun h47 => ?_)
    · refine ws_dload_n (i := 2) X d_M_listed_56 rfl rfl ?_
      refine ws_dret X d_M_listed_57 ?_
      exact ⟨by simp [mLstV, mAbsV, mSgnV, eq_true h47], rfl⟩
    · refine ws_dconst0 X d_M_listed_50 ?_
      refine ws_dload_n (i := 2) X d_M_listed_51 rfl rfl ?_
      refine ws_dsub X d_M_listed_52 (n64_of (abs_ok h47)) ?_
      refine ws_goto X d_M_listed_53 ?_
      refine ws_dret X d_M_listed_57 ?_
      exact ⟨by simp [mLstV, mAbsV, mSgnV, eq_false h47], rfl⟩
  · have h9 : c = 102 := h9
    subst h9
    refine ws_dload_n (i := 2) X d_M_listed_63 rfl rfl ?_
    refine ws_callS1 X (m_M_floor _ _) cs_M_floor ml_M_342 rfl rfl (Nat.le_of_ble_eq_true rfl) ⟨Nat.le_of_ble_eq_true rfl, Nat.le_of_ble_eq_true rfl⟩ ⟨Nat.zero_le _, Nat.zero_le _⟩ d_M_listed_64 ?_
    refine ws_dret X d_M_listed_67 ?_
    exact ⟨by simp [mLstV, mAbsV, mSgnV, if_true], rfl⟩
  · have h9 : c = 114 := h9
    subst h9
    refine ws_dload_n (i := 2) X d_M_listed_58 rfl rfl ?_
    refine ws_callS1 X (m_M_root _ _) cs_M_root ml_M_338 rfl rfl (Nat.le_of_ble_eq_true rfl) ⟨Nat.le_of_ble_eq_true rfl, Nat.le_of_ble_eq_true rfl⟩ ⟨Nat.zero_le _, Nat.zero_le _⟩ d_M_listed_59 ?_
    refine ws_dret X d_M_listed_62 ?_
    exact ⟨by simp [mLstV, mAbsV, mSgnV, if_true], rfl⟩
  · have g9_0 : ¬ c = 97 := fun z => h9 97 35 (by decide) (by rw [z]; rfl)
    have g9_1 : ¬ c = 102 := fun z => h9 102 54 (by decide) (by rw [z]; rfl)
    have g9_2 : ¬ c = 114 := fun z => h9 114 49 (by decide) (by rw [z]; rfl)
    refine ws_dload_n (i := 2) X d_M_listed_68 rfl rfl ?_
    refine ws_dconst0 X d_M_listed_69 ?_
    refine ws_dcmp X d_M_listed_70 ?_
    refine ws_if_le X d_M_listed_71 (fun h71 => ?_) (fun h71 => ?_)
    · refine ws_dload_n (i := 2) X d_M_listed_78 rfl rfl ?_
      refine ws_dconst0 X d_M_listed_79 ?_
      refine ws_dcmp X d_M_listed_80 ?_
      refine ws_if_ge X d_M_listed_81 (fun h81 => ?_) (fun h81 => ?_)
      · refine ws_dload_n (i := 2) X d_M_listed_90 rfl rfl ?_
        refine ws_dret X d_M_listed_91 ?_
        exact ⟨by simp [mLstV, mAbsV, mSgnV, eq_false g9_0, eq_false g9_1, eq_false g9_2, eq_true h71, eq_true h81], rfl⟩
      · refine ws_ldc2d X d_M_listed_84 ct_M_345 ?_
        refine ws_goto X d_M_listed_87 ?_
        refine ws_dret X d_M_listed_91 ?_
        exact ⟨by simp [mLstV, mAbsV, mSgnV, eq_false g9_0, eq_false g9_1, eq_false g9_2, eq_true h71, eq_false h81], rfl⟩
    · refine ws_dconst1 X d_M_listed_74 ?_
      refine ws_goto X d_M_listed_75 ?_
      refine ws_dret X d_M_listed_91 ?_
      exact ⟨by simp [mLstV, mAbsV, mSgnV, eq_false g9_0, eq_false g9_1, eq_false g9_2, eq_false h71], rfl⟩

/-- frame F, dd deep -/
def mPushS (S : MS) (i : Int32) (v : UInt64) (F dd : Nat) : MS := wI (wD (wI S 53 0 (12 * F + 6 + dd) i) 54 0 (12 * F + 6 + dd) v) 52 0 F (nI (dd + 1))
theorem m_M_push (S : MS) (i : Int32) (v : UInt64) (F dd : Nat) (hF : S.1 8 0 36 = nI (F + 1)) (hF8 : F < 8) (hD : S.1 52 0 F = nI dd) (hd : dd < 6) : MetE y_M_push c_M_push 6 (none) 0 0 [.inr (8, 0), .inl (.int i), .inl (.double v)] S (none) (mPushS S i v F dd) := by
  refine MetS.of (lv0 := [some (.inr (8, 0)), some (.inl (.int i)), some (.inl (.double v)), none, none, none]) pn_M rfl (Nat.le_of_ble_eq_true rfl) (fun p0 l0 e0 s0 m0 args below meth c0 G X => ?_)
  have hcF := nI_c (i := F) (by omega)
  have hinF : vp_in (nI F) 8 := vp_in_nI hF8 (by omega)
  have hx : (12 : Int32) * nI F + 6 + nI dd = nI (12 * F + 6 + dd) := by rw [show (12 : Int32) = nI 12 from rfl, show (6 : Int32) = nI 6 from rfl, ixN, nI_add]
  have hin : vp_in (nI (12 * F + 6 + dd)) 96 := vp_in_nI (by omega) (by omega)
  have hc := nI_c (i := 12 * F + 6 + dd) (by omega)
  refine ws_aload_n (i := 0) X d_M_push_0 rfl rfl ?_
  refine ws_getI X fl_M_243 ob8 d_M_push_1 ?_
  refine ws_iconst (v := 1) X d_M_push_4 rfl ?_
  refine ws_isub X d_M_push_5 ?_
  rw [hF, nI_m1]
  refine ws_ist_4 X rfl d_M_push_6 (by decide) ?_
  refine ws_bipush (v := 12) X d_M_push_8 rfl ?_
  refine ws_iload (i := 4) X d_M_push_10 rfl ?_
  refine ws_imul X d_M_push_12 ?_
  refine ws_bipush (v := 6) X d_M_push_13 rfl ?_
  refine ws_iadd X d_M_push_15 ?_
  refine ws_aload_n (i := 0) X d_M_push_16 rfl rfl ?_
  refine ws_getR X fl_M_97 ob8 d_M_push_17 ?_
  refine ws_iload (i := 4) X d_M_push_20 rfl ?_
  refine ws_iald X ak52 ob52 (hinF) d_M_push_22 ?_
  rw [hcF, hD]
  refine ws_iadd X d_M_push_23 ?_
  rw [hx]
  refine ws_ist_5 X rfl d_M_push_24 (by decide) ?_
  refine ws_aload_n (i := 0) X d_M_push_26 rfl rfl ?_
  refine ws_getR X fl_M_100 ob8 d_M_push_27 ?_
  refine ws_iload (i := 5) X d_M_push_30 rfl ?_
  refine ws_iload_n (i := 1) X d_M_push_32 rfl rfl ?_
  refine ws_iast X ak53 ob53 (hin) d_M_push_33 ?_
  rw [hc]
  refine ws_aload_n (i := 0) X d_M_push_34 rfl rfl ?_
  refine ws_getR X fl_M_103 ob8 d_M_push_35 ?_
  refine ws_iload (i := 5) X d_M_push_38 rfl ?_
  refine ws_dload_n (i := 2) X d_M_push_40 rfl rfl ?_
  refine ws_dast X ak54 ob54 (hin) d_M_push_41 ?_
  rw [hc]
  refine ws_aload_n (i := 0) X d_M_push_42 rfl rfl ?_
  refine ws_getR X fl_M_97 ob8 d_M_push_43 ?_
  refine ws_iload (i := 4) X d_M_push_46 rfl ?_
  refine ws_dup2_11 X d_M_push_48 rfl rfl ?_
  refine ws_iald X ak52 ob52 (hinF) d_M_push_49 ?_
  rw [hcF, show (wD (wI S 53 0 (12 * F + 6 + dd) i) 54 0 (12 * F + 6 + dd) v).1 52 0 F = nI dd from (wI_o S 53 0 (12 * F + 6 + dd) 52 0 F i (fun z => absurd z.1 (by decide))).trans hD]
  refine ws_iconst (v := 1) X d_M_push_50 rfl ?_
  refine ws_iadd X d_M_push_51 ?_
  refine ws_iast X ak52 ob52 (hinF) d_M_push_52 ?_
  rw [hcF, nI_1]
  refine ws_vret X d_M_push_53 ?_
  exact ⟨rfl, rfl⟩

def mPopS (S : MS) (F dd : Nat) : MS := wI S 52 0 F (nI dd)
theorem m_M_pop (S : MS) (F dd : Nat) (hF : S.1 8 0 36 = nI (F + 1)) (hF8 : F < 8) (hD : S.1 52 0 F = nI (dd + 1)) (hd : dd < 6) : MetE y_M_pop c_M_pop 2 ((some .int)) 0 0 [.inr (8, 0)] S (some (.inl (.int (nI (12 * F + 6 + dd))))) (mPopS S F dd) := by
  refine MetS.of (lv0 := [some (.inr (8, 0)), none]) pn_M rfl (Nat.le_of_ble_eq_true rfl) (fun p0 l0 e0 s0 m0 args below meth c0 G X => ?_)
  have hcF := nI_c (i := F) (by omega)
  have hinF : vp_in (nI F) 8 := vp_in_nI hF8 (by omega)
  have hx : (12 : Int32) * nI F + 6 + nI dd = nI (12 * F + 6 + dd) := by rw [show (12 : Int32) = nI 12 from rfl, show (6 : Int32) = nI 6 from rfl, ixN, nI_add]
  refine ws_aload_n (i := 0) X d_M_pop_0 rfl rfl ?_
  refine ws_getI X fl_M_243 ob8 d_M_pop_1 ?_
  refine ws_iconst (v := 1) X d_M_pop_4 rfl ?_
  refine ws_isub X d_M_pop_5 ?_
  rw [hF, nI_m1]
  refine ws_istn_1 X rfl d_M_pop_6 (by decide) ?_
  refine ws_aload_n (i := 0) X d_M_pop_7 rfl rfl ?_
  refine ws_getR X fl_M_97 ob8 d_M_pop_8 ?_
  refine ws_iload_n (i := 1) X d_M_pop_11 rfl rfl ?_
  refine ws_dup2_11 X d_M_pop_12 rfl rfl ?_
  refine ws_iald X ak52 ob52 (hinF) d_M_pop_13 ?_
  rw [hcF, hD]
  refine ws_iconst (v := 1) X d_M_pop_14 rfl ?_
  refine ws_isub X d_M_pop_15 ?_
  rw [nI_m1]
  refine ws_iast X ak52 ob52 (hinF) d_M_pop_16 ?_
  rw [hcF]
  refine ws_bipush (v := 12) X d_M_pop_17 rfl ?_
  refine ws_iload_n (i := 1) X d_M_pop_19 rfl rfl ?_
  refine ws_imul X d_M_pop_20 ?_
  refine ws_bipush (v := 6) X d_M_pop_21 rfl ?_
  refine ws_iadd X d_M_pop_23 ?_
  refine ws_aload_n (i := 0) X d_M_pop_24 rfl rfl ?_
  refine ws_getR X fl_M_97 ob8 d_M_pop_25 ?_
  refine ws_iload_n (i := 1) X d_M_pop_28 rfl rfl ?_
  refine ws_iald X ak52 ob52 (hinF) d_M_pop_29 ?_
  rw [hcF, wI_rd]
  refine ws_iadd X d_M_pop_30 ?_
  rw [hx]
  refine ws_iret X d_M_pop_31 ?_
  exact ⟨rfl, rfl⟩

def enGo (F : Nat) : Nat → Nat → MS → MS
  | 0, _, S => S
  | n + 1, i, S => enGo F n (i + 1) (wD (wI S 53 0 (12 * F + i) 0) 54 0 (12 * F + i) FP.dconst0)
theorem wD_1 (S : MS) (k i j : Nat) (v : UInt64) : (wD S k i j v).1 = S.1 := rfl
theorem enGo_o (F b c d : Nat) (h : b ≠ 53) : ∀ (n i : Nat) (S : MS), (enGo F n i S).1 b c d = S.1 b c d
  | 0, _, _ => rfl
  | n + 1, i, S => by rw [enGo, enGo_o F b c d h n, wD_1, wI_o _ _ _ _ _ _ _ _ (fun z => h z.1)]
section L50
variable {p : Program} {l : Launch} {e0 : Env} {s : State} {m0 : MethodId} {args : Array Value} {below : List Frame} {meth : Method} {c0 : Code} {G : GG} {A : Nat → Prop} {Q : State → Prop}
theorem l_en (X : CX p s m0 args meth c0 G A c_M_enter y_M_enter.cls 3 (none)) {F : Nat} {x1 : Int32} (hF8 : F < 8) : ∀ (n i : Nat) (S : MS), S.1 8 0 36 = nI F → i + n = 6 → (∀ j : Int32, WS p l e0 (rmS 0 0) s m0 args below meth c0 G A 3 0 0 Q 74 [some (.inr (8, 0)), some (.inl (.int x1)), some (.inl (.int j))] [] (enGo F n i S)) → WS p l e0 (rmS 0 0) s m0 args below meth c0 G A 3 0 0 Q 32 [some (.inr (8, 0)), some (.inl (.int x1)), some (.inl (.int (nI i)))] [] (S) := by
  intro n
  induction n with
  | zero =>
    intro i S hF hi' K
    have hh : (6 : Int32) ≤ nI i := by rw [show (6 : Int32) = nI 6 from rfl, nI_leI (by omega) (by omega)]; omega
    refine ws_iload_n (i := 2) X d_M_enter_32 rfl rfl ?_
    refine ws_bipush (v := 6) X d_M_enter_33 rfl ?_
    refine ws_icmp_ge X d_M_enter_35 (fun h35 => ?_) (fun h35 => ?_)
    · exact K _
    · exact absurd hh h35
  | succ n ih =>
    intro i S hF hi' K
    have hh : ¬ (6 : Int32) ≤ nI i := by rw [show (6 : Int32) = nI 6 from rfl, nI_leI (by omega) (by omega)]; omega
    have hx : (12 : Int32) * nI F + nI i = nI (12 * F + i) := by rw [show (12 : Int32) = nI 12 from rfl, ixN]
    have hin : vp_in (nI (12 * F + i)) 96 := vp_in_nI (by omega) (by omega)
    have hc := nI_c (i := 12 * F + i) (by omega)
    have hF2 : (wI S 53 0 (12 * F + i) 0).1 8 0 36 = nI F := (wI_o _ _ _ _ _ _ _ _ (fun z => absurd z.1 (by decide))).trans hF
    rw [enGo] at K
    refine ws_iload_n (i := 2) X d_M_enter_32 rfl rfl ?_
    refine ws_bipush (v := 6) X d_M_enter_33 rfl ?_
    refine ws_icmp_ge X d_M_enter_35 (fun h35 => ?_) (fun h35 => ?_)
    · exact absurd h35 hh
    · refine ws_aload_n (i := 0) X d_M_enter_38 rfl rfl ?_
      refine ws_getR X fl_M_100 ob8 d_M_enter_39 ?_
      refine ws_bipush (v := 12) X d_M_enter_42 rfl ?_
      refine ws_aload_n (i := 0) X d_M_enter_44 rfl rfl ?_
      refine ws_getI X fl_M_243 ob8 d_M_enter_45 ?_
      rw [hF]
      refine ws_imul X d_M_enter_48 ?_
      refine ws_iload_n (i := 2) X d_M_enter_49 rfl rfl ?_
      refine ws_iadd X d_M_enter_50 ?_
      rw [hx]
      refine ws_iconst (v := 0) X d_M_enter_51 rfl ?_
      refine ws_iast X ak53 ob53 (hin) d_M_enter_52 ?_
      rw [hc]
      refine ws_aload_n (i := 0) X d_M_enter_53 rfl rfl ?_
      refine ws_getR X fl_M_103 ob8 d_M_enter_54 ?_
      refine ws_bipush (v := 12) X d_M_enter_57 rfl ?_
      refine ws_aload_n (i := 0) X d_M_enter_59 rfl rfl ?_
      refine ws_getI X fl_M_243 ob8 d_M_enter_60 ?_
      rw [hF2]
      refine ws_imul X d_M_enter_63 ?_
      refine ws_iload_n (i := 2) X d_M_enter_64 rfl rfl ?_
      refine ws_iadd X d_M_enter_65 ?_
      rw [hx]
      refine ws_dconst0 X d_M_enter_66 ?_
      refine ws_dast X ak54 ob54 (hin) d_M_enter_67 ?_
      rw [hc]
      refine ws_iinc_2 X rfl d_M_enter_68 rfl (by decide) ?_
      refine ws_goto X d_M_enter_71 ?_
      rw [nI_inc]; exact ih (i + 1) _ hF2 (by omega) K
end L50
def mEn0 (S : MS) (q : Int32) (F : Nat) : MS := wI (wI (wI S 50 0 F q) 51 0 F 0) 52 0 F 0
def mEn1 (S : MS) (q : Int32) (F : Nat) : MS := wI (enGo F 6 0 (mEn0 S q F)) 8 0 36 (nI (F + 1))
def mEnS (S : MS) (q : Int32) (F : Nat) : MS := wI (mEn1 S q F) 8 0 48 (if nI (F + 1) ≤ (mEn1 S q F).1 8 0 48 then (mEn1 S q F).1 8 0 48 else nI (F + 1))
theorem m_M_enter (S : MS) (q : Int32) (F : Nat) (hF : S.1 8 0 36 = nI F) (hF8 : F < 8) : MetE y_M_enter c_M_enter 3 (none) 0 0 [.inr (8, 0), .inl (.int q)] S (none) (mEnS S q F) := by
  refine MetS.of (lv0 := [some (.inr (8, 0)), some (.inl (.int q)), none]) pn_M rfl (Nat.le_of_ble_eq_true rfl) (fun p0 l0 e0 s0 m0 args below meth c0 G X => ?_)
  have hcF := nI_c (i := F) (by omega)
  have hinF : vp_in (nI F) 8 := vp_in_nI hF8 (by omega)
  have e1 : (wI S 50 0 F q).1 8 0 36 = nI F := (wI_o _ _ _ _ _ _ _ _ (fun z => absurd z.1 (by decide))).trans hF
  have e2 : (wI (wI S 50 0 F q) 51 0 F 0).1 8 0 36 = nI F := (wI_o _ _ _ _ _ _ _ _ (fun z => absurd z.1 (by decide))).trans e1
  have e3 : (mEn0 S q F).1 8 0 36 = nI F := (wI_o _ _ _ _ _ _ _ _ (fun z => absurd z.1 (by decide))).trans e2
  have e4 : (enGo F 6 0 (mEn0 S q F)).1 8 0 36 = nI F := (enGo_o _ _ _ _ (by decide) _ _ _).trans e3
  have e5 : (mEn1 S q F).1 8 0 36 = nI (F + 1) := wI_rd ..
  refine ws_aload_n (i := 0) X d_M_enter_0 rfl rfl ?_
  refine ws_getR X fl_M_91 ob8 d_M_enter_1 ?_
  refine ws_aload_n (i := 0) X d_M_enter_4 rfl rfl ?_
  refine ws_getI X fl_M_243 ob8 d_M_enter_5 ?_
  rw [hF]
  refine ws_iload_n (i := 1) X d_M_enter_8 rfl rfl ?_
  refine ws_iast X ak50 ob50 (hinF) d_M_enter_9 ?_
  rw [hcF]
  refine ws_aload_n (i := 0) X d_M_enter_10 rfl rfl ?_
  refine ws_getR X fl_M_94 ob8 d_M_enter_11 ?_
  refine ws_aload_n (i := 0) X d_M_enter_14 rfl rfl ?_
  refine ws_getI X fl_M_243 ob8 d_M_enter_15 ?_
  rw [e1]
  refine ws_iconst (v := 0) X d_M_enter_18 rfl ?_
  refine ws_iast X ak51 ob51 (hinF) d_M_enter_19 ?_
  rw [hcF]
  refine ws_aload_n (i := 0) X d_M_enter_20 rfl rfl ?_
  refine ws_getR X fl_M_97 ob8 d_M_enter_21 ?_
  refine ws_aload_n (i := 0) X d_M_enter_24 rfl rfl ?_
  refine ws_getI X fl_M_243 ob8 d_M_enter_25 ?_
  rw [e2]
  refine ws_iconst (v := 0) X d_M_enter_28 rfl ?_
  refine ws_iast X ak52 ob52 (hinF) d_M_enter_29 ?_
  rw [hcF]
  refine ws_iconst (v := 0) X d_M_enter_30 rfl ?_
  refine ws_istn_2 X rfl d_M_enter_31 (by decide) ?_
  refine l_en X hF8 6 0 (mEn0 S q F) e3 (by omega) (fun j => ?_)
  refine ws_aload_n (i := 0) X d_M_enter_74 rfl rfl ?_
  refine ws_dup X d_M_enter_75 rfl ?_
  refine ws_getI X fl_M_243 ob8 d_M_enter_76 ?_
  refine ws_iconst (v := 1) X d_M_enter_79 rfl ?_
  refine ws_iadd X d_M_enter_80 ?_
  rw [e4, nI_1]
  refine ws_putI X fl_M_243 ob8 d_M_enter_81 ?_
  refine WS_is (mEn1 S q F) rfl ?_
  refine ws_aload_n (i := 0) X d_M_enter_84 rfl rfl ?_
  refine ws_aload_n (i := 0) X d_M_enter_85 rfl rfl ?_
  refine ws_getI X fl_M_243 ob8 d_M_enter_86 ?_
  refine ws_aload_n (i := 0) X d_M_enter_89 rfl rfl ?_
  refine ws_getI X fl_M_246 ob8 d_M_enter_90 ?_
  rw [e5]
  refine ws_icmp_le X d_M_enter_93 (fun h93 => ?_) (fun h93 => ?_)
  · refine ws_aload_n (i := 0) X d_M_enter_103 rfl rfl ?_
    refine ws_getI X fl_M_246 ob8 d_M_enter_104 ?_
    first | rw [e5] | skip
    refine ws_putI X fl_M_246 ob8 d_M_enter_107 ?_
    refine ws_vret X d_M_enter_110 ?_
    exact ⟨rfl, by simp [mEnS, eq_true h93]⟩
  · refine ws_aload_n (i := 0) X d_M_enter_96 rfl rfl ?_
    refine ws_getI X fl_M_243 ob8 d_M_enter_97 ?_
    refine ws_goto X d_M_enter_100 ?_
    first | rw [e5] | skip
    refine ws_putI X fl_M_246 ob8 d_M_enter_107 ?_
    refine ws_vret X d_M_enter_110 ?_
    exact ⟨rfl, by simp [mEnS, eq_false h93]⟩

def mFailS (S : MS) (w : Int32) (F : Nat) : MS := wI (wI S 8 0 44 w) 8 0 47 (S.1 51 0 F)
theorem m_M_fails (S : MS) (w : Int32) (F : Nat) (hF : S.1 8 0 36 = nI (F + 1)) (hF8 : F < 8) : MetE y_M_fails c_M_fails 2 (none) 0 0 [.inr (8, 0), .inl (.int w)] S (none) (mFailS S w F) := by
  refine MetS.of (lv0 := [some (.inr (8, 0)), some (.inl (.int w))]) pn_M rfl (Nat.le_of_ble_eq_true rfl) (fun p0 l0 e0 s0 m0 args below meth c0 G X => ?_)
  have hcF := nI_c (i := F) (by omega)
  have hinF : vp_in (nI F) 8 := vp_in_nI hF8 (by omega)
  have e1 : (wI S 8 0 44 w).1 8 0 36 = nI (F + 1) := (wI_o _ _ _ _ _ _ _ _ (by decide)).trans hF
  refine ws_aload_n (i := 0) X d_M_fails_0 rfl rfl ?_
  refine ws_iload_n (i := 1) X d_M_fails_1 rfl rfl ?_
  refine ws_putI X fl_M_249 ob8 d_M_fails_2 ?_
  refine ws_aload_n (i := 0) X d_M_fails_5 rfl rfl ?_
  refine ws_aload_n (i := 0) X d_M_fails_6 rfl rfl ?_
  refine ws_getR X fl_M_94 ob8 d_M_fails_7 ?_
  refine ws_aload_n (i := 0) X d_M_fails_10 rfl rfl ?_
  refine ws_getI X fl_M_243 ob8 d_M_fails_11 ?_
  rw [e1]
  refine ws_iconst (v := 1) X d_M_fails_14 rfl ?_
  refine ws_isub X d_M_fails_15 ?_
  rw [nI_m1]
  refine ws_iald X ak51 ob51 (hinF) d_M_fails_16 ?_
  rw [hcF, wI_o _ _ _ _ _ _ _ _ (fun z => absurd z.1 (by decide))]
  refine ws_putI X fl_M_252 ob8 d_M_fails_17 ?_
  refine ws_vret X d_M_fails_20 ?_
  exact ⟨rfl, rfl⟩

def mGiveS (S : MS) (l : Nat) (kd : Int32) (b : Int64) : MS := if kd = 1 then wI S 53 0 l b.toInt32 else wD S 54 0 l (mDo b)
theorem m_M_give (S : MS) (l : Nat) (kd : Int32) (b : Int64) (hl : l < 96) : MetE y_M_give c_M_give 5 (none) 2 45 [.inr (8, 0), .inl (.int (nI l)), .inl (.int kd), .inl (.long b)] S (none) (mGiveS S l kd b) := by
  refine MetS.of (lv0 := [some (.inr (8, 0)), some (.inl (.int (nI l))), some (.inl (.int kd)), some (.inl (.long b)), none]) pn_M rfl (Nat.le_of_ble_eq_true rfl) (fun p0 l0 e0 s0 m0 args below meth c0 G X => ?_)
  refine ws_iload_n (i := 2) X d_M_give_0 rfl rfl ?_
  refine ws_iconst (v := 1) X d_M_give_1 rfl ?_
  refine ws_icmp_ne X d_M_give_2 (fun h2 => ?_) (fun h2 => ?_)
  · refine ws_aload_n (i := 0) X d_M_give_16 rfl rfl ?_
    refine ws_getR X fl_M_103 ob8 d_M_give_17 ?_
    refine ws_iload_n (i := 1) X d_M_give_20 rfl rfl ?_
    refine ws_lload_n (i := 3) X d_M_give_21 rfl rfl ?_
    refine ws_callS1 X (m_M_doubleOf _ _) cs_M_doubleOf ml_M_226 rfl rfl (Nat.le_of_ble_eq_true rfl) ⟨Nat.le_of_ble_eq_true rfl, Nat.le_of_ble_eq_true rfl⟩ ⟨Nat.zero_le _, Nat.zero_le _⟩ d_M_give_22 ?_
    refine ws_dast X ak54 ob54 (vp_in_nI hl (by omega)) d_M_give_25 ?_
    refine ws_vret X d_M_give_26 ?_
    exact ⟨rfl, by simp [mGiveS, nI_c (show l < 2 ^ 31 by omega), eq_false h2]⟩
  · refine ws_aload_n (i := 0) X d_M_give_5 rfl rfl ?_
    refine ws_getR X fl_M_100 ob8 d_M_give_6 ?_
    refine ws_iload_n (i := 1) X d_M_give_9 rfl rfl ?_
    refine ws_lload_n (i := 3) X d_M_give_10 rfl rfl ?_
    refine ws_l2i X d_M_give_11 ?_
    refine ws_iast X ak53 ob53 (vp_in_nI hl (by omega)) d_M_give_12 ?_
    refine ws_goto X d_M_give_13 ?_
    refine ws_vret X d_M_give_26 ?_
    exact ⟨rfl, by simp [mGiveS, nI_c (show l < 2 ^ 31 by omega), eq_true h2]⟩


