/-! Machine: calls inside, an OP, a run -/
theorem xmSetLoc_1 (S : MS) (i : Int32) (v : Int64) : (xmSetLoc S i v).1 = S.1 := by
  unfold xmSetLoc
  by_cases h1 : xmAt S i < 0
  · rw [if_pos h1]
  · rw [if_neg h1]
    by_cases h2 : 48 ≤ xmAt S i
    · rw [if_pos h2]
    · rw [if_neg h2]; rfl
/-- what is handed to place i of a METHOD that is called inside -/
def xmItem (S : MS) (i : Nat) : Int64 := if S.1 7 0 7 + nI i < 0 then 0 else if 48 ≤ S.1 7 0 7 + nI i then 0 else S.2.1 19 0 (S.1 7 0 7 + nI i).toNatClampNeg
def ciGo : Nat → Nat → MS → MS
  | 0, _, S => S
  | n + 1, i, S => ciGo n (i + 1) (xmSetLoc S (nI i) (xmItem S i))
section L8
variable {p : Program} {l : Launch} {e0 : Env} {s : State} {m0 : MethodId} {args : Array Value} {below : List Frame} {meth : Method} {c0 : Code} {G : GG} {A : Nat → Prop} {Q : State → Prop}
theorem l_ci (X : CX p s m0 args meth c0 G A c_Mach_callInside y_Mach_callInside.cls 5 (none)) {q t : Nat} (hq : q < 5) {m : Int32} : ∀ (n i : Nat) (S : MS) (a4 : Option MV), i + n = t → t ≤ 3 → S.1 4 q 1 = nI t → (∀ (j : Int32) (a4 : Option MV), WS p l e0 (rmS 2 42) s m0 args below meth c0 G A 5 0 0 Q 94 [some (.inr (7, 0)), some (.inr (4, q)), some (.inl (.int m)), some (.inl (.int j)), a4] [] (ciGo n i S)) → WS p l e0 (rmS 2 42) s m0 args below meth c0 G A 5 0 0 Q 41 [some (.inr (7, 0)), some (.inr (4, q)), some (.inl (.int m)), some (.inl (.int (nI i))), a4] [] (S) := by
  intro n
  induction n with
  | zero =>
    intro i S a4 hi ht hT K
    have hh : S.1 4 q 1 ≤ nI i := by rw [hT, nI_leI (by omega) (by omega)]; omega
    refine ws_iload_n (i := 3) X d_Mach_callInside_41 rfl rfl ?_
    refine ws_aload_n (i := 1) X d_Mach_callInside_42 rfl rfl ?_
    refine ws_getI X fl_Mach_61 (ob4 (by assumption)) d_Mach_callInside_43 ?_
    refine ws_icmp_ge X d_Mach_callInside_46 (fun h46 => ?_) (fun h46 => ?_)
    · exact K _ _
    · exact absurd hh h46
  | succ n ih =>
    intro i S a4 hi ht hT K
    have hh : ¬ S.1 4 q 1 ≤ nI i := by rw [hT, nI_leI (by omega) (by omega)]; omega
    have hT2 : ∀ v, (xmSetLoc S (nI i) v).1 4 q 1 = nI t := fun v => by rw [xmSetLoc_1]; exact hT
    rw [ciGo] at K
    refine ws_iload_n (i := 3) X d_Mach_callInside_41 rfl rfl ?_
    refine ws_aload_n (i := 1) X d_Mach_callInside_42 rfl rfl ?_
    refine ws_getI X fl_Mach_61 (ob4 (by assumption)) d_Mach_callInside_43 ?_
    refine ws_icmp_ge X d_Mach_callInside_46 (fun h46 => ?_) (fun h46 => ?_)
    · exact absurd h46 hh
    · refine ws_aload_n (i := 0) X d_Mach_callInside_49 rfl rfl ?_
      refine ws_getI X fl_Mach_51 ob7 d_Mach_callInside_50 ?_
      refine ws_iload_n (i := 3) X d_Mach_callInside_53 rfl rfl ?_
      refine ws_iadd X d_Mach_callInside_54 ?_
      refine ws_ist_4 X rfl d_Mach_callInside_55 (by decide) ?_
      refine ws_aload_n (i := 0) X d_Mach_callInside_57 rfl rfl ?_
      refine ws_iload_n (i := 3) X d_Mach_callInside_58 rfl rfl ?_
      refine ws_iload (i := 4) X d_Mach_callInside_59 rfl ?_
      refine ws_if_lt X d_Mach_callInside_61 (fun h61 => ?_) (fun h61 => ?_)
      · refine ws_lconst (v := 0) X d_Mach_callInside_84 rfl ?_
        refine ws_callV0 X (m_Mach_setLocal _ _ _) cv_Mach_setLocal ml_Mach_76 ob7 rfl rfl (Nat.le_of_ble_eq_true rfl) ⟨Nat.le_of_ble_eq_true rfl, Nat.le_of_ble_eq_true rfl⟩ ⟨Nat.zero_le _, Nat.zero_le _⟩ d_Mach_callInside_85 ?_
        refine ws_iinc_3 X rfl d_Mach_callInside_88 rfl (by decide) ?_
        refine ws_goto X d_Mach_callInside_91 ?_
        rw [nI_inc]; simp only [xmItem, eq_false h46, eq_true h61, if_true, if_false] at K; exact ih (i + 1) _ _ (by omega) ht (hT2 _) K
      · refine ws_iload (i := 4) X d_Mach_callInside_64 rfl ?_
        refine ws_aload_n (i := 0) X d_Mach_callInside_66 rfl rfl ?_
        refine ws_getR X fl_Mach_15 ob7 d_Mach_callInside_67 ?_
        refine ws_alen (v := 48) X ak19 ob19 rfl d_Mach_callInside_70 ?_
        refine ws_icmp_ge X d_Mach_callInside_71 (fun h71 => ?_) (fun h71 => ?_)
        · refine ws_lconst (v := 0) X d_Mach_callInside_84 rfl ?_
          refine ws_callV0 X (m_Mach_setLocal _ _ _) cv_Mach_setLocal ml_Mach_76 ob7 rfl rfl (Nat.le_of_ble_eq_true rfl) ⟨Nat.le_of_ble_eq_true rfl, Nat.le_of_ble_eq_true rfl⟩ ⟨Nat.zero_le _, Nat.zero_le _⟩ d_Mach_callInside_85 ?_
          refine ws_iinc_3 X rfl d_Mach_callInside_88 rfl (by decide) ?_
          refine ws_goto X d_Mach_callInside_91 ?_
          rw [nI_inc]; simp only [xmItem, eq_false h46, eq_false h61, eq_true h71, if_true, if_false] at K; exact ih (i + 1) _ _ (by omega) ht (hT2 _) K
        · refine ws_aload_n (i := 0) X d_Mach_callInside_74 rfl rfl ?_
          refine ws_getR X fl_Mach_15 ob7 d_Mach_callInside_75 ?_
          refine ws_iload (i := 4) X d_Mach_callInside_78 rfl ?_
          refine ws_lald X ak19 ob19 (in_of3 (N := 48) rfl (by assumption) (by assumption)) d_Mach_callInside_80 ?_
          refine ws_goto X d_Mach_callInside_81 ?_
          refine ws_callV0 X (m_Mach_setLocal _ _ _) cv_Mach_setLocal ml_Mach_76 ob7 rfl rfl (Nat.le_of_ble_eq_true rfl) ⟨Nat.le_of_ble_eq_true rfl, Nat.le_of_ble_eq_true rfl⟩ ⟨Nat.zero_le _, Nat.zero_le _⟩ d_Mach_callInside_85 ?_
          refine ws_iinc_3 X rfl d_Mach_callInside_88 rfl (by decide) ?_
          refine ws_goto X d_Mach_callInside_91 ?_
          rw [nI_inc]; simp only [xmItem, eq_false h46, eq_false h61, eq_false h71, if_true, if_false] at K; exact ih (i + 1) _ _ (by omega) ht (hT2 _) K
end L8
def xmCi0 (S : MS) (q : Nat) : MS := wI S 7 0 7 (S.1 7 0 7 - S.1 4 q 1)
def xmCall (S : MS) (q t : Nat) (m : Int32) : MS := if S.1 7 0 6 < 8 then ciGo t 0 (xmEnter (xmCi0 S q) m) else xmFail S 4
theorem xmEnter_o (S : MS) (m : Int32) (a b d : Nat) (h7 : a ≠ 7) (h1 : a ≠ 21) (h2 : a ≠ 22) (h3 : a ≠ 23) : (xmEnter S m).1 a b d = S.1 a b d := by
  unfold xmEnter
  by_cases h : ¬ S.1 7 0 6 < 0 ∧ ¬ 8 ≤ S.1 7 0 6
  · rw [if_pos h, wI_o _ _ _ _ _ _ _ _ (fun z => h7 z.1), wI_o _ _ _ _ _ _ _ _ (fun z => h7 z.1), wI_o _ _ _ _ _ _ _ _ (fun z => h3 z.1), wI_o _ _ _ _ _ _ _ _ (fun z => h2 z.1), wI_o _ _ _ _ _ _ _ _ (fun z => h1 z.1)]
  · rw [if_neg h]
theorem m_Mach_callInside (S : MS) (q t : Nat) (m : Int32) (hq : q < 5) (hT : S.1 4 q 1 = nI t) (ht : t ≤ 3) : MetE y_Mach_callInside c_Mach_callInside 5 (none) 2 42 [.inr (7, 0), .inr (4, q), .inl (.int m)] S (none) (xmCall S q t m) := by
  refine MetS.of (lv0 := [some (.inr (7, 0)), some (.inr (4, q)), some (.inl (.int m)), none, none]) pn_Mach rfl (Nat.le_of_ble_eq_true rfl) (fun p0 l0 e0 s0 m0 args below meth c0 G X => ?_)
  have e1 : (xmEnter (xmCi0 S q) m).1 4 q 1 = nI t := by
    rw [xmEnter_o _ _ _ _ _ (by decide) (by decide) (by decide) (by decide), xmCi0, wI_o _ _ _ _ _ _ _ _ (fun z => absurd z.1 (by decide))]; exact hT
  refine ws_aload_n (i := 0) X d_Mach_callInside_0 rfl rfl ?_
  refine ws_getI X fl_Mach_54 ob7 d_Mach_callInside_1 ?_
  refine ws_bipush (v := 8) X d_Mach_callInside_4 rfl ?_
  refine ws_icmp_lt X d_Mach_callInside_6 (fun h6 => ?_) (fun h6 => ?_)
  · refine ws_aload_n (i := 1) X d_Mach_callInside_17 rfl rfl ?_
    refine ws_ifnull_r X d_Mach_callInside_18 ?_
    refine ws_aload_n (i := 0) X d_Mach_callInside_21 rfl rfl ?_
    refine ws_dup X d_Mach_callInside_22 rfl ?_
    refine ws_getI X fl_Mach_51 ob7 d_Mach_callInside_23 ?_
    refine ws_aload_n (i := 1) X d_Mach_callInside_26 rfl rfl ?_
    refine ws_getI X fl_Mach_61 (ob4 (by assumption)) d_Mach_callInside_27 ?_
    refine ws_isub X d_Mach_callInside_30 ?_
    refine ws_putI X fl_Mach_51 ob7 d_Mach_callInside_31 ?_
    refine ws_aload_n (i := 0) X d_Mach_callInside_34 rfl rfl ?_
    refine ws_iload_n (i := 2) X d_Mach_callInside_35 rfl rfl ?_
    refine ws_callV0 X (m_Mach_enter _ _) cv_Mach_enter ml_Mach_57 ob7 rfl rfl (Nat.le_of_ble_eq_true rfl) ⟨Nat.le_of_ble_eq_true rfl, Nat.le_of_ble_eq_true rfl⟩ ⟨Nat.zero_le _, Nat.zero_le _⟩ d_Mach_callInside_36 ?_
    refine ws_iconst (v := 0) X d_Mach_callInside_39 rfl ?_
    refine ws_istn_3 X rfl d_Mach_callInside_40 (by decide) ?_
    refine l_ci X hq t 0 _ none (by omega) ht e1 (fun j a4 => ?_)
    refine ws_vret X d_Mach_callInside_94 ?_
    exact ⟨rfl, by simp [xmCall, xmCi0, eq_true h6]⟩
  · refine ws_aload_n (i := 0) X d_Mach_callInside_9 rfl rfl ?_
    refine ws_iconst (v := 4) X d_Mach_callInside_10 rfl ?_
    refine ws_callV0 X (m_Mach_fail _ _) cv_Mach_fail ml_Mach_91 ob7 rfl rfl (Nat.le_of_ble_eq_true rfl) ⟨Nat.le_of_ble_eq_true rfl, Nat.le_of_ble_eq_true rfl⟩ ⟨Nat.zero_le _, Nat.zero_le _⟩ d_Mach_callInside_11 ?_
    refine ws_goto X d_Mach_callInside_14 ?_
    refine ws_vret X d_Mach_callInside_94 ?_
    exact ⟨rfl, by simp [xmCall, eq_false h6]⟩

def xmRest (S : MS) (o f : Int32) (tk : Nat → Nat) : MS :=
  if o = 19 then xmGo S f
  else if o = 20 then (if xmPopV S = 0 then xmGo (xmPopS S) f else xmPopS S)
  else if o = 21 then xmCall S f.toNatClampNeg (tk f.toNatClampNeg) f
  else if o = 22 then xmLeave S
  else xmFromTab (xmPopS S) (xmPopV S)
theorem m_Mach_runRest (S : MS) (o f : Int32) (tk : Nat → Nat) (h21 : o = 21 → okG S f = true) (hT : ∀ j, j < 5 → S.1 4 j 1 = nI (tk j) ∧ tk j ≤ 3) : MetE y_Mach_runRest c_Mach_runRest 4 (none) 3 66 [.inr (7, 0), .inr (2, 0), .inl (.int o), .inl (.int f)] S (none) (xmRest S o f tk) := by
  refine MetS.of (lv0 := [some (.inr (7, 0)), some (.inr (2, 0)), some (.inl (.int o)), some (.inl (.int f))]) pn_Mach rfl (Nat.le_of_ble_eq_true rfl) (fun p0 l0 e0 s0 m0 args below meth c0 G X => ?_)
  refine ws_iload_n (i := 2) X d_Mach_runRest_0 rfl rfl ?_
  refine ws_tsw X [(19, 32), (20, 40), (21, 57), (22, 70)] d_Mach_runRest_1 (fun j hj => by
      have hj2 : j < 4 := by omega
      match j, hj2 with
      | 0, _ => exact ⟨_, 32, rfl, rfl, by decide⟩
      | 1, _ => exact ⟨_, 40, rfl, rfl, by decide⟩
      | 2, _ => exact ⟨_, 57, rfl, rfl, by decide⟩
      | 3, _ => exact ⟨_, 70, rfl, rfl, by decide⟩) (tgt := 77) rfl (And.intro (fun h1 => ?_) (And.intro (fun h1 => ?_) (And.intro (fun h1 => ?_) (And.intro (fun h1 => ?_) (trivial))))) (fun h1 => ?_)
  · have h1 : o = 19 := h1
    subst h1
    refine ws_aload_n (i := 0) X d_Mach_runRest_32 rfl rfl ?_
    refine ws_iload_n (i := 3) X d_Mach_runRest_33 rfl rfl ?_
    refine ws_callV0 X (m_Mach_goTo _ _) cv_Mach_goTo ml_Mach_126 ob7 rfl rfl (Nat.le_of_ble_eq_true rfl) ⟨Nat.le_of_ble_eq_true rfl, Nat.le_of_ble_eq_true rfl⟩ ⟨Nat.zero_le _, Nat.zero_le _⟩ d_Mach_runRest_34 ?_
    refine ws_goto X d_Mach_runRest_37 ?_
    refine ws_vret X d_Mach_runRest_85 ?_
    exact ⟨rfl, by simp [xmRest, if_true]⟩
  · have h1 : o = 20 := h1
    subst h1
    refine ws_aload_n (i := 0) X d_Mach_runRest_40 rfl rfl ?_
    refine ws_callV1 X (m_Mach_pop _) cv_Mach_pop ml_Mach_100 ob7 rfl rfl (Nat.le_of_ble_eq_true rfl) ⟨Nat.le_of_ble_eq_true rfl, Nat.le_of_ble_eq_true rfl⟩ ⟨Nat.zero_le _, Nat.zero_le _⟩ d_Mach_runRest_41 ?_
    refine ws_lconst (v := 0) X d_Mach_runRest_44 rfl ?_
    refine ws_lcmp_ne X d_Mach_runRest_45 d_Mach_runRest_46 (fun h45 => ?_) (fun h45 => ?_)
    · refine ws_vret X d_Mach_runRest_85 ?_
      exact ⟨rfl, by simp [xmRest, eq_false h45]⟩
    · refine ws_aload_n (i := 0) X d_Mach_runRest_49 rfl rfl ?_
      refine ws_iload_n (i := 3) X d_Mach_runRest_50 rfl rfl ?_
      refine ws_callV0 X (m_Mach_goTo _ _) cv_Mach_goTo ml_Mach_126 ob7 rfl rfl (Nat.le_of_ble_eq_true rfl) ⟨Nat.le_of_ble_eq_true rfl, Nat.le_of_ble_eq_true rfl⟩ ⟨Nat.zero_le _, Nat.zero_le _⟩ d_Mach_runRest_51 ?_
      refine ws_goto X d_Mach_runRest_54 ?_
      refine ws_vret X d_Mach_runRest_85 ?_
      exact ⟨rfl, by simp [xmRest, eq_true h45]⟩
  · have h1 : o = 21 := h1
    subst h1
    have hok := h21 rfl
    have hF5 := okG_lt hok
    refine ws_aload_n (i := 0) X d_Mach_runRest_57 rfl rfl ?_
    refine ws_aload_n (i := 1) X d_Mach_runRest_58 rfl rfl ?_
    refine ws_iload_n (i := 3) X d_Mach_runRest_59 rfl rfl ?_
    refine ws_callV1 X (m_Prog_methodAt_y _ _ hok) cv_Prog_methodAt ml_Mach_108 ob2 rfl rfl (Nat.le_of_ble_eq_true rfl) ⟨Nat.le_of_ble_eq_true rfl, Nat.le_of_ble_eq_true rfl⟩ ⟨Nat.zero_le _, Nat.zero_le _⟩ d_Mach_runRest_60 ?_
    refine ws_iload_n (i := 3) X d_Mach_runRest_63 rfl rfl ?_
    refine ws_callV0 X (m_Mach_callInside _ _ (tk _) _ hF5 (hT _ hF5).1 (hT _ hF5).2) cv_Mach_callInside ml_Mach_186 ob7 rfl rfl (Nat.le_of_ble_eq_true rfl) ⟨Nat.le_of_ble_eq_true rfl, Nat.le_of_ble_eq_true rfl⟩ ⟨Nat.zero_le _, Nat.zero_le _⟩ d_Mach_runRest_64 ?_
    refine ws_goto X d_Mach_runRest_67 ?_
    refine ws_vret X d_Mach_runRest_85 ?_
    exact ⟨rfl, by simp [xmRest, if_true]⟩
  · have h1 : o = 22 := h1
    subst h1
    refine ws_aload_n (i := 0) X d_Mach_runRest_70 rfl rfl ?_
    refine ws_callV0 X (m_Mach_leave _) cv_Mach_leave ml_Mach_190 ob7 rfl rfl (Nat.le_of_ble_eq_true rfl) ⟨Nat.le_of_ble_eq_true rfl, Nat.le_of_ble_eq_true rfl⟩ ⟨Nat.zero_le _, Nat.zero_le _⟩ d_Mach_runRest_71 ?_
    refine ws_goto X d_Mach_runRest_74 ?_
    refine ws_vret X d_Mach_runRest_85 ?_
    exact ⟨rfl, by simp [xmRest, if_true]⟩
  · have g1 : ¬ o = 19 := fun z => by rw [z] at h1; exact absurd h1 (by decide)
    have g2 : ¬ o = 20 := fun z => by rw [z] at h1; exact absurd h1 (by decide)
    have g3 : ¬ o = 21 := fun z => by rw [z] at h1; exact absurd h1 (by decide)
    have g4 : ¬ o = 22 := fun z => by rw [z] at h1; exact absurd h1 (by decide)
    have eR : xmRest S o f tk = xmFromTab (xmPopS S) (xmPopV S) := by simp [xmRest, g1, g2, g3, g4]
    rw [eR]
    refine ws_aload_n (i := 0) X d_Mach_runRest_77 rfl rfl ?_
    refine ws_aload_n (i := 0) X d_Mach_runRest_78 rfl rfl ?_
    refine ws_callV1 X (m_Mach_pop _) cv_Mach_pop ml_Mach_100 ob7 rfl rfl (Nat.le_of_ble_eq_true rfl) ⟨Nat.le_of_ble_eq_true rfl, Nat.le_of_ble_eq_true rfl⟩ ⟨Nat.zero_le _, Nat.zero_le _⟩ d_Mach_runRest_79 ?_
    refine ws_callV0 X (m_Mach_pushFromTable _ _) cv_Mach_pushFromTable ml_Mach_193 ob7 rfl rfl (Nat.le_of_ble_eq_true rfl) ⟨Nat.le_of_ble_eq_true rfl, Nat.le_of_ble_eq_true rfl⟩ ⟨Nat.zero_le _, Nat.zero_le _⟩ d_Mach_runRest_82 ?_
    refine ws_vret X d_Mach_runRest_85 ?_
    exact ⟨rfl, by simp [xmRest, if_true]⟩

/-- an OP, at the place that is next -/
def xm1 (S : MS) : MS := wI S 7 0 8 (xmNext S)
def xmQ (S : MS) : Nat := (xmOpen S).toNatClampNeg
def xmO (S : MS) : Int32 := codeM (xm1 S) (xmQ S) (xmNext S)
def xmF (S : MS) : Int32 := codeM (xm1 S) (xmQ S) (xmNext S + 1)
def xm2 (S : MS) : MS := xmGo (xm1 S) (xmNext S + opSize (xmO S))
def xmOp (S : MS) (tk : Nat → Nat) : MS :=
  if 6 < xmO S then (if 10 < xmO S then (if 14 < xmO S then (if 18 < xmO S then (if xmO S = 24 then xmListed (xm2 S) (valueOfP (xm2 S) (xmF S)) else xmRest (xm2 S) (xmO S) (xmF S) tk) else xmChg (xm2 S) (xmO S)) else xmDbls (xm2 S) (xmO S)) else xmInts (xm2 S) (xmO S)) else xmMove (xm2 S) (xmO S) (xmF S)
theorem xmGo_o (S : MS) (p : Int32) (a b d : Nat) (h : a ≠ 22) : (xmGo S p).1 a b d = S.1 a b d := by
  unfold xmGo
  by_cases h1 : S.1 7 0 6 - 1 < 0
  · rw [if_pos h1]
  · rw [if_neg h1]
    by_cases h2 : 8 ≤ S.1 7 0 6 - 1
    · rw [if_pos h2]
    · rw [if_neg h2, wI_o _ _ _ _ _ _ _ _ (fun z => h z.1)]
theorem xm2_o (S : MS) (a b d : Nat) (h : a ≠ 22) (h7 : a ≠ 7) : (xm2 S).1 a b d = S.1 a b d := by
  rw [xm2, xmGo_o _ _ _ _ _ h, xm1, wI_o _ _ _ _ _ _ _ _ (fun z => h7 z.1)]
theorem okG_same {S S' : MS} (h : S'.1 2 0 3 = S.1 2 0 3) (m : Int32) : okG S' m = okG S m := by simp [okG, h]
theorem m_Mach_runOp (S : MS) (tk : Nat → Nat) (hk : xmOpenOk S = true) (h21 : xmO S = 21 → okG S (xmF S) = true) (hT : ∀ j, j < 5 → S.1 4 j 1 = nI (tk j) ∧ tk j ≤ 3) : MetE y_Mach_runOp c_Mach_runOp 5 (none) 4 115 [.inr (7, 0), .inr (2, 0)] S (none) (xmOp S tk) := by
  refine MetS.of (lv0 := [some (.inr (7, 0)), some (.inr (2, 0)), none, none, none]) pn_Mach rfl (Nat.le_of_ble_eq_true rfl) (fun p0 l0 e0 s0 m0 args below meth c0 G X => ?_)
  have hq : (xmOpen S).toNatClampNeg < 5 := okG_lt (by simp only [xmOpenOk, Bool.and_eq_true] at hk; exact hk.2)
  have e8 : (xm1 S).1 7 0 8 = xmNext S := wI_rd ..
  refine ws_aload_n (i := 0) X d_Mach_runOp_0 rfl rfl ?_
  refine ws_aload_n (i := 1) X d_Mach_runOp_1 rfl rfl ?_
  refine ws_callV1 X (m_Mach_openMethod _ hk) cv_Mach_openMethod ml_Mach_114 ob7 rfl rfl (Nat.le_of_ble_eq_true rfl) ⟨Nat.le_of_ble_eq_true rfl, Nat.le_of_ble_eq_true rfl⟩ ⟨Nat.zero_le _, Nat.zero_le _⟩ d_Mach_runOp_2 ?_
  refine ws_astn_2 X rfl d_Mach_runOp_5 (by decide) ?_
  refine ws_aload_n (i := 2) X d_Mach_runOp_6 rfl rfl ?_
  refine ws_ifnonnull_r X d_Mach_runOp_7 ?_
  refine ws_aload_n (i := 0) X d_Mach_runOp_11 rfl rfl ?_
  refine ws_aload_n (i := 0) X d_Mach_runOp_12 rfl rfl ?_
  refine ws_callV1 X (m_Mach_nextPlace _) cv_Mach_nextPlace ml_Mach_84 ob7 rfl rfl (Nat.le_of_ble_eq_true rfl) ⟨Nat.le_of_ble_eq_true rfl, Nat.le_of_ble_eq_true rfl⟩ ⟨Nat.zero_le _, Nat.zero_le _⟩ d_Mach_runOp_13 ?_
  refine ws_putI X fl_Mach_88 ob7 d_Mach_runOp_16 ?_
  show WS _ _ _ _ _ _ _ _ _ _ _ _ _ _ _ _ _ _ _ (xm1 S)
  refine ws_aload_n (i := 2) X d_Mach_runOp_19 rfl rfl ?_
  refine ws_aload_n (i := 0) X d_Mach_runOp_20 rfl rfl ?_
  refine ws_getI X fl_Mach_88 ob7 d_Mach_runOp_21 ?_
  rw [e8]
  refine ws_callV1 X (m_Meth_codeAt _ _ (by assumption) _) cv_Meth_codeAt ml_Mach_118 (ob4 (by assumption)) rfl rfl (Nat.le_of_ble_eq_true rfl) ⟨Nat.le_of_ble_eq_true rfl, Nat.le_of_ble_eq_true rfl⟩ ⟨Nat.zero_le _, Nat.zero_le _⟩ d_Mach_runOp_24 ?_
  refine ws_istn_3 X rfl d_Mach_runOp_27 (by decide) ?_
  refine ws_aload_n (i := 2) X d_Mach_runOp_28 rfl rfl ?_
  refine ws_aload_n (i := 0) X d_Mach_runOp_29 rfl rfl ?_
  refine ws_getI X fl_Mach_88 ob7 d_Mach_runOp_30 ?_
  rw [e8]
  refine ws_iconst (v := 1) X d_Mach_runOp_33 rfl ?_
  refine ws_iadd X d_Mach_runOp_34 ?_
  refine ws_callV1 X (m_Meth_codeAt _ _ (by assumption) _) cv_Meth_codeAt ml_Mach_118 (ob4 (by assumption)) rfl rfl (Nat.le_of_ble_eq_true rfl) ⟨Nat.le_of_ble_eq_true rfl, Nat.le_of_ble_eq_true rfl⟩ ⟨Nat.zero_le _, Nat.zero_le _⟩ d_Mach_runOp_35 ?_
  refine ws_ist_4 X rfl d_Mach_runOp_38 (by decide) ?_
  refine ws_aload_n (i := 0) X d_Mach_runOp_40 rfl rfl ?_
  refine ws_aload_n (i := 0) X d_Mach_runOp_41 rfl rfl ?_
  refine ws_getI X fl_Mach_88 ob7 d_Mach_runOp_42 ?_
  rw [e8]
  refine ws_iload_n (i := 3) X d_Mach_runOp_45 rfl rfl ?_
  refine ws_callS1 X (m_Ops_size _ _) cs_Ops_size ml_Mach_121 rfl rfl (Nat.le_of_ble_eq_true rfl) ⟨Nat.le_of_ble_eq_true rfl, Nat.le_of_ble_eq_true rfl⟩ ⟨Nat.zero_le _, Nat.zero_le _⟩ d_Mach_runOp_46 ?_
  refine ws_iadd X d_Mach_runOp_49 ?_
  refine ws_callV0 X (m_Mach_goTo _ _) cv_Mach_goTo ml_Mach_126 ob7 rfl rfl (Nat.le_of_ble_eq_true rfl) ⟨Nat.le_of_ble_eq_true rfl, Nat.le_of_ble_eq_true rfl⟩ ⟨Nat.zero_le _, Nat.zero_le _⟩ d_Mach_runOp_50 ?_
  show WS _ _ _ _ _ _ _ _ _ _ _ _ _ _ _ _ _ _ _ (xm2 S)
  refine ws_iload_n (i := 3) X d_Mach_runOp_53 rfl rfl ?_
  refine ws_bipush (v := 6) X d_Mach_runOp_54 rfl ?_
  refine ws_icmp_gt X d_Mach_runOp_56 (fun h56 => ?_) (fun h56 => ?_)
  · refine ws_iload_n (i := 3) X d_Mach_runOp_73 rfl rfl ?_
    refine ws_bipush (v := 10) X d_Mach_runOp_74 rfl ?_
    refine ws_icmp_gt X d_Mach_runOp_76 (fun h76 => ?_) (fun h76 => ?_)
    · refine ws_iload_n (i := 3) X d_Mach_runOp_87 rfl rfl ?_
      refine ws_bipush (v := 14) X d_Mach_runOp_88 rfl ?_
      refine ws_icmp_gt X d_Mach_runOp_90 (fun h90 => ?_) (fun h90 => ?_)
      · refine ws_iload_n (i := 3) X d_Mach_runOp_101 rfl rfl ?_
        refine ws_bipush (v := 18) X d_Mach_runOp_102 rfl ?_
        refine ws_icmp_gt X d_Mach_runOp_104 (fun h104 => ?_) (fun h104 => ?_)
        · refine ws_iload_n (i := 3) X d_Mach_runOp_115 rfl rfl ?_
          refine ws_bipush (v := 24) X d_Mach_runOp_116 rfl ?_
          refine ws_icmp_ne X d_Mach_runOp_118 (fun h118 => ?_) (fun h118 => ?_)
          · refine ws_aload_n (i := 0) X d_Mach_runOp_137 rfl rfl ?_
            refine ws_aload_n (i := 1) X d_Mach_runOp_138 rfl rfl ?_
            refine ws_iload_n (i := 3) X d_Mach_runOp_139 rfl rfl ?_
            refine ws_iload (i := 4) X d_Mach_runOp_140 rfl ?_
            refine ws_callV0 X (m_Mach_runRest _ _ _ tk (fun z => by rw [okG_same (xm2_o S 2 0 3 (by decide) (by decide))]; exact h21 z) (fun j hj => by rw [xm2_o S 4 j 1 (by decide) (by decide)]; exact hT j hj)) cv_Mach_runRest ml_Mach_155 ob7 rfl rfl (Nat.le_of_ble_eq_true rfl) ⟨Nat.le_of_ble_eq_true rfl, Nat.le_of_ble_eq_true rfl⟩ ⟨Nat.zero_le _, Nat.zero_le _⟩ d_Mach_runOp_142 ?_
            refine ws_vret X d_Mach_runOp_145 ?_
            exact ⟨rfl, by simp [xmOp, xmO, xmF, xmQ, eq_true h56, eq_true h76, eq_true h90, eq_true h104, eq_false h118]⟩
          · refine ws_aload_n (i := 0) X d_Mach_runOp_121 rfl rfl ?_
            refine ws_aload_n (i := 1) X d_Mach_runOp_122 rfl rfl ?_
            refine ws_getR X fl_Mach_129 ob2 d_Mach_runOp_123 ?_
            refine ws_iload (i := 4) X d_Mach_runOp_126 rfl ?_
            refine ws_callV1 X (m_Pool_valueOf _ _) cv_Pool_valueOf ml_Mach_146 ob3 rfl rfl (Nat.le_of_ble_eq_true rfl) ⟨Nat.le_of_ble_eq_true rfl, Nat.le_of_ble_eq_true rfl⟩ ⟨Nat.zero_le _, Nat.zero_le _⟩ d_Mach_runOp_128 ?_
            refine ws_callV0 X (m_Mach_runListed _ _) cv_Mach_runListed ml_Mach_152 ob7 rfl rfl (Nat.le_of_ble_eq_true rfl) ⟨Nat.le_of_ble_eq_true rfl, Nat.le_of_ble_eq_true rfl⟩ ⟨Nat.zero_le _, Nat.zero_le _⟩ d_Mach_runOp_131 ?_
            refine ws_goto X d_Mach_runOp_134 ?_
            refine ws_vret X d_Mach_runOp_145 ?_
            exact ⟨rfl, by simp [xmOp, xmO, xmF, xmQ, eq_true h56, eq_true h76, eq_true h90, eq_true h104, eq_true h118]⟩
        · refine ws_aload_n (i := 0) X d_Mach_runOp_107 rfl rfl ?_
          refine ws_iload_n (i := 3) X d_Mach_runOp_108 rfl rfl ?_
          refine ws_callV0 X (m_Mach_runChange _ _) cv_Mach_runChange ml_Mach_143 ob7 rfl rfl (Nat.le_of_ble_eq_true rfl) ⟨Nat.le_of_ble_eq_true rfl, Nat.le_of_ble_eq_true rfl⟩ ⟨Nat.zero_le _, Nat.zero_le _⟩ d_Mach_runOp_109 ?_
          refine ws_goto X d_Mach_runOp_112 ?_
          refine ws_vret X d_Mach_runOp_145 ?_
          exact ⟨rfl, by simp [xmOp, xmO, xmF, xmQ, eq_true h56, eq_true h76, eq_true h90, eq_false h104]⟩
      · refine ws_aload_n (i := 0) X d_Mach_runOp_93 rfl rfl ?_
        refine ws_iload_n (i := 3) X d_Mach_runOp_94 rfl rfl ?_
        refine ws_callV0 X (m_Mach_runDoubles _ _) cv_Mach_runDoubles ml_Mach_140 ob7 rfl rfl (Nat.le_of_ble_eq_true rfl) ⟨Nat.le_of_ble_eq_true rfl, Nat.le_of_ble_eq_true rfl⟩ ⟨Nat.zero_le _, Nat.zero_le _⟩ d_Mach_runOp_95 ?_
        refine ws_goto X d_Mach_runOp_98 ?_
        refine ws_vret X d_Mach_runOp_145 ?_
        exact ⟨rfl, by simp [xmOp, xmO, xmF, xmQ, eq_true h56, eq_true h76, eq_false h90]⟩
    · refine ws_aload_n (i := 0) X d_Mach_runOp_79 rfl rfl ?_
      refine ws_iload_n (i := 3) X d_Mach_runOp_80 rfl rfl ?_
      refine ws_callV0 X (m_Mach_runInts _ _) cv_Mach_runInts ml_Mach_137 ob7 rfl rfl (Nat.le_of_ble_eq_true rfl) ⟨Nat.le_of_ble_eq_true rfl, Nat.le_of_ble_eq_true rfl⟩ ⟨Nat.zero_le _, Nat.zero_le _⟩ d_Mach_runOp_81 ?_
      refine ws_goto X d_Mach_runOp_84 ?_
      refine ws_vret X d_Mach_runOp_145 ?_
      exact ⟨rfl, by simp [xmOp, xmO, xmF, xmQ, eq_true h56, eq_false h76]⟩
  · refine ws_aload_n (i := 0) X d_Mach_runOp_59 rfl rfl ?_
    refine ws_aload_n (i := 1) X d_Mach_runOp_60 rfl rfl ?_
    refine ws_getR X fl_Mach_129 ob2 d_Mach_runOp_61 ?_
    refine ws_iload_n (i := 3) X d_Mach_runOp_64 rfl rfl ?_
    refine ws_iload (i := 4) X d_Mach_runOp_65 rfl ?_
    refine ws_callV0 X (m_Mach_runMove _ _ _) cv_Mach_runMove ml_Mach_133 ob7 rfl rfl (Nat.le_of_ble_eq_true rfl) ⟨Nat.le_of_ble_eq_true rfl, Nat.le_of_ble_eq_true rfl⟩ ⟨Nat.zero_le _, Nat.zero_le _⟩ d_Mach_runOp_67 ?_
    refine ws_goto X d_Mach_runOp_70 ?_
    refine ws_vret X d_Mach_runOp_145 ?_
    exact ⟨rfl, by simp [xmOp, xmO, xmF, xmQ, eq_false h56]⟩

/-- STEPS, at most n -/
def xmStep (S : MS) : MS := wI S 7 0 10 (S.1 7 0 10 + 1)
def runGo (tk : Nat → Nat) : Nat → MS → MS
  | 0, S => S
  | n + 1, S => if S.1 7 0 6 ≤ 0 then S else if S.1 7 0 9 = 0 then runGo tk n (xmOp (xmStep S) tk) else S
def xmRunEnd (S : MS) : MS := if S.1 7 0 6 ≤ 0 then S else if S.1 7 0 9 = 0 then xmFail (wI S 7 0 8 (xmNext S)) 3 else S
/-- what an OP asks for -/
def opPre (tk : Nat → Nat) (S : MS) : Prop := xmOpenOk S = true ∧ (xmO S = 21 → okG S (xmF S) = true) ∧ ∀ j, j < 5 → S.1 4 j 1 = nI (tk j) ∧ tk j ≤ 3
section L9
variable {p : Program} {l : Launch} {e0 : Env} {s : State} {m0 : MethodId} {args : Array Value} {below : List Frame} {meth : Method} {c0 : Code} {G : GG} {A : Nat → Prop} {Q : State → Prop}
theorem l_run (X : CX p s m0 args meth c0 G A c_Mach_run y_Mach_run.cls 4 (none)) {tk : Nat → Nat} {I : MS → Prop} (hI : ∀ S, I S → ¬ S.1 7 0 6 ≤ 0 → S.1 7 0 9 = 0 → opPre tk (xmStep S) ∧ I (xmOp (xmStep S) tk)) {k : Nat} (hk : k ≤ 1000) : ∀ (n i : Nat) (S : MS), i + n = k → I S → (∀ j : Int32, WS p l e0 (rmS 5 139) s m0 args below meth c0 G A 4 0 0 Q 42 [some (.inr (7, 0)), some (.inr (2, 0)), some (.inl (.int (nI k))), some (.inl (.int j))] [] (runGo tk n S)) → WS p l e0 (rmS 5 139) s m0 args below meth c0 G A 4 0 0 Q 2 [some (.inr (7, 0)), some (.inr (2, 0)), some (.inl (.int (nI k))), some (.inl (.int (nI i)))] [] (S) := by
  intro n
  induction n with
  | zero =>
    intro i S hi hS K
    have hh : nI k ≤ nI i := by rw [nI_leI (by omega) (by omega)]; omega
    refine ws_iload_n (i := 3) X d_Mach_run_2 rfl rfl ?_
    refine ws_iload_n (i := 2) X d_Mach_run_3 rfl rfl ?_
    refine ws_icmp_ge X d_Mach_run_4 (fun h4 => ?_) (fun h4 => ?_)
    · exact K _
    · exact absurd hh h4
  | succ n ih =>
    intro i S hi hS K
    have hh : ¬ nI k ≤ nI i := by rw [nI_leI (by omega) (by omega)]; omega
    rw [runGo] at K
    refine ws_iload_n (i := 3) X d_Mach_run_2 rfl rfl ?_
    refine ws_iload_n (i := 2) X d_Mach_run_3 rfl rfl ?_
    refine ws_icmp_ge X d_Mach_run_4 (fun h4 => ?_) (fun h4 => ?_)
    · exact absurd h4 hh
    · refine ws_aload_n (i := 0) X d_Mach_run_7 rfl rfl ?_
      refine ws_getI X fl_Mach_54 ob7 d_Mach_run_8 ?_
      refine ws_if_le X d_Mach_run_11 (fun h11 => ?_) (fun h11 => ?_)
      · simp only [eq_false h4, eq_true h11, if_true, if_false] at K; exact K _
      · refine ws_aload_n (i := 0) X d_Mach_run_14 rfl rfl ?_
        refine ws_getI X fl_Mach_31 ob7 d_Mach_run_15 ?_
        refine ws_if_ne X d_Mach_run_18 (fun h18 => ?_) (fun h18 => ?_)
        · simp only [eq_false h4, eq_false h11, eq_false h18, if_true, if_false] at K; exact K _
        · have hp := hI S hS h11 h18
          refine ws_aload_n (i := 0) X d_Mach_run_21 rfl rfl ?_
          refine ws_dup X d_Mach_run_22 rfl ?_
          refine ws_getI X fl_Mach_35 ob7 d_Mach_run_23 ?_
          refine ws_iconst (v := 1) X d_Mach_run_26 rfl ?_
          refine ws_iadd X d_Mach_run_27 ?_
          refine ws_putI X fl_Mach_35 ob7 d_Mach_run_28 ?_
          refine ws_aload_n (i := 0) X d_Mach_run_31 rfl rfl ?_
          refine ws_aload_n (i := 1) X d_Mach_run_32 rfl rfl ?_
          refine ws_callV0 X (m_Mach_runOp _ tk hp.1.1 hp.1.2.1 hp.1.2.2) cv_Mach_runOp ml_Mach_80 ob7 rfl rfl (Nat.le_of_ble_eq_true rfl) ⟨Nat.le_of_ble_eq_true rfl, Nat.le_of_ble_eq_true rfl⟩ ⟨Nat.zero_le _, Nat.zero_le _⟩ d_Mach_run_33 ?_
          refine ws_iinc_3 X rfl d_Mach_run_36 rfl (by decide) ?_
          refine ws_goto X d_Mach_run_39 ?_
          rw [nI_inc]; simp only [eq_false h4, eq_false h11, eq_true h18, if_true, if_false] at K; exact ih (i + 1) _ (by omega) hp.2 K
end L9
theorem m_Mach_run (S : MS) (tk : Nat → Nat) (k : Nat) (I : MS → Prop) (hk : k ≤ 1000) (hI : ∀ S, I S → ¬ S.1 7 0 6 ≤ 0 → S.1 7 0 9 = 0 → opPre tk (xmStep S) ∧ I (xmOp (xmStep S) tk)) (hS : I S) : MetE y_Mach_run c_Mach_run 4 (none) 5 139 [.inr (7, 0), .inr (2, 0), .inl (.int (nI k))] S (none) (xmRunEnd (runGo tk k S)) := by
  refine MetS.of (lv0 := [some (.inr (7, 0)), some (.inr (2, 0)), some (.inl (.int (nI k))), none]) pn_Mach rfl (Nat.le_of_ble_eq_true rfl) (fun p0 l0 e0 s0 m0 args below meth c0 G X => ?_)
  refine ws_iconst (v := 0) X d_Mach_run_0 rfl ?_
  refine ws_istn_3 X rfl d_Mach_run_1 (by decide) ?_
  refine l_run X hI hk k 0 S (by omega) hS (fun j => ?_)
  refine ws_aload_n (i := 0) X d_Mach_run_42 rfl rfl ?_
  refine ws_getI X fl_Mach_54 ob7 d_Mach_run_43 ?_
  refine ws_if_le X d_Mach_run_46 (fun h46 => ?_) (fun h46 => ?_)
  · refine ws_vret X d_Mach_run_69 ?_
    exact ⟨rfl, by simp [xmRunEnd, eq_true h46]⟩
  · refine ws_aload_n (i := 0) X d_Mach_run_49 rfl rfl ?_
    refine ws_getI X fl_Mach_31 ob7 d_Mach_run_50 ?_
    refine ws_if_ne X d_Mach_run_53 (fun h53 => ?_) (fun h53 => ?_)
    · refine ws_vret X d_Mach_run_69 ?_
      exact ⟨rfl, by simp [xmRunEnd, eq_false h46, eq_false h53]⟩
    · refine ws_aload_n (i := 0) X d_Mach_run_56 rfl rfl ?_
      refine ws_aload_n (i := 0) X d_Mach_run_57 rfl rfl ?_
      refine ws_callV1 X (m_Mach_nextPlace _) cv_Mach_nextPlace ml_Mach_84 ob7 rfl rfl (Nat.le_of_ble_eq_true rfl) ⟨Nat.le_of_ble_eq_true rfl, Nat.le_of_ble_eq_true rfl⟩ ⟨Nat.zero_le _, Nat.zero_le _⟩ d_Mach_run_58 ?_
      refine ws_putI X fl_Mach_88 ob7 d_Mach_run_61 ?_
      refine ws_aload_n (i := 0) X d_Mach_run_64 rfl rfl ?_
      refine ws_iconst (v := 3) X d_Mach_run_65 rfl ?_
      refine ws_callV0 X (m_Mach_fail _ _) cv_Mach_fail ml_Mach_91 ob7 rfl rfl (Nat.le_of_ble_eq_true rfl) ⟨Nat.le_of_ble_eq_true rfl, Nat.le_of_ble_eq_true rfl⟩ ⟨Nat.zero_le _, Nat.zero_le _⟩ d_Mach_run_66 ?_
      refine ws_vret X d_Mach_run_69 ?_
      exact ⟨rfl, by simp [xmRunEnd, eq_false h46, eq_true h53]⟩


