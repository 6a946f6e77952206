/-! Judge: what stays, and a METHOD gone through -/
theorem wI_o (S : MS) (k i j a b d : Nat) (v : Int32) (h : ¬ (a = k ∧ b = i ∧ d = j)) : (wI S k i j v).1 a b d = S.1 a b d := if_neg h
theorem pushS_o (S : MS) (q a b d : Nat) (x : Int32) (h : ¬ (a = 6 ∧ b = 0 ∧ d = 1)) : (pushS S q x).1 a b d = S.1 a b d := by
  unfold pushS
  by_cases h2 : kDepth (S.1 6 0 1) < S.1 4 q 4
  · rw [if_pos h2, wI_o _ _ _ _ _ _ _ _ h]
  · rw [if_neg h2]
theorem jcallS_o (S : MS) (q1 q2 t a b d : Nat) (h : ¬ (a = 6 ∧ b = 0 ∧ d = 1)) : (jcallS S q1 q2 t).1 a b d = S.1 a b d := by
  unfold jcallS
  by_cases h1 : S.1 4 q2 1 ≤ kDepth (S.1 6 0 1)
  · rw [if_pos h1]
    by_cases h2 : (jcGo (S.1 4 q2 8) t (S.1 6 0 1)).1 = true
    · rw [if_pos h2, pushS_o _ _ _ _ _ _ h, wI_o _ _ _ _ _ _ _ _ h]
    · rw [if_neg h2, wI_o _ _ _ _ _ _ _ _ h]
  · rw [if_neg h1]
theorem jstS_o (S : MS) (q a b d c : Nat) (o f : Int32) (h : ¬ (a = 6 ∧ b = 0 ∧ d = 1)) : (jstS S q o f c).1 a b d = S.1 a b d := by
  unfold jstS
  by_cases h1 : opTab 0 o ≤ kDepth (S.1 6 0 1)
  · rw [if_pos h1]
    by_cases h2 : (jsR S q o f c).2.2 = true
    · rw [if_pos h2]
      by_cases h3 : o = 3
      · rw [if_pos h3, pushS_o _ _ _ _ _ _ h, wI_o _ _ _ _ _ _ _ _ h]
      · rw [if_neg h3]
        by_cases h4 : o = 4
        · rw [if_pos h4, wI_o _ _ _ _ _ _ _ _ h]
        · rw [if_neg h4]
          by_cases h5 : o = 5
          · rw [if_pos h5, pushS_o _ _ _ _ _ _ h, wI_o _ _ _ _ _ _ _ _ h]
          · rw [if_neg h5]
            by_cases h6 : opTab 2 o = 0
            · rw [if_pos h6, wI_o _ _ _ _ _ _ _ _ h]
            · rw [if_neg h6, pushS_o _ _ _ _ _ _ h, wI_o _ _ _ _ _ _ _ _ h]
    · rw [if_neg h2, wI_o _ _ _ _ _ _ _ _ h]
  · rw [if_neg h1]
theorem joS_o (S : MS) (q a b d : Nat) (tk : Nat → Nat) (h : ¬ (a = 6 ∧ b = 0 ∧ d = 1)) (h2 : a ≠ 17) : (joS S q tk).1 a b d = S.1 a b d := by
  unfold joS
  by_cases h1 : joO S q = 21
  · rw [if_pos h1, jcallS_o _ _ _ _ _ _ _ h, jo2_o _ _ _ _ _ h h2]
  · rw [if_neg h1, jstS_o _ _ _ _ _ _ _ _ h, jo2_o _ _ _ _ _ h h2]
theorem jopS_o (S : MS) (q a b d : Nat) (tk : Nat → Nat) (h : ¬ (a = 6 ∧ b = 0 ∧ d = 1)) (h3 : ¬ (a = 6 ∧ b = 0 ∧ d = 2)) (h2 : a ≠ 17) : (jopS S q tk).1 a b d = S.1 a b d := by
  unfold jopS
  by_cases g1 : meetV S q = 0
  · rw [if_pos g1, meetS_o _ _ _ _ _ h]
  · rw [if_neg g1]
    by_cases g2 : opIs (joO S q) = true
    · rw [if_pos g2]
      by_cases g3 : joShort S q = true
      · rw [if_pos g3, jo2_o _ _ _ _ _ h h2]
      · rw [if_neg g3]
        by_cases g4 : entJ (jo2 S q) q (joO S q) (joF S q) = true
        · rw [if_pos g4, wI_o _ _ _ _ _ _ _ _ h3, joS_o _ _ _ _ _ _ h h2]
        · rw [if_neg g4, jo2_o _ _ _ _ _ h h2]
    · rw [if_neg g2, jo2_o _ _ _ _ _ h h2]
theorem bI_01 (b : Bool) : bI b = 0 ∨ bI b = 1 := by cases b <;> simp [bI]
theorem jopS_z (S : MS) (q : Nat) (tk : Nat → Nat) (hz : S.1 6 0 2 = 0 ∨ S.1 6 0 2 = 1) : (jopS S q tk).1 6 0 2 = 0 ∨ (jopS S q tk).1 6 0 2 = 1 := by
  unfold jopS
  by_cases g1 : meetV S q = 0
  · rw [if_pos g1, meetS_o _ _ _ _ _ (by decide)]; exact hz
  · rw [if_neg g1]
    by_cases g2 : opIs (joO S q) = true
    · rw [if_pos g2]
      by_cases g3 : joShort S q = true
      · rw [if_pos g3, jo2_o _ _ _ _ _ (by decide) (by decide)]; exact hz
      · rw [if_neg g3]
        by_cases g4 : entJ (jo2 S q) q (joO S q) (joF S q) = true
        · rw [if_pos g4, wI_rd]; exact bI_01 _
        · rw [if_neg g4, jo2_o _ _ _ _ _ (by decide) (by decide)]; exact hz
    · rw [if_neg g2, jo2_o _ _ _ _ _ (by decide) (by decide)]; exact hz
/-- the OPs of a METHOD, from place i on -/
def jmGo (q : Nat) (tk : Nat → Nat) : Nat → Nat → MS → Int32 × MS
  | 0, _, S => (0, S)
  | n + 1, i, S => if S.1 4 q 5 ≤ nI i then mpGo S q 9 0 else if jopV (wI S 6 0 0 (nI i)) q tk = 0 then (if opByte (codeM (jopS (wI S 6 0 0 (nI i)) q tk) q (nI i)) = true then jmGo q tk n (i + 2) (jopS (wI S 6 0 0 (nI i)) q tk) else jmGo q tk n (i + 1) (jopS (wI S 6 0 0 (nI i)) q tk)) else (jopV (wI S 6 0 0 (nI i)) q tk, jopS (wI S 6 0 0 (nI i)) q tk)
section L7
variable {p : Program} {l : Launch} {e0 : Env} {s : State} {m0 : MethodId} {args : Array Value} {below : List Frame} {meth : Method} {c0 : Code} {G : GG} {A : Nat → Prop} {Q : State → Prop}
theorem l_jm (X : CX p s m0 args meth c0 G A c_Judge_judgeMethod y_Judge_judgeMethod.cls 6 ((some .int))) {q : Nat} (hq : q < 5) {a2 : Option MV} {r : Int32 × MS} {tk : Nat → Nat} (Kr : ∀ (j : Int32) (a5 : Option MV) (pc : Nat) (nx : Nat), DC c_Judge_judgeMethod pc .ireturn 1 nx → WS p l e0 (rmS 5 116) s m0 args below meth c0 G A 6 0 0 Q pc [some (.inr (6, 0)), some (.inr (2, 0)), a2, some (.inr (4, q)), some (.inl (.int j)), a5] [.inl (.int r.1)] (r.2)) : ∀ (n i : Nat) (S : MS) (a5 : Option MV), 50 ≤ i + n → i ≤ 49 → S.1 4 q 5 ≤ 48 → S.1 4 q 6 ≤ 8 → (S.1 6 0 2 = 0 ∨ S.1 6 0 2 = 1) → (∀ j, j < 5 → S.1 4 j 1 = nI (tk j) ∧ tk j ≤ 3) → jmGo q tk n i S = r → WS p l e0 (rmS 5 116) s m0 args below meth c0 G A 6 0 0 Q 32 [some (.inr (6, 0)), some (.inr (2, 0)), a2, some (.inr (4, q)), some (.inl (.int (nI i))), a5] [] (S) := by
  intro n
  induction n with
  | zero =>
    intro i S a5 hi hi2 h48 h8 hz hT hr
    omega
  | succ n ih =>
    intro i S a5 hi hi2 h48 h8 hz hT hr
    rw [jmGo] at hr
    have hz2 : (wI S 6 0 0 (nI i)).1 6 0 2 = 0 ∨ (wI S 6 0 0 (nI i)).1 6 0 2 = 1 := by rw [wI_o _ _ _ _ _ _ _ _ (by decide)]; exact hz
    have hT2 : ∀ j, j < 5 → (wI S 6 0 0 (nI i)).1 4 j 1 = nI (tk j) ∧ tk j ≤ 3 := fun j hj => by rw [wI_o _ _ _ _ _ _ _ _ (fun z => absurd z.1 (by decide))]; exact hT j hj
    have hlt : ¬ S.1 4 q 5 ≤ nI i → i < 48 := fun h => by
      have h2 := Int32.lt_of_lt_of_le (Int32.not_le.mp h) h48
      rw [show (48 : Int32) = nI 48 from rfl, nI_ltI (by omega) (by omega)] at h2
      exact h2
    have e4 : ∀ d, (jopS (wI S 6 0 0 (nI i)) q tk).1 4 q d = S.1 4 q d := fun d => by rw [jopS_o _ _ _ _ _ _ (fun z => absurd z.1 (by decide)) (fun z => absurd z.1 (by decide)) (by decide), wI_o _ _ _ _ _ _ _ _ (fun z => absurd z.1 (by decide))]
    have hT3 : ∀ j, j < 5 → (jopS (wI S 6 0 0 (nI i)) q tk).1 4 j 1 = nI (tk j) ∧ tk j ≤ 3 := fun j hj => by rw [jopS_o _ _ _ _ _ _ (fun z => absurd z.1 (by decide)) (fun z => absurd z.1 (by decide)) (by decide)]; exact hT2 j hj
    refine ws_iload (i := 4) X d_Judge_judgeMethod_32 rfl ?_
    refine ws_aload_n (i := 3) X d_Judge_judgeMethod_34 rfl rfl ?_
    refine ws_getI X fl_Judge_33 (ob4 (by assumption)) d_Judge_judgeMethod_35 ?_
    refine ws_icmp_ge X d_Judge_judgeMethod_38 (fun h38 => ?_) (fun h38 => ?_)
    · refine ws_aload_n (i := 0) X d_Judge_judgeMethod_84 rfl rfl ?_
      refine ws_aload_n (i := 3) X d_Judge_judgeMethod_85 rfl rfl ?_
      refine ws_callV1 X (m_Judge_judgeMapPlaces _ _ (by assumption) (by assumption)) cv_Judge_judgeMapPlaces ml_Judge_53 ob6 rfl rfl (Nat.le_of_ble_eq_true rfl) ⟨Nat.le_of_ble_eq_true rfl, Nat.le_of_ble_eq_true rfl⟩ ⟨Nat.zero_le _, Nat.zero_le _⟩ d_Judge_judgeMethod_86 ?_
      simp only [eq_true h38, if_true, if_false] at hr; subst hr; exact Kr _ _ _ _ d_Judge_judgeMethod_89
    · have hi3 := hlt h38
      refine ws_aload_n (i := 0) X d_Judge_judgeMethod_41 rfl rfl ?_
      refine ws_iload (i := 4) X d_Judge_judgeMethod_42 rfl ?_
      refine ws_putI X fl_Judge_36 ob6 d_Judge_judgeMethod_44 ?_
      refine ws_aload_n (i := 0) X d_Judge_judgeMethod_47 rfl rfl ?_
      refine ws_aload_n (i := 1) X d_Judge_judgeMethod_48 rfl rfl ?_
      refine ws_aload_n (i := 3) X d_Judge_judgeMethod_49 rfl rfl ?_
      refine ws_callV1 X (m_Judge_judgeOp _ _ hq tk hz2 hT2) cv_Judge_judgeOp ml_Judge_39 ob6 rfl rfl (Nat.le_of_ble_eq_true rfl) ⟨Nat.le_of_ble_eq_true rfl, Nat.le_of_ble_eq_true rfl⟩ ⟨Nat.zero_le _, Nat.zero_le _⟩ d_Judge_judgeMethod_50 ?_
      refine ws_ist_5 X rfl d_Judge_judgeMethod_53 (by decide) ?_
      refine ws_iload (i := 5) X d_Judge_judgeMethod_55 rfl ?_
      refine ws_if_eq X d_Judge_judgeMethod_57 (fun h57 => ?_) (fun h57 => ?_)
      · refine ws_aload_n (i := 3) X d_Judge_judgeMethod_63 rfl rfl ?_
        refine ws_iload (i := 4) X d_Judge_judgeMethod_64 rfl ?_
        refine ws_callV1 X (m_Meth_codeAt _ _ (by assumption) _) cv_Meth_codeAt ml_Judge_43 (ob4 (by assumption)) rfl rfl (Nat.le_of_ble_eq_true rfl) ⟨Nat.le_of_ble_eq_true rfl, Nat.le_of_ble_eq_true rfl⟩ ⟨Nat.zero_le _, Nat.zero_le _⟩ d_Judge_judgeMethod_66 ?_
        refine ws_callS1 X (m_Ops_hasByte _ _) cs_Ops_hasByte ml_Judge_47 rfl rfl (Nat.le_of_ble_eq_true rfl) ⟨Nat.le_of_ble_eq_true rfl, Nat.le_of_ble_eq_true rfl⟩ ⟨Nat.zero_le _, Nat.zero_le _⟩ d_Judge_judgeMethod_69 ?_
        refine ws_ifB_eq X d_Judge_judgeMethod_72 (fun h72 => ?_) (fun h72 => ?_)
        · refine ws_iinc_4 X rfl d_Judge_judgeMethod_78 rfl (by decide) ?_
          refine ws_goto X d_Judge_judgeMethod_81 ?_
          simp only [eq_false h38, eq_true h57, h72, if_true, if_false, Bool.false_eq_true] at hr; first | (rw [nI_inc, nI_inc]; exact ih (i + 2) _ _ (by omega) (by omega) (by rw [e4]; exact h48) (by rw [e4]; exact h8) (jopS_z _ _ _ hz2) hT3 hr) | (rw [nI_inc]; exact ih (i + 1) _ _ (by omega) (by omega) (by rw [e4]; exact h48) (by rw [e4]; exact h8) (jopS_z _ _ _ hz2) hT3 hr)
        · refine ws_iinc_4 X rfl d_Judge_judgeMethod_75 rfl (by decide) ?_
          refine ws_iinc_4 X rfl d_Judge_judgeMethod_78 rfl (by decide) ?_
          refine ws_goto X d_Judge_judgeMethod_81 ?_
          simp only [eq_false h38, eq_true h57, h72, if_true, if_false, Bool.false_eq_true] at hr; first | (rw [nI_inc, nI_inc]; exact ih (i + 2) _ _ (by omega) (by omega) (by rw [e4]; exact h48) (by rw [e4]; exact h8) (jopS_z _ _ _ hz2) hT3 hr) | (rw [nI_inc]; exact ih (i + 1) _ _ (by omega) (by omega) (by rw [e4]; exact h48) (by rw [e4]; exact h8) (jopS_z _ _ _ hz2) hT3 hr)
      · refine ws_iload (i := 5) X d_Judge_judgeMethod_60 rfl ?_
        simp only [eq_false h38, eq_false h57, if_true, if_false] at hr; subst hr; exact Kr _ _ _ _ d_Judge_judgeMethod_62
end L7
/-- the start of a METHOD's judgement -/
def jm0 (S : MS) (q : Nat) : MS := wI (wI (clrJ S q 48) 6 0 1 (S.1 4 q 8)) 6 0 2 1
theorem clrJ_o (S : MS) (q n a b d : Nat) (h : a ≠ 17) : (clrJ S q n).1 a b d = S.1 a b d := if_neg (fun z => h z.1)
theorem m_Judge_judgeMethod (S : MS) (m : Int32) (tk : Nat → Nat) (hok : okG S m = true) (h48 : S.1 4 m.toNatClampNeg 5 ≤ 48) (h8 : S.1 4 m.toNatClampNeg 6 ≤ 8) (hT : ∀ j, j < 5 → S.1 4 j 1 = nI (tk j) ∧ tk j ≤ 3) : MetE y_Judge_judgeMethod c_Judge_judgeMethod 6 ((some .int)) 5 116 [.inr (6, 0), .inr (2, 0), .inl (.int m)] S (some (.inl (.int (jmGo m.toNatClampNeg tk 50 0 (jm0 S m.toNatClampNeg)).1))) ((jmGo m.toNatClampNeg tk 50 0 (jm0 S m.toNatClampNeg)).2) := by
  refine MetS.of (lv0 := [some (.inr (6, 0)), some (.inr (2, 0)), some (.inl (.int m)), none, none, none]) pn_Judge rfl (Nat.le_of_ble_eq_true rfl) (fun p0 l0 e0 s0 m0 args below meth c0 G X => ?_)
  have hq := okG_lt hok
  have e8 : (clrJ S m.toNatClampNeg 48).1 4 m.toNatClampNeg 8 = S.1 4 m.toNatClampNeg 8 := clrJ_o _ _ _ _ _ _ (by decide)
  have ej : ∀ j d, (jm0 S m.toNatClampNeg).1 4 j d = S.1 4 j d := fun j d => by rw [jm0, wI_o _ _ _ _ _ _ _ _ (fun z => absurd z.1 (by decide)), wI_o _ _ _ _ _ _ _ _ (fun z => absurd z.1 (by decide)), clrJ_o _ _ _ _ _ _ (by decide)]
  refine ws_aload_n (i := 1) X d_Judge_judgeMethod_0 rfl rfl ?_
  refine ws_iload_n (i := 2) X d_Judge_judgeMethod_1 rfl rfl ?_
  refine ws_callV1 X (m_Prog_methodAt_y _ _ hok) cv_Prog_methodAt ml_Judge_9 ob2 rfl rfl (Nat.le_of_ble_eq_true rfl) ⟨Nat.le_of_ble_eq_true rfl, Nat.le_of_ble_eq_true rfl⟩ ⟨Nat.zero_le _, Nat.zero_le _⟩ d_Judge_judgeMethod_2 ?_
  refine ws_astn_3 X rfl d_Judge_judgeMethod_5 (by decide) ?_
  refine ws_aload_n (i := 3) X d_Judge_judgeMethod_6 rfl rfl ?_
  refine ws_ifnonnull_r X d_Judge_judgeMethod_7 ?_
  refine ws_aload_n (i := 3) X d_Judge_judgeMethod_12 rfl rfl ?_
  refine ws_callV0 X (m_Meth_forgetJudgement _ _ (by assumption)) cv_Meth_forgetJudgement ml_Judge_15 (ob4 (by assumption)) rfl rfl (Nat.le_of_ble_eq_true rfl) ⟨Nat.le_of_ble_eq_true rfl, Nat.le_of_ble_eq_true rfl⟩ ⟨Nat.zero_le _, Nat.zero_le _⟩ d_Judge_judgeMethod_13 ?_
  refine ws_aload_n (i := 0) X d_Judge_judgeMethod_16 rfl rfl ?_
  refine ws_aload_n (i := 3) X d_Judge_judgeMethod_17 rfl rfl ?_
  refine ws_getI X fl_Judge_20 (ob4 (by assumption)) d_Judge_judgeMethod_18 ?_
  rw [e8]
  refine ws_putI X fl_Judge_24 ob6 d_Judge_judgeMethod_21 ?_
  refine ws_aload_n (i := 0) X d_Judge_judgeMethod_24 rfl rfl ?_
  refine ws_iconst (v := 1) X d_Judge_judgeMethod_25 rfl ?_
  refine ws_putZ X (⟨rfl, rfl⟩) fl_Judge_29 ob6 d_Judge_judgeMethod_26 ?_
  refine ws_iconst (v := 0) X d_Judge_judgeMethod_29 rfl ?_
  refine ws_ist_4 X rfl d_Judge_judgeMethod_30 (by decide) ?_
  exact l_jm X hq (fun j a5 pc nx d => ws_iret X d ⟨rfl, rfl⟩) 50 0 (jm0 S m.toNatClampNeg) none (by omega) (by omega) (by rw [ej]; exact h48) (by rw [ej]; exact h8) (Or.inr (wI_rd ..)) (fun j hj => by rw [ej]; exact hT j hj) rfl


