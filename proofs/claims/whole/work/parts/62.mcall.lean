/-! the model's machine: call -/
def mF (S : MS) : Nat := (S.1 8 0 36 - 1).toNatClampNeg
def mQ (S : MS) : Nat := (S.1 50 0 (mF S)).toNatClampNeg
def mPl (S : MS) : Nat := (S.1 51 0 (mF S)).toNatClampNeg
def mDp (S : MS) : Nat := (S.1 52 0 (mF S)).toNatClampNeg
def mOp (S : MS) : Int32 := S.1 37 0 (48 * mQ S + mPl S)
def mAg (S : MS) : Nat := if mHas (mOp S) = true then (S.1 37 0 (48 * mQ S + mPl S + 1)).toNatClampNeg else 0
def mStp (S : MS) : MS := mStpS S (mF S) (mQ S) (mPl S) (mDp S) (mOp S) (mAg S)
def StpPre (S : MS) : Prop := ∃ (F q p dd g : Nat) (o : Int32), S.1 8 0 36 = nI (F + 1) ∧ F < 8 ∧ S.1 52 0 F = nI dd ∧ dd ≤ 6 ∧ S.1 50 0 F = nI q ∧ q < 5 ∧ S.1 51 0 F = nI p ∧ p < 48 ∧ S.1 37 0 (48 * q + p) = o ∧ g < 256 ∧ (mHas o = true → p + 1 < 48 ∧ S.1 37 0 (48 * q + p + 1) = nI g) ∧ (mHas o = false → g = 0) ∧ StpOk S F dd o g
theorem mStp_eq {S : MS} {F q p dd g : Nat} {o : Int32} (hF : S.1 8 0 36 = nI (F + 1)) (hF8 : F < 8) (hD : S.1 52 0 F = nI dd) (hd : dd ≤ 6) (hM : S.1 50 0 F = nI q) (hq : q < 5) (hP : S.1 51 0 F = nI p) (hp : p < 48) (hO : S.1 37 0 (48 * q + p) = o) (hg : g < 256) (hG1 : mHas o = true → p + 1 < 48 ∧ S.1 37 0 (48 * q + p + 1) = nI g) (hG0 : mHas o = false → g = 0) : mStp S = mStpS S F q p dd o g := by
  have e1 : mF S = F := by rw [mF, hF, nI_m1, nI_c (by omega)]
  have e2 : mQ S = q := by rw [mQ, e1, hM, nI_c (by omega)]
  have e3 : mPl S = p := by rw [mPl, e1, hP, nI_c (by omega)]
  have e4 : mDp S = dd := by rw [mDp, e1, hD, nI_c (by omega)]
  have e5 : mOp S = o := by rw [mOp, e2, e3, hO]
  have e6 : mAg S = g := by
    unfold mAg
    rw [e5, e2, e3]
    cases hb : mHas o with
    | true => rw [if_pos rfl, (hG1 hb).2, nI_c (by omega)]
    | false => rw [hG0 hb]; rfl
  rw [mStp, e1, e2, e3, e4, e5, e6]
theorem m_step1 (S : MS) (h : StpPre S) : MetE y_M_step c_M_step 7 none 5 126 [.inr (8, 0)] S none (mStp S) := by
  obtain ⟨F, q, p, dd, g, o, h1, h2, h3, h4, h5, h6, h7, h8, h9, h10, h11, h12, h13⟩ := h
  rw [mStp_eq h1 h2 h3 h4 h5 h6 h7 h8 h9 h10 h11 h12]
  exact m_M_step S F q p dd g o h1 h2 h3 h4 h5 h6 h7 h8 h9 h10 h11 h12 h13
/-- slots of the model that a STEP leaves -/
def N8 (d : Nat) : Prop := d ≠ 36 ∧ d ≠ 44 ∧ d ≠ 47 ∧ d ≠ 48
theorem mPushS_o (S : MS) (i : Int32) (v : UInt64) (F dd b c d : Nat) (h1 : b ≠ 52) (h2 : b ≠ 53) : (mPushS S i v F dd).1 b c d = S.1 b c d := by
  rw [mPushS, wI_o _ _ _ _ _ _ _ _ (fun z => h1 z.1), wD_1, wI_o _ _ _ _ _ _ _ _ (fun z => h2 z.1)]
theorem mFailS_o (S : MS) (w : Int32) (F b c d : Nat) (h1 : ¬ (b = 8 ∧ c = 0 ∧ d = 44)) (h2 : ¬ (b = 8 ∧ c = 0 ∧ d = 47)) : (mFailS S w F).1 b c d = S.1 b c d := by
  rw [mFailS, wI_o _ _ _ _ _ _ _ _ h2, wI_o _ _ _ _ _ _ _ _ h1]
theorem clGo_o (F a b c d : Nat) (h : b ≠ 53) : ∀ (n i : Nat) (S : MS), (clGo F a n i S).1 b c d = S.1 b c d
  | 0, _, _ => rfl
  | n + 1, i, S => by rw [clGo, clGo_o F a b c d h n, wD_1, wI_o _ _ _ _ _ _ _ _ (fun z => h z.1)]
/-- all that a STEP leaves -/
def NS (b d : Nat) : Prop := b ≠ 50 ∧ b ≠ 51 ∧ b ≠ 52 ∧ b ≠ 53 ∧ (b = 8 → N8 d)
theorem mPushS_n (S : MS) (i : Int32) (v : UInt64) (F dd : Nat) {b c d : Nat} (h : NS b d) : (mPushS S i v F dd).1 b c d = S.1 b c d := mPushS_o _ _ _ _ _ _ _ _ h.2.2.1 h.2.2.2.1
theorem mFailS_n (S : MS) (w : Int32) (F : Nat) {b c d : Nat} (h : NS b d) : (mFailS S w F).1 b c d = S.1 b c d := mFailS_o _ _ _ _ _ _ (fun z => (h.2.2.2.2 z.1).2.1 z.2.2) (fun z => (h.2.2.2.2 z.1).2.2.1 z.2.2)
theorem mPopS_n (S : MS) (F dd : Nat) {b c d : Nat} (h : NS b d) : (mPopS S F dd).1 b c d = S.1 b c d := mPop_o _ _ _ _ _ _ h.2.2.1
theorem mGv1_n (S : MS) (F dd : Nat) {b c d : Nat} (h : NS b d) : (mGv1 S F dd).1 b c d = S.1 b c d := by
  rw [mGv1, wI_o _ _ _ _ _ _ _ _ (fun z => (h.2.2.2.2 z.1).1 z.2.2), mPopS_n _ _ _ h]
theorem mEnS_n (S : MS) (q : Int32) (F : Nat) {b c d : Nat} (h : NS b d) : (mEnS S q F).1 b c d = S.1 b c d := mEnS_o _ _ _ _ _ _ (fun z => (h.2.2.2.2 z.1).1 z.2.2) (fun z => (h.2.2.2.2 z.1).2.2.2 z.2.2) h.1 h.2.1 h.2.2.1 h.2.2.2.1
theorem mJIS_n (S : MS) (F dd : Nat) (o : Int32) {b c d : Nat} (h : NS b d) : (mJIS S F dd o).1 b c d = S.1 b c d := by
  unfold mJIS mJI
  (repeat' split) <;> first | rw [mPushS_n _ _ _ _ _ h, mPopS_n _ _ _ h] | rw [mFailS_n _ _ _ h, mPopS_n _ _ _ h]
theorem mJDS_n (S : MS) (F dd : Nat) (o : Int32) {b c d : Nat} (h : NS b d) : (mJDS S F dd o).1 b c d = S.1 b c d := by
  unfold mJDS mJD
  (repeat' split) <;> rw [mPushS_n _ _ _ _ _ h, mPopS_n _ _ _ h]
theorem mTrnS_n (S : MS) (F dd : Nat) (o : Int32) (g : Nat) {b c d : Nat} (h : NS b d) : (mTrnS S F dd o g).1 b c d = S.1 b c d := by
  unfold mTrnS
  (repeat' split) <;> first | rw [mPushS_n _ _ _ _ _ h, mPopS_n _ _ _ h] | rw [mFailS_n _ _ _ h, mPopS_n _ _ _ h]
theorem mStoS_n (S : MS) (F dd g : Nat) {b c d : Nat} (h : NS b d) : (mStoS S F dd g).1 b c d = S.1 b c d := by
  rw [mStoS, wD_1, wI_o _ _ _ _ _ _ _ _ (fun z => h.2.2.2.1 z.1), mPopS_n _ _ _ h]
theorem mMovS_n (S : MS) (F dd : Nat) (o : Int32) (g : Nat) {b c d : Nat} (h : NS b d) : (mMovS S F dd o g).1 b c d = S.1 b c d := by
  unfold mMovS
  (repeat' split) <;> first | rw [mPushS_n _ _ _ _ _ h] | rw [mStoS_n _ _ _ _ h] | rw [mPopS_n _ _ _ h] | rfl
theorem mSt1_n (S : MS) (F dd : Nat) (o : Int32) (g : Nat) {b c d : Nat} (h : NS b d) : (mSt1 S F dd o g).1 b c d = S.1 b c d := by
  unfold mSt1
  (repeat' split) <;> first | rfl | rw [mPopS_n _ _ _ h] | rw [mJIS_n _ _ _ _ h] | rw [mJDS_n _ _ _ _ h] | rw [mTrnS_n _ _ _ _ _ h] | rw [mMovS_n _ _ _ _ _ h]
theorem mStpS_n (S : MS) (F q p dd : Nat) (o : Int32) (g : Nat) {b c d : Nat} (h : NS b d) : (mStpS S F q p dd o g).1 b c d = S.1 b c d := by
  unfold mStpS
  split
  · split
    · exact mFailS_n _ _ _ h
    · rw [mClS, clGo_o _ _ _ _ _ h.2.2.2.1, mEnS_n _ _ _ h, mCl0, wI_o _ _ _ _ _ _ _ _ (fun z => h.2.2.1 z.1), wI_o _ _ _ _ _ _ _ _ (fun z => h.2.1 z.1)]
  · split
    · split
      · rw [mGv0, wL_1, mGv1_n _ _ _ h]
      · rw [mGvN, mPushS_n _ _ _ _ _ h, mGv1_n _ _ _ h]
    · unfold mSt2
      split
      · rw [wI_o _ _ _ _ _ _ _ _ (fun z => h.2.1 z.1), mSt1_n _ _ _ _ _ h]
      · exact mSt1_n _ _ _ _ _ h
theorem mStp_n (S : MS) {b c d : Nat} (h : NS b d) : (mStp S).1 b c d = S.1 b c d := mStpS_n _ _ _ _ _ _ _ h
def mArgB (a b c : Int64) (l : Nat) : Int64 := if nI l = 0 then a else if nI l = 1 then b else c
def gvGo (q : Nat) (a b c : Int64) : Nat → Nat → MS → MS
  | 0, _, S => S
  | n + 1, l, S => gvGo q a b c n (l + 1) (mGiveS S l (S.1 32 0 (3 * q + l)) (mArgB a b c l))
theorem mGiveS_o (S : MS) (l : Nat) (kd : Int32) (b : Int64) (u c d : Nat) (h : u ≠ 53) : (mGiveS S l kd b).1 u c d = S.1 u c d := by
  unfold mGiveS
  split
  · exact wI_o _ _ _ _ _ _ _ _ (fun z => h z.1)
  · rfl
theorem gvGo_o (q : Nat) (a b c : Int64) (u v d : Nat) (h : u ≠ 53) : ∀ (n i : Nat) (S : MS), (gvGo q a b c n i S).1 u v d = S.1 u v d
  | 0, _, _ => rfl
  | n + 1, i, S => by rw [gvGo, gvGo_o q a b c u v d h n, mGiveS_o _ _ _ _ _ _ _ h]
def mInc (S : MS) : MS := wI S 8 0 45 (S.1 8 0 45 + 1)
def mrnGo : Nat → MS → MS
  | 0, S => S
  | n + 1, S => if S.1 8 0 36 ≤ 0 then S else if S.1 8 0 44 = 0 then mrnGo n (mStp (mInc S)) else S
def mRunEnd (S : MS) : MS := if S.1 8 0 36 ≤ 0 then S else if S.1 8 0 44 = 0 then mFailS S 3 (mF S) else S
section L52
variable {p : Program} {l : Launch} {e0 : Env} {s : State} {m0 : MethodId} {args : Array Value} {below : List Frame} {meth : Method} {c0 : Code} {G : GG} {A : Nat → Prop} {Q : State → Prop}
theorem l_gv (X : CX p s m0 args meth c0 G A c_M_call y_M_call.cls 10 ((some .int))) {q t : Nat} {a b c : Int64} {k : Int32} (hq : q < 5) (ht : t ≤ 3) : ∀ (n i : Nat) (S : MS), S.1 31 0 q = nI t → i + n = t → (∀ j : Int32, WS p l e0 (rmS 6 152) s m0 args below meth c0 G A 10 0 0 Q 153 [some (.inr (8, 0)), some (.inl (.int (nI q))), some (.inl (.long a)), none, some (.inl (.long b)), none, some (.inl (.long c)), none, some (.inl (.int k)), some (.inl (.int j))] [] (gvGo q a b c n i S)) → WS p l e0 (rmS 6 152) s m0 args below meth c0 G A 10 0 0 Q 97 [some (.inr (8, 0)), some (.inl (.int (nI q))), some (.inl (.long a)), none, some (.inl (.long b)), none, some (.inl (.long c)), none, some (.inl (.int k)), some (.inl (.int (nI i)))] [] (S) := by
  intro n
  have hcq := nI_c (i := q) (by omega)
  have hinq : vp_in (nI q) 5 := vp_in_nI hq (by omega)
  induction n with
  | zero =>
    intro i S hT hi' K
    have hh : S.1 31 0 q ≤ nI i := by rw [hT, nI_leI (by omega) (by omega)]; omega
    refine ws_iload (i := 9) X d_M_call_97 rfl ?_
    refine ws_aload_n (i := 0) X d_M_call_99 rfl rfl ?_
    refine ws_getR X fl_M_33 ob8 d_M_call_100 ?_
    refine ws_iload_n (i := 1) X d_M_call_103 rfl rfl ?_
    refine ws_iald X ak31 ob31 (hinq) d_M_call_104 ?_
    rw [hcq]
    refine ws_icmp_ge X d_M_call_105 (fun h105 => ?_) (fun h105 => ?_)
    · exact K _
    · exact absurd hh h105
  | succ n ih =>
    intro i S hT hi' K
    have hh : ¬ S.1 31 0 q ≤ nI i := by rw [hT, nI_leI (by omega) (by omega)]; omega
    have hx : (3 : Int32) * nI q + nI i = nI (3 * q + i) := by rw [show (3 : Int32) = nI 3 from rfl, ixN]
    have hin : vp_in (nI (3 * q + i)) 15 := vp_in_nI (by omega) (by omega)
    have hc := nI_c (i := 3 * q + i) (by omega)
    rw [gvGo] at K
    refine ws_iload (i := 9) X d_M_call_97 rfl ?_
    refine ws_aload_n (i := 0) X d_M_call_99 rfl rfl ?_
    refine ws_getR X fl_M_33 ob8 d_M_call_100 ?_
    refine ws_iload_n (i := 1) X d_M_call_103 rfl rfl ?_
    refine ws_iald X ak31 ob31 (hinq) d_M_call_104 ?_
    rw [hcq]
    refine ws_icmp_ge X d_M_call_105 (fun h105 => ?_) (fun h105 => ?_)
    · exact absurd h105 hh
    · refine ws_aload_n (i := 0) X d_M_call_108 rfl rfl ?_
      refine ws_iload (i := 9) X d_M_call_109 rfl ?_
      refine ws_aload_n (i := 0) X d_M_call_111 rfl rfl ?_
      refine ws_getR X fl_M_36 ob8 d_M_call_112 ?_
      refine ws_iconst (v := 3) X d_M_call_115 rfl ?_
      refine ws_iload_n (i := 1) X d_M_call_116 rfl rfl ?_
      refine ws_imul X d_M_call_117 ?_
      refine ws_iload (i := 9) X d_M_call_118 rfl ?_
      refine ws_iadd X d_M_call_120 ?_
      rw [hx]
      refine ws_iald X ak32 ob32 (hin) d_M_call_121 ?_
      rw [hc]
      refine ws_iload (i := 9) X d_M_call_122 rfl ?_
      refine ws_if_ne X d_M_call_124 (fun h124 => ?_) (fun h124 => ?_)
      · refine ws_iload (i := 9) X d_M_call_131 rfl ?_
        refine ws_iconst (v := 1) X d_M_call_133 rfl ?_
        refine ws_icmp_ne X d_M_call_134 (fun h134 => ?_) (fun h134 => ?_)
        · refine ws_lload (i := 6) X d_M_call_142 rfl ?_
          refine ws_callV0 X (m_M_give _ i _ _ (by omega)) cv_M_give ml_M_271 ob8 rfl rfl (Nat.le_of_ble_eq_true rfl) ⟨Nat.le_of_ble_eq_true rfl, Nat.le_of_ble_eq_true rfl⟩ ⟨Nat.zero_le _, Nat.zero_le _⟩ d_M_call_144 ?_
          refine ws_iinc_9 X rfl d_M_call_147 rfl (by decide) ?_
          refine ws_goto X d_M_call_150 ?_
          rw [nI_inc]; simp only [mArgB, eq_false h105, eq_false h124, eq_false h134, if_true, if_false] at K; exact ih (i + 1) _ ((mGiveS_o _ _ _ _ _ _ _ (by decide)).trans hT) (by omega) K
        · refine ws_lload (i := 4) X d_M_call_137 rfl ?_
          refine ws_goto X d_M_call_139 ?_
          refine ws_callV0 X (m_M_give _ i _ _ (by omega)) cv_M_give ml_M_271 ob8 rfl rfl (Nat.le_of_ble_eq_true rfl) ⟨Nat.le_of_ble_eq_true rfl, Nat.le_of_ble_eq_true rfl⟩ ⟨Nat.zero_le _, Nat.zero_le _⟩ d_M_call_144 ?_
          refine ws_iinc_9 X rfl d_M_call_147 rfl (by decide) ?_
          refine ws_goto X d_M_call_150 ?_
          rw [nI_inc]; simp only [mArgB, eq_false h105, eq_false h124, eq_true h134, if_true, if_false] at K; exact ih (i + 1) _ ((mGiveS_o _ _ _ _ _ _ _ (by decide)).trans hT) (by omega) K
      · refine ws_lload_n (i := 2) X d_M_call_127 rfl rfl ?_
        refine ws_goto X d_M_call_128 ?_
        refine ws_callV0 X (m_M_give _ i _ _ (by omega)) cv_M_give ml_M_271 ob8 rfl rfl (Nat.le_of_ble_eq_true rfl) ⟨Nat.le_of_ble_eq_true rfl, Nat.le_of_ble_eq_true rfl⟩ ⟨Nat.zero_le _, Nat.zero_le _⟩ d_M_call_144 ?_
        refine ws_iinc_9 X rfl d_M_call_147 rfl (by decide) ?_
        refine ws_goto X d_M_call_150 ?_
        rw [nI_inc]; simp only [mArgB, eq_false h105, eq_true h124, if_true, if_false] at K; exact ih (i + 1) _ ((mGiveS_o _ _ _ _ _ _ _ (by decide)).trans hT) (by omega) K
theorem l_mrn (X : CX p s m0 args meth c0 G A c_M_call y_M_call.cls 10 ((some .int))) {q k : Nat} {x9 : Int32} {a b c : Int64} {I : MS → Prop} (hI : ∀ S, I S → ¬ S.1 8 0 36 ≤ 0 → S.1 8 0 44 = 0 → StpPre (mInc S) ∧ I (mStp (mInc S))) (hIF : ∀ S, I S → ¬ S.1 8 0 36 ≤ 0 → ∃ F, F < 8 ∧ S.1 8 0 36 = nI (F + 1)) (hk : k ≤ 1000) : ∀ (n s1 : Nat) (S : MS), S.1 8 0 45 = nI s1 → s1 + n = k → I S → WS p l e0 (rmS 6 152) s m0 args below meth c0 G A 10 0 0 Q 201 [some (.inr (8, 0)), some (.inl (.int (nI q))), some (.inl (.long a)), none, some (.inl (.long b)), none, some (.inl (.long c)), none, some (.inl (.int (nI k))), some (.inl (.int x9))] [] (mRunEnd (mrnGo n S)) → WS p l e0 (rmS 6 152) s m0 args below meth c0 G A 10 0 0 Q 153 [some (.inr (8, 0)), some (.inl (.int (nI q))), some (.inl (.long a)), none, some (.inl (.long b)), none, some (.inl (.long c)), none, some (.inl (.int (nI k))), some (.inl (.int x9))] [] (S) := by
  intro n
  induction n with
  | zero =>
    intro s1 S hs hi' hS K
    have hh : S.1 8 0 45 = nI k := by rw [hs]; congr 1
    rw [mrnGo] at K
    refine ws_aload_n (i := 0) X d_M_call_153 rfl rfl ?_
    refine ws_getI X fl_M_243 ob8 d_M_call_154 ?_
    refine ws_if_le X d_M_call_157 (fun h157 => ?_) (fun h157 => ?_)
    · simp only [mRunEnd, eq_true h157, if_true, if_false] at K; exact K
    · refine ws_aload_n (i := 0) X d_M_call_160 rfl rfl ?_
      refine ws_getI X fl_M_249 ob8 d_M_call_161 ?_
      refine ws_if_ne X d_M_call_164 (fun h164 => ?_) (fun h164 => ?_)
      · simp only [mRunEnd, eq_false h157, eq_false h164, if_true, if_false] at K; exact K
      · refine ws_aload_n (i := 0) X d_M_call_167 rfl rfl ?_
        refine ws_getI X fl_M_262 ob8 d_M_call_168 ?_
        refine ws_iload (i := 8) X d_M_call_171 rfl ?_
        refine ws_icmp_ne X d_M_call_173 (fun h173 => ?_) (fun h173 => ?_)
        · exact absurd hh h173
        · refine ws_aload_n (i := 0) X d_M_call_176 rfl rfl ?_
          obtain ⟨F, hF8, hF⟩ := hIF S hS h157
          have e1 : mF S = F := by rw [mF, hF, nI_m1, nI_c (by omega)]
          have g157 := h157
          have g164 := h164
          refine ws_iconst (v := 3) X d_M_call_177 rfl ?_
          refine ws_callV0 X (m_M_fails S 3 F hF hF8) cv_M_fails ml_M_275 ob8 rfl rfl (Nat.le_of_ble_eq_true rfl) ⟨Nat.le_of_ble_eq_true rfl, Nat.le_of_ble_eq_true rfl⟩ ⟨Nat.zero_le _, Nat.zero_le _⟩ d_M_call_178 ?_
          refine ws_goto X d_M_call_181 ?_
          skip
          have f1 : (mFailS S 3 F).1 8 0 36 = nI (F + 1) := (mFailS_o _ _ _ _ _ _ (by decide) (by decide)).trans hF
          have f2 : (mFailS S 3 F).1 8 0 44 = 3 := by rw [mFailS, wI_o _ _ _ _ _ _ _ _ (by decide), wI_rd]
          have f3 : ¬ (mFailS S 3 F).1 8 0 36 ≤ 0 := by rw [f1]; exact nI_nle (by omega) (by omega)
          refine ws_aload_n (i := 0) X d_M_call_153 rfl rfl ?_
          refine ws_getI X fl_M_243 ob8 d_M_call_154 ?_
          refine ws_if_le X d_M_call_157 (fun h157 => ?_) (fun h157 => ?_)
          · exact absurd h157 f3
          · refine ws_aload_n (i := 0) X d_M_call_160 rfl rfl ?_
            refine ws_getI X fl_M_249 ob8 d_M_call_161 ?_
            refine ws_if_ne X d_M_call_164 (fun h164 => ?_) (fun h164 => ?_)
            · rw [mRunEnd, if_neg g157, if_pos g164, e1] at K; exact K
            · exact absurd h164 (by rw [f2]; decide)
  | succ n ih =>
    intro s1 S hs hi' hS K
    have hh : ¬ S.1 8 0 45 = nI k := by rw [hs, nI_eq (by omega) (by omega)]; omega
    rw [mrnGo] at K
    refine ws_aload_n (i := 0) X d_M_call_153 rfl rfl ?_
    refine ws_getI X fl_M_243 ob8 d_M_call_154 ?_
    refine ws_if_le X d_M_call_157 (fun h157 => ?_) (fun h157 => ?_)
    · simp only [mRunEnd, eq_true h157, if_true, if_false] at K; exact K
    · refine ws_aload_n (i := 0) X d_M_call_160 rfl rfl ?_
      refine ws_getI X fl_M_249 ob8 d_M_call_161 ?_
      refine ws_if_ne X d_M_call_164 (fun h164 => ?_) (fun h164 => ?_)
      · simp only [mRunEnd, eq_false h157, eq_false h164, if_true, if_false] at K; exact K
      · refine ws_aload_n (i := 0) X d_M_call_167 rfl rfl ?_
        refine ws_getI X fl_M_262 ob8 d_M_call_168 ?_
        refine ws_iload (i := 8) X d_M_call_171 rfl ?_
        refine ws_icmp_ne X d_M_call_173 (fun h173 => ?_) (fun h173 => ?_)
        · have hp := hI S hS h157 h164
          refine ws_aload_n (i := 0) X d_M_call_184 rfl rfl ?_
          refine ws_dup X d_M_call_185 rfl ?_
          refine ws_getI X fl_M_262 ob8 d_M_call_186 ?_
          refine ws_iconst (v := 1) X d_M_call_189 rfl ?_
          refine ws_iadd X d_M_call_190 ?_
          refine ws_putI X fl_M_262 ob8 d_M_call_191 ?_
          refine WS_is (mInc S) rfl ?_
          refine ws_aload_n (i := 0) X d_M_call_194 rfl rfl ?_
          refine ws_callV0 X (m_step1 _ hp.1) cv_M_step ml_M_278 ob8 rfl rfl (Nat.le_of_ble_eq_true rfl) ⟨Nat.le_of_ble_eq_true rfl, Nat.le_of_ble_eq_true rfl⟩ ⟨Nat.zero_le _, Nat.zero_le _⟩ d_M_call_195 ?_
          refine ws_goto X d_M_call_198 ?_
          simp only [eq_false h157, eq_true h164, eq_false h173, if_true, if_false] at K; exact ih (s1 + 1) _ (by rw [mStp_n _ (b := 8) ⟨by decide, by decide, by decide, by decide, fun _ => ⟨by decide, by decide, by decide, by decide⟩⟩, mInc, wI_rd, hs, nI_1]) (by omega) hp.2 K
        · exact absurd h173 hh
end L52
def mCs0 (S : MS) (q : Nat) : MS := wI (wI (wI (wI (wI (wI (wL (wI (wI S 8 0 30 (S.1 8 0 30 + 1)) 8 0 42 1) 8 0 43 0) 8 0 44 0) 8 0 47 (-1)) 8 0 45 0) 8 0 46 (nI q)) 8 0 36 0) 8 0 48 0
def mCs1 (S : MS) (q t : Nat) (a b c : Int64) : MS := gvGo q a b c t 0 (mEnS (mCs0 S q) (nI q) 0)
def mCs2 (S : MS) (q t : Nat) (a b c : Int64) (k : Nat) : MS := mRunEnd (mrnGo k (mCs1 S q t a b c))
def mFel (S : MS) (q : Nat) : MS := if S.1 8 0 44 = 1 then wI S 47 0 q (S.1 47 0 q + 1) else if S.1 8 0 44 = 2 then wI S 47 0 q (S.1 47 0 q + 1) else S
theorem mRunEnd_47 (S : MS) (d : Nat) : (mRunEnd S).1 47 0 d = S.1 47 0 d := by
  unfold mRunEnd
  split
  · rfl
  · split
    · exact mFailS_o _ _ _ _ _ _ (fun z => absurd z.1 (by decide)) (fun z => absurd z.1 (by decide))
    · rfl
def mCalV (S : MS) (m : Int32) (a b c : Int64) (k : Int32) : Int32 := if mIn m 0 (S.1 8 0 9 - 1) = true then (if mIn k 1 1000 = true then (if S.1 47 0 m.toNatClampNeg = 3 then -103 else if (mFel (mCs2 S m.toNatClampNeg (S.1 31 0 m.toNatClampNeg).toNatClampNeg a b c k.toNatClampNeg) m.toNatClampNeg).1 8 0 44 = 0 then 1 else 0) else -102) else -101
def mCalS (S : MS) (m : Int32) (a b c : Int64) (k : Int32) : MS := if mIn m 0 (S.1 8 0 9 - 1) = true then (if mIn k 1 1000 = true then (if S.1 47 0 m.toNatClampNeg = 3 then S else mFel (mCs2 S m.toNatClampNeg (S.1 31 0 m.toNatClampNeg).toNatClampNeg a b c k.toNatClampNeg) m.toNatClampNeg) else S) else S
theorem m_M_call (S : MS) (m : Int32) (a b c : Int64) (k : Int32) (n : Nat) (I : MS → Prop) (hI : ∀ S, I S → ¬ S.1 8 0 36 ≤ 0 → S.1 8 0 44 = 0 → StpPre (mInc S) ∧ I (mStp (mInc S))) (hIF : ∀ S, I S → ¬ S.1 8 0 36 ≤ 0 → ∃ F, F < 8 ∧ S.1 8 0 36 = nI (F + 1)) (hK : S.1 8 0 9 = nI n) (hn : n ≤ 5) (hT : ∀ q, q < n → ∃ t, t ≤ 3 ∧ S.1 31 0 q = nI t) (hS : ∀ q t, q < n → S.1 31 0 q = nI t → t ≤ 3 → ¬ S.1 47 0 q = 3 → I (mCs1 S q t a b c)) : MetE y_M_call c_M_call 10 ((some .int)) 6 152 [.inr (8, 0), .inl (.int m), .inl (.long a), .inl (.long b), .inl (.long c), .inl (.int k)] S (some (.inl (.int (mCalV S m a b c k)))) (mCalS S m a b c k) := by
  refine MetS.of (lv0 := [some (.inr (8, 0)), some (.inl (.int m)), some (.inl (.long a)), none, some (.inl (.long b)), none, some (.inl (.long c)), none, some (.inl (.int k)), none]) pn_M rfl (Nat.le_of_ble_eq_true rfl) (fun p0 l0 e0 s0 m0 args below meth c0 G X => ?_)
  refine ws_aload_n (i := 0) X d_M_call_0 rfl rfl ?_
  refine ws_iload_n (i := 1) X d_M_call_1 rfl rfl ?_
  refine ws_callV1 X (m_M_isMethod _ _) cv_M_isMethod ml_M_230 ob8 rfl rfl (Nat.le_of_ble_eq_true rfl) ⟨Nat.le_of_ble_eq_true rfl, Nat.le_of_ble_eq_true rfl⟩ ⟨Nat.zero_le _, Nat.zero_le _⟩ d_M_call_2 ?_
  refine ws_ifB_ne X d_M_call_5 (fun h5 => ?_) (fun h5 => ?_)
  · have h5' := h5
    rw [hK] at h5'
    obtain ⟨q, hq, rfl⟩ := mIn_k (by omega) h5'
    have hcq := nI_c (i := q) (by omega)
    have hinq : vp_in (nI q) 5 := vp_in_nI (by omega) (by omega)
    obtain ⟨t, ht, hT1⟩ := hT q hq
    have hct : (S.1 31 0 q).toNatClampNeg = t := by rw [hT1, nI_c (by omega)]
    refine ws_iload (i := 8) X d_M_call_11 rfl ?_
    refine ws_iconst (v := 1) X d_M_call_13 rfl ?_
    refine ws_sipush (v := 1000) X d_M_call_14 rfl ?_
    refine ws_callS1 X (m_M_in _ _ _ _) cs_M_in ml_M_106 rfl rfl (Nat.le_of_ble_eq_true rfl) ⟨Nat.le_of_ble_eq_true rfl, Nat.le_of_ble_eq_true rfl⟩ ⟨Nat.zero_le _, Nat.zero_le _⟩ d_M_call_17 ?_
    refine ws_ifB_ne X d_M_call_20 (fun h20 => ?_) (fun h20 => ?_)
    · refine ws_aload_n (i := 0) X d_M_call_26 rfl rfl ?_
      refine ws_getR X fl_M_82 ob8 d_M_call_27 ?_
      refine ws_iload_n (i := 1) X d_M_call_30 rfl rfl ?_
      refine ws_iald X ak47 ob47 (hinq) d_M_call_31 ?_
      rw [hcq]
      refine ws_iconst (v := 3) X d_M_call_32 rfl ?_
      refine ws_icmp_ne X d_M_call_33 (fun h33 => ?_) (fun h33 => ?_)
      · have hk1 := h20
        simp only [mIn, Bool.and_eq_true, decide_eq_true_eq] at hk1
        obtain ⟨k, hk, rfl⟩ := nI_of2 (M := 1000) (n := 1000) rfl (fun z => hk1.1 (Int32.lt_trans z (by decide))) (Int32.not_lt.mp hk1.2)
        have hck := nI_c (i := k) (by omega)
        have e36 : (mCs0 S q).1 8 0 36 = nI 0 := (wI_o _ _ _ _ _ _ _ _ (by decide)).trans (wI_rd ..)
        have e31 : (mEnS (mCs0 S q) (nI q) 0).1 31 0 q = nI t := (mEnS_o _ _ _ _ _ _ (fun z => absurd z.1 (by decide)) (fun z => absurd z.1 (by decide)) (by decide) (by decide) (by decide) (by decide)).trans hT1
        have e45 : (mCs1 S q t a b c).1 8 0 45 = nI 0 := (gvGo_o _ _ _ _ _ _ _ (by decide) _ _ _).trans (mEnS_o _ _ _ _ _ _ (by decide) (by decide) (by decide) (by decide) (by decide) (by decide))
        refine ws_aload_n (i := 0) X d_M_call_39 rfl rfl ?_
        refine ws_dup X d_M_call_40 rfl ?_
        refine ws_getI X fl_M_168 ob8 d_M_call_41 ?_
        refine ws_iconst (v := 1) X d_M_call_44 rfl ?_
        refine ws_iadd X d_M_call_45 ?_
        refine ws_putI X fl_M_168 ob8 d_M_call_46 ?_
        refine ws_aload_n (i := 0) X d_M_call_49 rfl rfl ?_
        refine ws_iconst (v := 1) X d_M_call_50 rfl ?_
        refine ws_putZ X (⟨rfl, rfl⟩) fl_M_255 ob8 d_M_call_51 ?_
        refine ws_aload_n (i := 0) X d_M_call_54 rfl rfl ?_
        refine ws_lconst (v := 0) X d_M_call_55 rfl ?_
        refine ws_putL X fl_M_258 ob8 d_M_call_56 ?_
        refine ws_aload_n (i := 0) X d_M_call_59 rfl rfl ?_
        refine ws_iconst (v := 0) X d_M_call_60 rfl ?_
        refine ws_putI X fl_M_249 ob8 d_M_call_61 ?_
        refine ws_aload_n (i := 0) X d_M_call_64 rfl rfl ?_
        refine ws_iconst (v := (-1)) X d_M_call_65 rfl ?_
        refine ws_putI X fl_M_252 ob8 d_M_call_66 ?_
        refine ws_aload_n (i := 0) X d_M_call_69 rfl rfl ?_
        refine ws_iconst (v := 0) X d_M_call_70 rfl ?_
        refine ws_putI X fl_M_262 ob8 d_M_call_71 ?_
        refine ws_aload_n (i := 0) X d_M_call_74 rfl rfl ?_
        refine ws_iload_n (i := 1) X d_M_call_75 rfl rfl ?_
        refine ws_putI X fl_M_265 ob8 d_M_call_76 ?_
        refine ws_aload_n (i := 0) X d_M_call_79 rfl rfl ?_
        refine ws_iconst (v := 0) X d_M_call_80 rfl ?_
        refine ws_putI X fl_M_243 ob8 d_M_call_81 ?_
        refine ws_aload_n (i := 0) X d_M_call_84 rfl rfl ?_
        refine ws_iconst (v := 0) X d_M_call_85 rfl ?_
        refine ws_putI X fl_M_246 ob8 d_M_call_86 ?_
        refine WS_is (mCs0 S q) rfl ?_
        refine ws_aload_n (i := 0) X d_M_call_89 rfl rfl ?_
        refine ws_iload_n (i := 1) X d_M_call_90 rfl rfl ?_
        refine ws_callV0 X (m_M_enter _ _ 0 e36 (by decide)) cv_M_enter ml_M_268 ob8 rfl rfl (Nat.le_of_ble_eq_true rfl) ⟨Nat.le_of_ble_eq_true rfl, Nat.le_of_ble_eq_true rfl⟩ ⟨Nat.zero_le _, Nat.zero_le _⟩ d_M_call_91 ?_
        refine ws_iconst (v := 0) X d_M_call_94 rfl ?_
        refine ws_ist_9 X rfl d_M_call_95 (by decide) ?_
        refine l_gv X (by omega) ht t 0 _ e31 (by omega) (fun j => ?_)
        refine WS_is (mCs1 S q t a b c) rfl ?_
        refine l_mrn X hI hIF hk k 0 _ e45 (by omega) (hS q t hq hT1 ht h33) ?_
        refine WS_is (mCs2 S q t a b c k) rfl ?_
        have hV : mCalV S (nI q) a b c (nI k) = if (mFel (mCs2 S q t a b c k) q).1 8 0 44 = 0 then 1 else 0 := by rw [mCalV, if_pos h5, if_pos h20, hcq, if_neg h33, hct, hck]
        have hS2 : mCalS S (nI q) a b c (nI k) = mFel (mCs2 S q t a b c k) q := by rw [mCalS, if_pos h5, if_pos h20, hcq, if_neg h33, hct, hck]
        rw [hV, hS2]
        generalize mCs2 S q t a b c k = S2
        refine ws_aload_n (i := 0) X d_M_call_201 rfl rfl ?_
        refine ws_getI X fl_M_249 ob8 d_M_call_202 ?_
        refine ws_iconst (v := 1) X d_M_call_205 rfl ?_
        refine ws_icmp_eq X d_M_call_206 (fun h206 => ?_) (fun h206 => ?_)
        · refine ws_aload_n (i := 0) X d_M_call_217 rfl rfl ?_
          refine ws_getR X fl_M_82 ob8 d_M_call_218 ?_
          refine ws_iload_n (i := 1) X d_M_call_221 rfl rfl ?_
          refine ws_dup2_11 X d_M_call_222 rfl rfl ?_
          refine ws_iald X ak47 ob47 (hinq) d_M_call_223 ?_
          rw [hcq]
          refine ws_iconst (v := 1) X d_M_call_224 rfl ?_
          refine ws_iadd X d_M_call_225 ?_
          refine ws_iast X ak47 ob47 (hinq) d_M_call_226 ?_
          first | rw [hcq] | skip
          refine ws_aload_n (i := 0) X d_M_call_227 rfl rfl ?_
          refine ws_getI X fl_M_249 ob8 d_M_call_228 ?_
          refine ws_if_ne X d_M_call_231 (fun h231 => ?_) (fun h231 => ?_)
          · refine ws_iconst (v := 0) X d_M_call_238 rfl ?_
            refine ws_iret X d_M_call_239 ?_
            exact ⟨by simp [mFel, eq_true h206, eq_false h231], by simp [mFel, eq_true h206, eq_false h231]⟩
          · refine ws_iconst (v := 1) X d_M_call_234 rfl ?_
            refine ws_goto X d_M_call_235 ?_
            refine ws_iret X d_M_call_239 ?_
            exact ⟨by simp [mFel, eq_true h206, eq_true h231], by simp [mFel, eq_true h206, eq_true h231]⟩
        · refine ws_aload_n (i := 0) X d_M_call_209 rfl rfl ?_
          refine ws_getI X fl_M_249 ob8 d_M_call_210 ?_
          refine ws_iconst (v := 2) X d_M_call_213 rfl ?_
          refine ws_icmp_ne X d_M_call_214 (fun h214 => ?_) (fun h214 => ?_)
          · first | rw [hcq] | skip
            refine ws_aload_n (i := 0) X d_M_call_227 rfl rfl ?_
            refine ws_getI X fl_M_249 ob8 d_M_call_228 ?_
            refine ws_if_ne X d_M_call_231 (fun h231 => ?_) (fun h231 => ?_)
            · refine ws_iconst (v := 0) X d_M_call_238 rfl ?_
              refine ws_iret X d_M_call_239 ?_
              exact ⟨by simp [mFel, eq_false h206, eq_false h214, eq_false h231], by simp [mFel, eq_false h206, eq_false h214, eq_false h231]⟩
            · refine ws_iconst (v := 1) X d_M_call_234 rfl ?_
              refine ws_goto X d_M_call_235 ?_
              refine ws_iret X d_M_call_239 ?_
              exact ⟨by simp [mFel, eq_false h206, eq_false h214, eq_true h231], by simp [mFel, eq_false h206, eq_false h214, eq_true h231]⟩
          · refine ws_aload_n (i := 0) X d_M_call_217 rfl rfl ?_
            refine ws_getR X fl_M_82 ob8 d_M_call_218 ?_
            refine ws_iload_n (i := 1) X d_M_call_221 rfl rfl ?_
            refine ws_dup2_11 X d_M_call_222 rfl rfl ?_
            refine ws_iald X ak47 ob47 (hinq) d_M_call_223 ?_
            rw [hcq]
            refine ws_iconst (v := 1) X d_M_call_224 rfl ?_
            refine ws_iadd X d_M_call_225 ?_
            refine ws_iast X ak47 ob47 (hinq) d_M_call_226 ?_
            first | rw [hcq] | skip
            refine ws_aload_n (i := 0) X d_M_call_227 rfl rfl ?_
            refine ws_getI X fl_M_249 ob8 d_M_call_228 ?_
            refine ws_if_ne X d_M_call_231 (fun h231 => ?_) (fun h231 => ?_)
            · refine ws_iconst (v := 0) X d_M_call_238 rfl ?_
              refine ws_iret X d_M_call_239 ?_
              exact ⟨by simp [mFel, eq_false h206, eq_true h214, eq_false h231], by simp [mFel, eq_false h206, eq_true h214, eq_false h231]⟩
            · refine ws_iconst (v := 1) X d_M_call_234 rfl ?_
              refine ws_goto X d_M_call_235 ?_
              refine ws_iret X d_M_call_239 ?_
              exact ⟨by simp [mFel, eq_false h206, eq_true h214, eq_true h231], by simp [mFel, eq_false h206, eq_true h214, eq_true h231]⟩
      · refine ws_bipush (v := (-103)) X d_M_call_36 rfl ?_
        refine ws_iret X d_M_call_38 ?_
        exact ⟨by simp [mCalV, hcq, h5, h20, eq_true h33], by simp [mCalS, hcq, h5, h20, eq_true h33]⟩
    · refine ws_bipush (v := (-102)) X d_M_call_23 rfl ?_
      refine ws_iret X d_M_call_25 ?_
      exact ⟨by simp [mCalV, h5, h20], by simp [mCalS, h5, h20]⟩
  · refine ws_bipush (v := (-101)) X d_M_call_8 rfl ?_; refine ws_iret X d_M_call_10 ?_; exact ⟨by simp [mCalV, h5], by simp [mCalS, h5]⟩


