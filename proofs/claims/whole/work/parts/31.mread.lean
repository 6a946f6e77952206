/-! the model reads: pool and names -/
theorem wL_1 (S : MS) (k i j : Nat) (v : Int64) : (wL S k i j v).1 = S.1 := rfl
theorem MP_wL {S : MS} (k i j : Nat) (v : Int64) (h : MP S) : MP (wL S k i j v) := h.same (by rw [wL_1]) (by rw [wL_1]) (fun _ => by rw [wL_1])
theorem mTakeV_rng {S : MS} (h : MP S) : ∃ b, b < 256 ∧ mTakeV S = nI b := by
  unfold mTakeV
  by_cases h1 : S.1 8 0 28 = 0
  · rw [if_pos h1]
    by_cases h2 : S.1 8 0 31 = S.1 8 0 1
    · rw [if_pos h2]; exact ⟨0, by omega, rfl⟩
    · rw [if_neg h2]
      obtain ⟨p, n, e1, e2, e3, e4, e5⟩ := h
      have : p ≠ n := fun z => h2 (by rw [e1, e2, z])
      rw [e1, nI_c (by omega)]
      exact e5 p (by omega)
  · rw [if_neg h1]; exact ⟨0, by omega, rfl⟩
theorem mTknS_o (S : MS) (lo up w : Int32) (b c d : Nat) (h1 : ¬ (b = 8 ∧ c = 0 ∧ d = 28)) (h2 : ¬ (b = 8 ∧ c = 0 ∧ d = 29)) (h3 : ¬ (b = 8 ∧ c = 0 ∧ d = 31)) : (mTknS S lo up w).1 b c d = S.1 b c d := by
  unfold mTknS
  by_cases h : (mTakeS S).1 8 0 28 = 0
  · rw [if_pos h]
    by_cases h4 : mIn (mTakeV S) lo up = true
    · rw [if_pos h4, mTakeS_o _ _ _ _ h1 h2 h3]
    · rw [if_neg h4, mFaultS_o _ _ _ _ _ _ h1 h2, mTakeS_o _ _ _ _ h1 h2 h3]
  · rw [if_neg h, mTakeS_o _ _ _ _ h1 h2 h3]
theorem mTknS_MP {S : MS} (lo up w : Int32) (h : MP S) : MP (mTknS S lo up w) := by
  unfold mTknS
  by_cases h1 : (mTakeS S).1 8 0 28 = 0
  · rw [if_pos h1]
    by_cases h4 : mIn (mTakeV S) lo up = true
    · rw [if_pos h4]; exact mTakeS_MP h
    · rw [if_neg h4]; exact (mTakeS_MP h).same (mFaultS_o _ _ _ _ _ _ (by decide) (by decide)) (mFaultS_o _ _ _ _ _ _ (by decide) (by decide)) (fun j => mFaultS_o _ _ _ _ _ _ (fun z => absurd z.1 (by decide)) (fun z => absurd z.1 (by decide)))
  · rw [if_neg h1]; exact mTakeS_MP h
theorem mTknV_rng (S : MS) {lo M w : Int32} {n : Nat} (hM : M.toInt = n) (hlo : ¬ lo < 0) (hw : ¬ w = 0) : ∃ j : Nat, j ≤ n ∧ mTknV S lo M w = nI j := by
  unfold mTknV
  by_cases h : (mTknS S lo M w).1 8 0 28 = 0
  · rw [if_pos h]
    unfold mTknS at h
    by_cases h1 : (mTakeS S).1 8 0 28 = 0
    · rw [if_pos h1] at h
      by_cases h4 : mIn (mTakeV S) lo M = true
      · simp only [mIn, Bool.and_eq_true, decide_eq_true_eq] at h4
        exact nI_of2 hM (fun z => h4.1 (Int32.lt_of_lt_of_le z (Int32.not_lt.mp hlo))) (Int32.not_lt.mp h4.2)
      · rw [if_neg h4] at h
        unfold mFaultS at h
        rw [if_pos h1, wI_o _ _ _ _ _ _ _ _ (by decide), wI_rd] at h
        exact absurd h hw
    · rw [if_neg h1] at h; exact absurd h h1
  · rw [if_neg h]; exact ⟨0, Nat.zero_le _, rfl⟩
def mLongGo : Nat → Int64 → MS → Int64 × MS
  | 0, v, S => (v, S)
  | n + 1, v, S => mLongGo n (shl64 v 8 ||| (mTakeV S).toInt64) (mTakeS S)
theorem mLongGo_MP : ∀ (n : Nat) (v : Int64) (S : MS), MP S → MP (mLongGo n v S).2
  | 0, _, _, h => h
  | n + 1, _, _, h => mLongGo_MP n _ _ (mTakeS_MP h)
theorem mLongGo_o (b c d : Nat) (h1 : ¬ (b = 8 ∧ c = 0 ∧ d = 28)) (h2 : ¬ (b = 8 ∧ c = 0 ∧ d = 29)) (h3 : ¬ (b = 8 ∧ c = 0 ∧ d = 31)) : ∀ (n : Nat) (v : Int64) (S : MS), (mLongGo n v S).2.1 b c d = S.1 b c d
  | 0, _, _ => rfl
  | n + 1, v, S => by rw [mLongGo, mLongGo_o b c d h1 h2 h3 n, mTakeS_o _ _ _ _ h1 h2 h3]
section L31
variable {p : Program} {l : Launch} {e0 : Env} {s : State} {m0 : MethodId} {args : Array Value} {below : List Frame} {meth : Method} {c0 : Code} {G : GG} {A : Nat → Prop} {Q : State → Prop}
theorem l_mlong (X : CX p s m0 args meth c0 G A c_M_takeLong y_M_takeLong.cls 5 ((some .long))) {x : Int32} : ∀ (n i : Nat) (v : Int64) (S : MS), MP S → i + n = x.toNatClampNeg → (∀ j : Int32, WS p l e0 (rmS 2 42) s m0 args below meth c0 G A 5 0 0 Q 28 [some (.inr (8, 0)), some (.inl (.int x)), some (.inl (.long (mLongGo n v S).1)), none, some (.inl (.int j))] [] ((mLongGo n v S).2)) → WS p l e0 (rmS 2 42) s m0 args below meth c0 G A 5 0 0 Q 5 [some (.inr (8, 0)), some (.inl (.int x)), some (.inl (.long v)), none, some (.inl (.int (nI i)))] [] (S) := by
  intro n
  have hx := cl_lt x
  induction n with
  | zero =>
    intro i v S hP hi' K
    have hh : x ≤ nI i := by rw [le_cl x (by omega)]; omega
    refine ws_iload (i := 4) X d_M_takeLong_5 rfl ?_
    refine ws_iload_n (i := 1) X d_M_takeLong_7 rfl rfl ?_
    refine ws_icmp_ge X d_M_takeLong_8 (fun h8 => ?_) (fun h8 => ?_)
    · exact K _
    · exact absurd hh h8
  | succ n ih =>
    intro i v S hP hi' K
    have hh : ¬ x ≤ nI i := by rw [le_cl x (by omega)]; omega
    rw [mLongGo] at K
    refine ws_iload (i := 4) X d_M_takeLong_5 rfl ?_
    refine ws_iload_n (i := 1) X d_M_takeLong_7 rfl rfl ?_
    refine ws_icmp_ge X d_M_takeLong_8 (fun h8 => ?_) (fun h8 => ?_)
    · exact absurd h8 hh
    · refine ws_lload_n (i := 2) X d_M_takeLong_11 rfl rfl ?_
      refine ws_bipush (v := 8) X d_M_takeLong_12 rfl ?_
      refine ws_lshl X d_M_takeLong_14 ?_
      refine ws_aload_n (i := 0) X d_M_takeLong_15 rfl rfl ?_
      refine ws_callV1 X (m_M_take _ (by assumption)) cv_M_take ml_M_131 ob8 rfl rfl (Nat.le_of_ble_eq_true rfl) ⟨Nat.le_of_ble_eq_true rfl, Nat.le_of_ble_eq_true rfl⟩ ⟨Nat.zero_le _, Nat.zero_le _⟩ d_M_takeLong_16 ?_
      refine ws_i2l X d_M_takeLong_19 ?_
      refine ws_lor X d_M_takeLong_20 ?_
      refine ws_lstn_2 X rfl d_M_takeLong_21 (by decide) ?_
      refine ws_iinc_4 X rfl d_M_takeLong_22 rfl (by decide) ?_
      refine ws_goto X d_M_takeLong_25 ?_
      rw [nI_inc]; exact ih (i + 1) _ _ (mTakeS_MP hP) (by omega) K
end L31
theorem m_M_takeLong (S : MS) (x : Int32) (hP : MP S) : MetE y_M_takeLong c_M_takeLong 5 ((some .long)) 2 42 [.inr (8, 0), .inl (.int x)] S (some (.inl (.long (mLongGo x.toNatClampNeg 0 S).1))) ((mLongGo x.toNatClampNeg 0 S).2) := by
  refine MetS.of (lv0 := [some (.inr (8, 0)), some (.inl (.int x)), none, none, none]) pn_M rfl (Nat.le_of_ble_eq_true rfl) (fun p0 l0 e0 s0 m0 args below meth c0 G X => ?_)
  refine ws_lconst (v := 0) X d_M_takeLong_0 rfl ?_
  refine ws_lstn_2 X rfl d_M_takeLong_1 (by decide) ?_
  refine ws_iconst (v := 0) X d_M_takeLong_2 rfl ?_
  refine ws_ist_4 X rfl d_M_takeLong_3 (by decide) ?_
  refine l_mlong X x.toNatClampNeg 0 0 S hP (by omega) (fun j => ?_)
  refine ws_lload_n (i := 2) X d_M_takeLong_28 rfl rfl ?_
  refine ws_lret X d_M_takeLong_29 ?_
  exact ⟨rfl, rfl⟩

theorem ix8 {e k : Nat} (he : e < 16) (hk : k < 8) : (8 : Int32) * nI e + nI k = nI (8 * e + k) := by
  rw [show (8 : Int32) = nI 8 from rfl, pk_mul, nI_add]
/-- the letters of a WORD -/
def letGo (e : Nat) : Nat → Nat → MS → MS
  | 0, _, S => S
  | n + 1, k, S => letGo e n (k + 1) (wI (mTknS S 97 122 5) 29 0 (8 * e + k) (mTknV S 97 122 5))
theorem letGo_MP (e : Nat) : ∀ (n k : Nat) (S : MS), MP S → MP (letGo e n k S)
  | 0, _, _, h => h
  | n + 1, k, S, h => letGo_MP e n (k + 1) _ ((mTknS_MP 97 122 5 h).same (wI_o _ _ _ _ _ _ _ _ (fun z => absurd z.1 (by decide))) (wI_o _ _ _ _ _ _ _ _ (fun z => absurd z.1 (by decide))) (fun j => wI_o _ _ _ _ _ _ _ _ (fun z => absurd z.1 (by decide))))
theorem letGo_o (e b c d : Nat) (h1 : ¬ (b = 8 ∧ c = 0 ∧ d = 28)) (h2 : ¬ (b = 8 ∧ c = 0 ∧ d = 29)) (h3 : ¬ (b = 8 ∧ c = 0 ∧ d = 31)) (h4 : b ≠ 29) : ∀ (n k : Nat) (S : MS), (letGo e n k S).1 b c d = S.1 b c d
  | 0, _, _ => rfl
  | n + 1, k, S => by rw [letGo, letGo_o e b c d h1 h2 h3 h4 n, wI_o _ _ _ _ _ _ _ _ (fun z => h4 z.1), mTknS_o _ _ _ _ _ _ _ h1 h2 h3]
def mEnt1 (S : MS) (e : Nat) : MS := wI (mTknS S 1 3 4) 26 0 e (mTknV S 1 3 4)
def mEnt2 (S : MS) (e : Nat) : MS := wI (mTknS (mEnt1 S e) 1 8 3) 28 0 e (mTknV (mEnt1 S e) 1 8 3)
def mEnt (S : MS) (e : Nat) : MS :=
  if mTknV S 1 3 4 = 1 then wL (mLongGo 4 0 (mEnt1 S e)).2 27 0 e (mLongGo 4 0 (mEnt1 S e)).1.toInt32.toInt64
  else if mTknV S 1 3 4 = 2 then wL (mLongGo 8 0 (mEnt1 S e)).2 27 0 e (mLongGo 8 0 (mEnt1 S e)).1
  else if mTknV S 1 3 4 = 3 then letGo e (mTknV (mEnt1 S e) 1 8 3).toNatClampNeg 0 (mEnt2 S e)
  else mEnt1 S e
theorem mEnt1_MP {S : MS} (e : Nat) (h : MP S) : MP (mEnt1 S e) := (mTknS_MP 1 3 4 h).same (wI_o _ _ _ _ _ _ _ _ (fun z => absurd z.1 (by decide))) (wI_o _ _ _ _ _ _ _ _ (fun z => absurd z.1 (by decide))) (fun j => wI_o _ _ _ _ _ _ _ _ (fun z => absurd z.1 (by decide)))
theorem mEnt2_MP {S : MS} (e : Nat) (h : MP S) : MP (mEnt2 S e) := (mTknS_MP 1 8 3 (mEnt1_MP e h)).same (wI_o _ _ _ _ _ _ _ _ (fun z => absurd z.1 (by decide))) (wI_o _ _ _ _ _ _ _ _ (fun z => absurd z.1 (by decide))) (fun j => wI_o _ _ _ _ _ _ _ _ (fun z => absurd z.1 (by decide)))
theorem mEnt_MP {S : MS} (e : Nat) (h : MP S) : MP (mEnt S e) := by
  unfold mEnt
  by_cases h1 : mTknV S 1 3 4 = 1
  · rw [if_pos h1]; exact MP_wL _ _ _ _ (mLongGo_MP 4 0 _ (mEnt1_MP e h))
  · rw [if_neg h1]
    by_cases h2 : mTknV S 1 3 4 = 2
    · rw [if_pos h2]; exact MP_wL _ _ _ _ (mLongGo_MP 8 0 _ (mEnt1_MP e h))
    · rw [if_neg h2]
      by_cases h3 : mTknV S 1 3 4 = 3
      · rw [if_pos h3]; exact letGo_MP e _ 0 _ (mEnt2_MP e h)
      · rw [if_neg h3]; exact mEnt1_MP e h
/-- what an entry's reading leaves -/
theorem mEnt_o (S : MS) (e b c d : Nat) (h1 : ¬ (b = 8 ∧ c = 0 ∧ d = 28)) (h2 : ¬ (b = 8 ∧ c = 0 ∧ d = 29)) (h3 : ¬ (b = 8 ∧ c = 0 ∧ d = 31)) (h4 : b ≠ 26) (h5 : b ≠ 28) (h6 : b ≠ 29) : (mEnt S e).1 b c d = S.1 b c d := by
  have e1 : (mEnt1 S e).1 b c d = S.1 b c d := by rw [mEnt1, wI_o _ _ _ _ _ _ _ _ (fun z => h4 z.1), mTknS_o _ _ _ _ _ _ _ h1 h2 h3]
  unfold mEnt
  by_cases g1 : mTknV S 1 3 4 = 1
  · rw [if_pos g1, wL_1, mLongGo_o b c d h1 h2 h3]; exact e1
  · rw [if_neg g1]
    by_cases g2 : mTknV S 1 3 4 = 2
    · rw [if_pos g2, wL_1, mLongGo_o b c d h1 h2 h3]; exact e1
    · rw [if_neg g2]
      by_cases g3 : mTknV S 1 3 4 = 3
      · rw [if_pos g3, letGo_o e b c d h1 h2 h3 h6, mEnt2, wI_o _ _ _ _ _ _ _ _ (fun z => h5 z.1), mTknS_o _ _ _ _ _ _ _ h1 h2 h3]; exact e1
      · rw [if_neg g3]; exact e1
def mPoolGo : Nat → Nat → MS → MS
  | 0, _, S => S
  | n + 1, e, S => if S.1 8 0 28 = 0 then mPoolGo n (e + 1) (mEnt S e) else S
section L32
variable {p : Program} {l : Launch} {e0 : Env} {s : State} {m0 : MethodId} {args : Array Value} {below : List Frame} {meth : Method} {c0 : Code} {G : GG} {A : Nat → Prop} {Q : State → Prop}
theorem l_let (X : CX p s m0 args meth c0 G A c_M_readPool y_M_readPool.cls 3 (none)) {e w : Nat} (he : e < 16) (hw : w ≤ 8) : ∀ (n k : Nat) (S : MS), MP S → S.1 28 0 e = nI w → k + n = w → (∀ j : Int32, WS p l e0 (rmS 3 66) s m0 args below meth c0 G A 3 0 0 Q 155 [some (.inr (8, 0)), some (.inl (.int (nI e))), some (.inl (.int j))] [] (letGo e n k S)) → WS p l e0 (rmS 3 66) s m0 args below meth c0 G A 3 0 0 Q 119 [some (.inr (8, 0)), some (.inl (.int (nI e))), some (.inl (.int (nI k)))] [] (S) := by
  intro n
  have hc := nI_c (i := e) (by omega)
  have hin16 : vp_in (nI e) 16 := vp_in_nI he (by omega)
  induction n with
  | zero =>
    intro k S hP hS hi' K
    have hh : S.1 28 0 e ≤ nI k := by rw [hS, nI_leI (by omega) (by omega)]; omega
    refine ws_iload_n (i := 2) X d_M_readPool_119 rfl rfl ?_
    refine ws_aload_n (i := 0) X d_M_readPool_120 rfl rfl ?_
    refine ws_getR X fl_M_24 ob8 d_M_readPool_121 ?_
    refine ws_iload_n (i := 1) X d_M_readPool_124 rfl rfl ?_
    refine ws_iald X ak28 ob28 (by assumption) d_M_readPool_125 ?_
    rw [hc]
    refine ws_icmp_ge X d_M_readPool_126 (fun h126 => ?_) (fun h126 => ?_)
    · exact K _
    · exact absurd hh h126
  | succ n ih =>
    intro k S hP hS hi' K
    have hh : ¬ S.1 28 0 e ≤ nI k := by rw [hS, nI_leI (by omega) (by omega)]; omega
    have hin : vp_in (nI (8 * e + k)) 128 := vp_in_nI (by omega) (by omega)
    have hc8 := nI_c (i := 8 * e + k) (by omega)
    rw [letGo] at K
    refine ws_iload_n (i := 2) X d_M_readPool_119 rfl rfl ?_
    refine ws_aload_n (i := 0) X d_M_readPool_120 rfl rfl ?_
    refine ws_getR X fl_M_24 ob8 d_M_readPool_121 ?_
    refine ws_iload_n (i := 1) X d_M_readPool_124 rfl rfl ?_
    refine ws_iald X ak28 ob28 (by assumption) d_M_readPool_125 ?_
    rw [hc]
    refine ws_icmp_ge X d_M_readPool_126 (fun h126 => ?_) (fun h126 => ?_)
    · exact absurd h126 hh
    · refine ws_aload_n (i := 0) X d_M_readPool_129 rfl rfl ?_
      refine ws_getR X fl_M_27 ob8 d_M_readPool_130 ?_
      refine ws_bipush (v := 8) X d_M_readPool_133 rfl ?_
      refine ws_iload_n (i := 1) X d_M_readPool_135 rfl rfl ?_
      refine ws_imul X d_M_readPool_136 ?_
      refine ws_iload_n (i := 2) X d_M_readPool_137 rfl rfl ?_
      refine ws_iadd X d_M_readPool_138 ?_
      rw [ix8 he (by omega)]
      refine ws_aload_n (i := 0) X d_M_readPool_139 rfl rfl ?_
      refine ws_bipush (v := 97) X d_M_readPool_140 rfl ?_
      refine ws_bipush (v := 122) X d_M_readPool_142 rfl ?_
      refine ws_iconst (v := 5) X d_M_readPool_144 rfl ?_
      refine ws_callV1 X (m_M_taken _ _ _ _ (by assumption)) cv_M_taken ml_M_135 ob8 rfl rfl (Nat.le_of_ble_eq_true rfl) ⟨Nat.le_of_ble_eq_true rfl, Nat.le_of_ble_eq_true rfl⟩ ⟨Nat.zero_le _, Nat.zero_le _⟩ d_M_readPool_145 ?_
      refine ws_iast X ak29 ob29 (by assumption) d_M_readPool_148 ?_
      rw [hc8]
      refine ws_iinc_2 X rfl d_M_readPool_149 rfl (by decide) ?_
      refine ws_goto X d_M_readPool_152 ?_
      rw [nI_inc]; exact ih (k + 1) _ ((mTknS_MP 97 122 5 hP).same (wI_o _ _ _ _ _ _ _ _ (fun z => absurd z.1 (by decide))) (wI_o _ _ _ _ _ _ _ _ (fun z => absurd z.1 (by decide))) (fun j => wI_o _ _ _ _ _ _ _ _ (fun z => absurd z.1 (by decide)))) (by rw [wI_o _ _ _ _ _ _ _ _ (fun z => absurd z.1 (by decide)), mTknS_o _ _ _ _ _ _ _ (fun z => absurd z.1 (by decide)) (fun z => absurd z.1 (by decide)) (fun z => absurd z.1 (by decide))]; exact hS) (by omega) K
end L32
section L33
variable {p : Program} {l : Launch} {e0 : Env} {s : State} {m0 : MethodId} {args : Array Value} {below : List Frame} {meth : Method} {c0 : Code} {G : GG} {A : Nat → Prop} {Q : State → Prop}
theorem l_mpool (X : CX p s m0 args meth c0 G A c_M_readPool y_M_readPool.cls 3 (none)) {x : Int32} {en : Nat} (hx : x = nI en) (hen : en ≤ 16) : ∀ (n e : Nat) (S : MS) (a2 : Option MV), MP S → S.1 8 0 4 = x → e + n = en → (∀ (j : Int32) (a2 : Option MV), WS p l e0 (rmS 3 66) s m0 args below meth c0 G A 3 0 0 Q 161 [some (.inr (8, 0)), some (.inl (.int j)), a2] [] (mPoolGo n e S)) → WS p l e0 (rmS 3 66) s m0 args below meth c0 G A 3 0 0 Q 14 [some (.inr (8, 0)), some (.inl (.int (nI e))), a2] [] (S) := by
  intro n
  induction n with
  | zero =>
    intro e S a2 hP hS hi' K
    have hh : S.1 8 0 4 ≤ nI e := by rw [hS, hx, nI_leI (by omega) (by omega)]; omega
    refine ws_iload_n (i := 1) X d_M_readPool_14 rfl rfl ?_
    refine ws_aload_n (i := 0) X d_M_readPool_15 rfl rfl ?_
    refine ws_getI X fl_M_138 ob8 d_M_readPool_16 ?_
    refine ws_icmp_ge X d_M_readPool_19 (fun h19 => ?_) (fun h19 => ?_)
    · exact K _ _
    · exact absurd hh h19
  | succ n ih =>
    intro e S a2 hP hS hi' K
    have hh : ¬ S.1 8 0 4 ≤ nI e := by rw [hS, hx, nI_leI (by omega) (by omega)]; omega
    have he : e < 16 := by omega
    have hc := nI_c (i := e) (by omega)
    have hin : vp_in (nI e) 16 := vp_in_nI he (by omega)
    have hP1 := mEnt1_MP e hP
    have eN : (mEnt S e).1 8 0 4 = x := by rw [mEnt_o _ _ _ _ _ (by decide) (by decide) (by decide) (by decide) (by decide) (by decide)]; exact hS
    rw [mPoolGo] at K
    refine ws_iload_n (i := 1) X d_M_readPool_14 rfl rfl ?_
    refine ws_aload_n (i := 0) X d_M_readPool_15 rfl rfl ?_
    refine ws_getI X fl_M_138 ob8 d_M_readPool_16 ?_
    refine ws_icmp_ge X d_M_readPool_19 (fun h19 => ?_) (fun h19 => ?_)
    · exact absurd h19 hh
    · refine ws_aload_n (i := 0) X d_M_readPool_22 rfl rfl ?_
      refine ws_getI X fl_M_118 ob8 d_M_readPool_23 ?_
      refine ws_if_ne X d_M_readPool_26 (fun h26 => ?_) (fun h26 => ?_)
      · simp only [eq_false h19, eq_false h26, if_true, if_false] at K; exact K _ _
      · refine ws_aload_n (i := 0) X d_M_readPool_29 rfl rfl ?_
        refine ws_getR X fl_M_17 ob8 d_M_readPool_30 ?_
        refine ws_iload_n (i := 1) X d_M_readPool_33 rfl rfl ?_
        refine ws_aload_n (i := 0) X d_M_readPool_34 rfl rfl ?_
        refine ws_iconst (v := 1) X d_M_readPool_35 rfl ?_
        refine ws_iconst (v := 3) X d_M_readPool_36 rfl ?_
        refine ws_iconst (v := 4) X d_M_readPool_37 rfl ?_
        refine ws_callV1 X (m_M_taken _ _ _ _ (by assumption)) cv_M_taken ml_M_135 ob8 rfl rfl (Nat.le_of_ble_eq_true rfl) ⟨Nat.le_of_ble_eq_true rfl, Nat.le_of_ble_eq_true rfl⟩ ⟨Nat.zero_le _, Nat.zero_le _⟩ d_M_readPool_38 ?_
        refine ws_iast X ak26 ob26 (by assumption) d_M_readPool_41 ?_
        rw [hc]
        show WS _ _ _ _ _ _ _ _ _ _ _ _ _ _ _ _ _ _ _ (mEnt1 S e)
        have eT : (mEnt1 S e).1 26 0 e = mTknV S 1 3 4 := wI_rd ..
        refine ws_aload_n (i := 0) X d_M_readPool_42 rfl rfl ?_
        refine ws_getR X fl_M_17 ob8 d_M_readPool_43 ?_
        refine ws_iload_n (i := 1) X d_M_readPool_46 rfl rfl ?_
        refine ws_iald X ak26 ob26 (by assumption) d_M_readPool_47 ?_
        rw [hc, eT]
        refine ws_iconst (v := 1) X d_M_readPool_48 rfl ?_
        refine ws_icmp_ne X d_M_readPool_49 (fun h49 => ?_) (fun h49 => ?_)
        · refine ws_aload_n (i := 0) X d_M_readPool_68 rfl rfl ?_
          refine ws_getR X fl_M_17 ob8 d_M_readPool_69 ?_
          refine ws_iload_n (i := 1) X d_M_readPool_72 rfl rfl ?_
          refine ws_iald X ak26 ob26 (by assumption) d_M_readPool_73 ?_
          rw [hc, eT]
          refine ws_iconst (v := 2) X d_M_readPool_74 rfl ?_
          refine ws_icmp_ne X d_M_readPool_75 (fun h75 => ?_) (fun h75 => ?_)
          · refine ws_aload_n (i := 0) X d_M_readPool_93 rfl rfl ?_
            refine ws_getR X fl_M_17 ob8 d_M_readPool_94 ?_
            refine ws_iload_n (i := 1) X d_M_readPool_97 rfl rfl ?_
            refine ws_iald X ak26 ob26 (by assumption) d_M_readPool_98 ?_
            rw [hc, eT]
            refine ws_iconst (v := 3) X d_M_readPool_99 rfl ?_
            refine ws_icmp_ne X d_M_readPool_100 (fun h100 => ?_) (fun h100 => ?_)
            · first | rw [← eM] | rw [show mEnt1 S e = mEnt S e from (by rw [mEnt, if_neg h49, if_neg h75, if_neg h100])]
              refine ws_iinc_1 X rfl d_M_readPool_155 rfl (by decide) ?_
              refine ws_goto X d_M_readPool_158 ?_
              rw [nI_inc]; simp only [if_pos h26] at K; exact ih (e + 1) _ _ (mEnt_MP e hP) eN (by omega) K
            · refine ws_aload_n (i := 0) X d_M_readPool_103 rfl rfl ?_
              refine ws_getR X fl_M_24 ob8 d_M_readPool_104 ?_
              refine ws_iload_n (i := 1) X d_M_readPool_107 rfl rfl ?_
              refine ws_aload_n (i := 0) X d_M_readPool_108 rfl rfl ?_
              refine ws_iconst (v := 1) X d_M_readPool_109 rfl ?_
              refine ws_bipush (v := 8) X d_M_readPool_110 rfl ?_
              refine ws_iconst (v := 3) X d_M_readPool_112 rfl ?_
              refine ws_callV1 X (m_M_taken _ _ _ _ (by assumption)) cv_M_taken ml_M_135 ob8 rfl rfl (Nat.le_of_ble_eq_true rfl) ⟨Nat.le_of_ble_eq_true rfl, Nat.le_of_ble_eq_true rfl⟩ ⟨Nat.zero_le _, Nat.zero_le _⟩ d_M_readPool_113 ?_
              refine ws_iast X ak28 ob28 (by assumption) d_M_readPool_116 ?_
              rw [hc]; obtain ⟨w, hw, hw2⟩ := mTknV_rng (mEnt1 S e) (lo := 1) (M := 8) (w := 3) (n := 8) rfl (by decide) (by decide)
              have eM : mEnt S e = letGo e w 0 (mEnt2 S e) := by rw [mEnt, if_neg h49, if_neg h75, if_pos h100, hw2, nI_c (by omega)]
              refine ws_iconst (v := 0) X d_M_readPool_117 rfl ?_
              refine ws_istn_2 X rfl d_M_readPool_118 (by decide) ?_
              refine l_let X he hw w 0 (mEnt2 S e) (mEnt2_MP e hP) (by rw [mEnt2, wI_rd]; exact hw2) (by omega) (fun j => ?_)
              rw [← eM]
              refine ws_iinc_1 X rfl d_M_readPool_155 rfl (by decide) ?_
              refine ws_goto X d_M_readPool_158 ?_
              rw [nI_inc]; simp only [if_pos h26] at K; exact ih (e + 1) _ _ (mEnt_MP e hP) eN (by omega) K
          · refine ws_aload_n (i := 0) X d_M_readPool_78 rfl rfl ?_
            refine ws_getR X fl_M_20 ob8 d_M_readPool_79 ?_
            refine ws_iload_n (i := 1) X d_M_readPool_82 rfl rfl ?_
            refine ws_aload_n (i := 0) X d_M_readPool_83 rfl rfl ?_
            refine ws_bipush (v := 8) X d_M_readPool_84 rfl ?_
            refine ws_callV1 X (m_M_takeLong _ _ (by assumption)) cv_M_takeLong ml_M_141 ob8 rfl rfl (Nat.le_of_ble_eq_true rfl) ⟨Nat.le_of_ble_eq_true rfl, Nat.le_of_ble_eq_true rfl⟩ ⟨Nat.zero_le _, Nat.zero_le _⟩ d_M_readPool_86 ?_
            refine ws_last X ak27 ob27 (by assumption) d_M_readPool_89 ?_
            rw [hc, show (8 : Int32).toNatClampNeg = 8 from rfl]
            have eM : mEnt S e = wL (mLongGo 8 0 (mEnt1 S e)).2 27 0 e (mLongGo 8 0 (mEnt1 S e)).1 := by rw [mEnt, if_neg h49, if_pos h75]
            refine ws_goto X d_M_readPool_90 ?_
            first | rw [← eM] | rw [show mEnt1 S e = mEnt S e from (by rw [mEnt, if_neg h49, if_neg h75, if_neg h100])]
            refine ws_iinc_1 X rfl d_M_readPool_155 rfl (by decide) ?_
            refine ws_goto X d_M_readPool_158 ?_
            rw [nI_inc]; simp only [if_pos h26] at K; exact ih (e + 1) _ _ (mEnt_MP e hP) eN (by omega) K
        · refine ws_aload_n (i := 0) X d_M_readPool_52 rfl rfl ?_
          refine ws_getR X fl_M_20 ob8 d_M_readPool_53 ?_
          refine ws_iload_n (i := 1) X d_M_readPool_56 rfl rfl ?_
          refine ws_aload_n (i := 0) X d_M_readPool_57 rfl rfl ?_
          refine ws_iconst (v := 4) X d_M_readPool_58 rfl ?_
          refine ws_callV1 X (m_M_takeLong _ _ (by assumption)) cv_M_takeLong ml_M_141 ob8 rfl rfl (Nat.le_of_ble_eq_true rfl) ⟨Nat.le_of_ble_eq_true rfl, Nat.le_of_ble_eq_true rfl⟩ ⟨Nat.zero_le _, Nat.zero_le _⟩ d_M_readPool_59 ?_
          refine ws_l2i X d_M_readPool_62 ?_
          refine ws_i2l X d_M_readPool_63 ?_
          refine ws_last X ak27 ob27 (by assumption) d_M_readPool_64 ?_
          rw [hc, show (4 : Int32).toNatClampNeg = 4 from rfl]
          have eM : mEnt S e = wL (mLongGo 4 0 (mEnt1 S e)).2 27 0 e (mLongGo 4 0 (mEnt1 S e)).1.toInt32.toInt64 := by rw [mEnt, if_pos h49]
          refine ws_goto X d_M_readPool_65 ?_
          first | rw [← eM] | rw [show mEnt1 S e = mEnt S e from (by rw [mEnt, if_neg h49, if_neg h75, if_neg h100])]
          refine ws_iinc_1 X rfl d_M_readPool_155 rfl (by decide) ?_
          refine ws_goto X d_M_readPool_158 ?_
          rw [nI_inc]; simp only [if_pos h26] at K; exact ih (e + 1) _ _ (mEnt_MP e hP) eN (by omega) K
end L33
def mPool1 (S : MS) : MS := wI (mTknS S 0 16 3) 8 0 4 (mTknV S 0 16 3)
def mPool (S : MS) : MS := mPoolGo (mTknV S 0 16 3).toNatClampNeg 0 (mPool1 S)
theorem m_M_readPool (S : MS) (hP : MP S) : MetE y_M_readPool c_M_readPool 3 (none) 3 66 [.inr (8, 0)] S (none) (mPool S) := by
  refine MetS.of (lv0 := [some (.inr (8, 0)), none, none]) pn_M rfl (Nat.le_of_ble_eq_true rfl) (fun p0 l0 e0 s0 m0 args below meth c0 G X => ?_)
  refine ws_aload_n (i := 0) X d_M_readPool_0 rfl rfl ?_
  refine ws_aload_n (i := 0) X d_M_readPool_1 rfl rfl ?_
  refine ws_iconst (v := 0) X d_M_readPool_2 rfl ?_
  refine ws_bipush (v := 16) X d_M_readPool_3 rfl ?_
  refine ws_iconst (v := 3) X d_M_readPool_5 rfl ?_
  refine ws_callV1 X (m_M_taken _ _ _ _ (by assumption)) cv_M_taken ml_M_135 ob8 rfl rfl (Nat.le_of_ble_eq_true rfl) ⟨Nat.le_of_ble_eq_true rfl, Nat.le_of_ble_eq_true rfl⟩ ⟨Nat.zero_le _, Nat.zero_le _⟩ d_M_readPool_6 ?_
  refine ws_putI X fl_M_138 ob8 d_M_readPool_9 ?_
  show WS _ _ _ _ _ _ _ _ _ _ _ _ _ _ _ _ _ _ _ (mPool1 S)
  refine ws_iconst (v := 0) X d_M_readPool_12 rfl ?_
  refine ws_istn_1 X rfl d_M_readPool_13 (by decide) ?_
  obtain ⟨en, he, hE⟩ := mTknV_rng S (lo := 0) (M := 16) (w := 3) (n := 16) rfl (by decide) (by decide)
  have hP1 : MP (mPool1 S) := (mTknS_MP 0 16 3 hP).same (wI_o _ _ _ _ _ _ _ _ (by decide)) (wI_o _ _ _ _ _ _ _ _ (by decide)) (fun j => wI_o _ _ _ _ _ _ _ _ (fun z => absurd z.1 (by decide)))
  have eP : mPool S = mPoolGo en 0 (mPool1 S) := by rw [mPool, hE, nI_c (by omega)]
  rw [eP]
  refine l_mpool X hE he en 0 (mPool1 S) none hP1 (wI_rd ..) (by omega) (fun j a2 => ?_)
  refine ws_vret X d_M_readPool_161 ?_
  exact ⟨rfl, rfl⟩


