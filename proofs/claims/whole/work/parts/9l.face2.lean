/-! the face alike: TABLE, METHODs, POOL, KINDS, counts; read -/
theorem J_table {X M : MS} (h : RR X M) (i : Int32) (b : Int64) : tableV i = mTabV i ∧ RR (xmTab X i (dCanon b)) (mTabS M i b) := by
  have e1 : xmTabOk i = true ↔ ∃ j, j < 8 ∧ i = nI j := by
    rw [xmTabOk, Bool.and_eq_true, decide_eq_true_eq, decide_eq_true_eq]
    exact rng_iff (n := 8) (by decide)
  have e2 : mTabOk i = true ↔ ∃ j, j < 8 ∧ i = nI j := by
    rw [mTabOk, mIn_lit (n := 7) (u := 7) (by decide) rfl]
    constructor
    · rintro ⟨j, hj, e⟩; exact ⟨j, by omega, e⟩
    · rintro ⟨j, hj, e⟩; exact ⟨j, by omega, e⟩
  have e3 : xmTabOk i = mTabOk i := bool_eq (e1.trans e2.symm)
  rw [tableV, mTabV, xmTab, mTabS, e3]
  refine ⟨rfl, ?_⟩
  by_cases c : mTabOk i = true
  · obtain ⟨j, hj, rfl⟩ := e2.mp c
    rw [if_pos c, if_pos c, nI_c (by omega)]
    obtain ⟨⟨n, hq⟩, hT, h2⟩ := h
    refine ⟨⟨n, hq.same (by rw [wL_1]) (by rw [wD_1]) (fun _ => by rw [wL_1]) (fun _ => by rw [wD_1])⟩, fun l hl => ?_, h2.fr (fun _ _ _ _ _ _ _ => by rw [wL_1]) (fun a b' d _ a2 _ => wL_o _ _ _ _ _ _ _ _ (fun z => a2 z.1)) (fun _ _ _ _ => by rw [wD_1]) (fun _ _ _ _ => by rw [wD_l])⟩
    by_cases hlj : l = j
    · rw [hlj, wL_rd, wD_rd]; exact D_can b
    · rw [wL_o _ _ _ _ _ _ _ _ (fun z => hlj z.2.2), wD_o _ _ _ _ _ _ _ _ (fun z => hlj z.2.2)]; exact hT l hl
  · rw [if_neg c, if_neg c]; exact h
theorem ST.of {X M : MS} {k en' en : Nat} {j : Nat} (h : k = 0 ∨ ∃ en', ST X M k en' ∧ en' = en ∧ ∀ q, q < k → ∃ c, c ≤ 3 ∧ X.1 4 q 7 = nI c ∧ M.1 47 0 q = nI c) (hj : j < k) : ST X M k en ∧ ∃ c, c ≤ 3 ∧ X.1 4 j 7 = nI c ∧ M.1 47 0 j = nI c := by
  rcases h with z | ⟨e, z1, z2, z3⟩
  · omega
  · rw [← z2]; exact ⟨z1, z3 j hj⟩
theorem aside_eq {X M : MS} {j c : Nat} (hc : c ≤ 3) (h1 : X.1 4 j 7 = nI c) (h2 : M.1 47 0 j = nI c) : asideM X j = decide (M.1 47 0 j = 3) := by
  rw [asideM, h1, h2, decide_eq_decide, show (3 : Int32) = nI 3 from rfl, nI_ltI (by omega) (by decide), nI_eq (by omega) (by decide)]
  omega
theorem J_method {X M : MS} (h : RR X M) (m w : Int32) : methodV X m w = mMethV M m w ∧ ∃ k, M.1 8 0 9 = nI k ∧ k ≤ 5 := by
  obtain ⟨k, en, k5, en16, x23, m9, x33, m4, xv, hA, hP⟩ := h.2.2.2.2.1.k
  refine ⟨?_, k, m9, k5⟩
  have e1 := okG_iff (v := m) x23 k5
  have e2 := mIn_iff (v := m) (n := k) (by omega)
  rw [methodV, mMethV, m9]
  by_cases c : okG X m = true
  · have c2 := e2.mpr (e1.mp c)
    obtain ⟨j, hj, rfl⟩ := e1.mp c
    rw [if_pos c, if_pos c2, nI_c (by omega)]
    obtain ⟨hS, cn, c1, cx, cm⟩ := ST.of (en' := 0) hA hj
    obtain ⟨t, g, lc, st, L, mp, ⟨r1, r2, -, -⟩, ⟨g1, g2, -, -⟩, ⟨-, -, -, -, -, l1, l2, s1, s2, n1, n2⟩, ⟨p1, p2, -, -⟩, -, -⟩ := hS.1.2.2.2.2.2.2.2 j hj
    obtain ⟨a, -, a1, a2, -⟩ := hS.1.2.2.2.2.2.2.1 j hj
    rw [r1, r2, g1, g2, l1, l2, s1, s2, n1, n2, p1, p2, a1, a2, aside_eq c1 cx cm, cx, cm]
  · rw [if_neg c, if_neg (fun z => c (e1.mpr (e2.mp z)))]
theorem J_pool {X M : MS} (h : RR X M) (e w : Int32) : poolV X e w = mPoolV M e w ∧ ∃ k, M.1 8 0 4 = nI k ∧ k ≤ 16 := by
  obtain ⟨k, en, k5, en16, x23, m9, x33, m4, xv, hA, hP⟩ := h.2.2.2.2.1.k
  refine ⟨?_, en, m4, en16⟩
  have e1 := hasP_iff (v := e) x33 en16
  have e2 := mIn_iff (v := e) (n := en) (by omega)
  have e3 := mIn_lit (v := w) (n := 1) (u := 1) (by decide) rfl
  rw [poolV, mPoolV, m4]
  by_cases c : hasP X e = true
  · have c2 := e2.mpr (e1.mp c)
    obtain ⟨j, hj, rfl⟩ := e1.mp c
    have hRP := hP (by omega)
    obtain ⟨t1, t2⟩ := hRP.2.2.2 j hj
    have eT : tagOfP X (nI j) = M.1 26 0 j := by rw [tagOfP, if_pos c, nI_c (by omega), t1]
    have eV : valueOfP X (nI j) = X.2.1 13 0 j := hRP.val hj
    have eG : tagP X (nI j) 3 = decide (M.1 26 0 j = 3) := by rw [tagP, c, Bool.true_and, nI_c (by omega), t1]
    have eS : sizeOfP X (nI j) = X.1 12 0 j := by rw [sizeOfP, if_pos c, nI_c (by omega)]
    rw [if_pos c, if_pos c2, eT, eV, eG, eS, nI_c (by omega)]
    by_cases w0 : w = 0
    · subst w0
      rw [if_pos rfl, if_pos (by decide), if_pos rfl]
    · by_cases w1 : w = 1
      · subst w1
        have c1 : mIn 1 0 1 = true := by decide
        rw [if_neg w0, if_pos rfl, if_pos c1, if_neg w0]
        rcases t2 with ⟨u1, u2, -⟩ | ⟨u1, u2⟩ | ⟨u1, wd, f, -, -, u2, u3, -⟩
        · rw [u1, if_neg (by decide), if_neg (by decide), if_pos rfl, u2]
        · rw [u1, if_neg (by decide), if_neg (by decide), if_neg (by decide), u2]
          have hv : VR 2 (dCanon (M.2.1 27 0 j)) 0 (mDo (M.2.1 27 0 j)) := VR.d (D_can _)
          have := hv.res (Or.inr rfl)
          rw [if_neg (by decide)] at this
          exact this
        · rw [u1, if_pos (by decide), if_pos rfl, u2, u3]
      · rw [if_neg w0, if_neg w1, if_neg (fun z => by
          obtain ⟨i, hi, rfl⟩ := e3.mp z
          rcases (show i = 0 ∨ i = 1 by omega) with rfl | rfl
          · exact w0 rfl
          · exact w1 rfl)]
  · rw [if_neg c, if_neg (fun z => c (e1.mpr (e2.mp z)))]
theorem neg1 (k : Int32) : (-1 - k).toInt = -1 - k.toInt := by
  have h1 := k.toInt_lt
  have h2 := k.le_toInt
  have h0 : ((-1 : Int32)).toInt = -1 := rfl
  rw [Jvm.Kit.i32_sub (by rw [h0]; omega) (by rw [h0]; omega), h0]
theorem J_kind {X M : MS} (h : RR X M) (m p k : Int32) : kindV X m p k = mKndV M m p k ∧ ∃ n, M.1 8 0 9 = nI n ∧ n ≤ 5 ∧ ∀ q, q < n → ∃ lc L, M.1 34 0 q = nI lc ∧ lc ≤ 6 ∧ M.1 36 0 q = nI L ∧ L ≤ 48 := by
  obtain ⟨n, en, n5, en16, x23, m9, x33, m4, xv, hA, hP⟩ := h.2.2.2.2.1.k
  refine ⟨?_, n, m9, n5, fun q hq => ?_⟩
  · have e1 := okG_iff (v := m) x23 n5
    have e2 := mIn_iff (v := m) (n := n) (by omega)
    rw [kindV, mKndV, m9]
    by_cases c : okG X m = true
    · have c2 := e2.mpr (e1.mp c)
      obtain ⟨q, hq, rfl⟩ := e1.mp c
      rw [if_pos c, if_pos c2, nI_c (by omega)]
      obtain ⟨hS, -⟩ := ST.of (en' := 0) hA hq
      obtain ⟨lc, stk, L, mp, gq, pl, l0, hJ⟩ := hS.2 q hq
      obtain ⟨lc6, -, -, -, L48, xl, ml, -, -, xL, mL⟩ := hJ.1.2.2.1
      have e3 := mIn_iff (v := p) (n := L) (by omega)
      have e4 := rng_iff (v := p) (n := L) (by omega)
      rw [mL]
      by_cases d : mIn p 0 (nI L - 1) = true
      · obtain ⟨j, hj, rfl⟩ := e3.mp d
        have g1 := nI_guard (i := j) (N := L) (M := nI L) rfl hj (by omega)
        have g2 := nI_guard (i := j) (N := 48) (M := 48) rfl (by omega) (by decide)
        have eK : kindsAtM X q (nI j) = X.1 17 q j := by rw [kindsAtM, xL, if_pos ⟨g1.1, g1.2, g2.2⟩, nI_c (by omega)]
        rw [if_pos d, eK, nI_c (by omega)]
        rcases hJ.2.2.2.1 j (by omega) with ⟨z1, z2⟩ | ⟨-, o, g, d1, s1, lo1, -, -, hJK, -⟩
        · rw [z1, z2, if_pos rfl, if_pos rfl]
        · obtain ⟨k1, k2, k3, k4, k5⟩ := hJK
          rw [if_neg k1.nm1, k2, if_neg (show ¬ (1 : Int32) = 0 by decide), xl, ml]
          have f6 : 6 ≤ k ↔ 5 < k := by
            rw [Int32.le_iff_toInt_le, Int32.lt_iff_toInt_lt, show ((6 : Int32)).toInt = 6 from rfl, show ((5 : Int32)).toInt = 5 from rfl]
            omega
          have hn1 := neg1 k
          have flc : -1 - k < nI lc ↔ -(nI lc) ≤ k := by
            rw [Int32.lt_iff_toInt_lt, hn1, Int32.le_iff_toInt_le, nI_toInt (by omega), Jvm.Kit.i32_neg (by rw [nI_toInt (by omega)]; omega), nI_toInt (by omega)]
            omega
          by_cases b1 : 6 ≤ k
          · rw [if_pos b1, if_pos (f6.mp b1)]
          · rw [if_neg b1, if_neg (fun z => b1 (f6.mpr z))]
            by_cases b2 : -1 - k < nI lc
            · rw [if_pos b2, if_pos (flc.mp b2)]
              by_cases b3 : k < 0
              · rw [if_pos b3, if_pos b3]
                have hl0 : ¬ (-1 - k) < 0 := by
                  rw [Int32.lt_iff_toInt_lt, hn1]
                  rw [Int32.lt_iff_toInt_lt] at b3
                  rw [show ((0 : Int32)).toInt = 0 from rfl] at b3 ⊢
                  omega
                obtain ⟨l, hl, el⟩ := nI_of hl0
                rw [el] at b2 ⊢
                rw [nI_ltI hl (by omega)] at b2
                rw [k1.loc (by omega), nI_c (by omega), k5 l (by omega)]
              · rw [if_neg b3, if_neg b3]
                obtain ⟨i, hi, rfl⟩ := nI_of b3
                rw [show (6 : Int32) = nI 6 from rfl, nI_leI (by decide) hi] at b1
                rw [k1.item (by omega), nI_c (by omega), k4 i (by omega)]
            · rw [if_neg b2, if_neg (fun z => b2 (flc.mpr z))]
      · rw [if_neg d]
        have eK : kindsAtM X q p = -1 := by
          rw [kindsAtM, xL, if_neg (fun z => d (e3.mpr (e4.mp ⟨z.1, z.2.1⟩)))]
        rw [eK, if_pos rfl]
    · rw [if_neg c, if_neg (fun z => c (e1.mpr (e2.mp z)))]
  · obtain ⟨hS, -⟩ := ST.of (en' := 0) hA hq
    obtain ⟨lc, stk, L, mp, gq, pl, l0, hJ⟩ := hS.2 q hq
    obtain ⟨lc6, -, -, -, L48, xl, ml, -, -, xL, mL⟩ := hJ.1.2.2.1
    exact ⟨lc, L, ml, lc6, mL, L48⟩
theorem toldV_v (X : MS) : toldV X (nI 0) = X.1 7 0 9 ∧ toldV X (nI 1) = X.1 7 0 10 ∧ toldV X (nI 2) = X.1 7 0 11 ∧ toldV X (nI 3) = X.1 7 0 12 ∧ toldV X (nI 4) = X.1 7 0 13 := by
  refine ⟨?_, ?_, ?_, ?_, ?_⟩
  · rw [toldV, if_pos (by decide)]
  · rw [toldV, if_neg (by decide), if_pos (by decide)]
  · rw [toldV, if_neg (by decide), if_neg (by decide), if_pos (by decide)]
  · rw [toldV, if_neg (by decide), if_neg (by decide), if_neg (by decide), if_pos (by decide)]
  · rw [toldV, if_neg (by decide), if_neg (by decide), if_neg (by decide), if_neg (by decide), if_pos (by decide)]
theorem mTldV_v (M : MS) (h : ¬ M.1 8 0 42 = 0) : mTldV M (nI 0) = M.1 8 0 44 ∧ mTldV M (nI 1) = M.1 8 0 45 ∧ mTldV M (nI 2) = M.1 8 0 46 ∧ mTldV M (nI 3) = M.1 8 0 47 ∧ mTldV M (nI 4) = M.1 8 0 48 := by
  refine ⟨?_, ?_, ?_, ?_, ?_⟩
  · rw [mTldV, if_pos (by decide), if_neg h, if_pos (by decide)]
  · rw [mTldV, if_pos (by decide), if_neg h, if_neg (by decide), if_pos (by decide)]
  · rw [mTldV, if_pos (by decide), if_neg h, if_neg (by decide), if_neg (by decide), if_pos (by decide)]
  · rw [mTldV, if_pos (by decide), if_neg h, if_neg (by decide), if_neg (by decide), if_neg (by decide), if_pos (by decide)]
  · rw [mTldV, if_pos (by decide), if_neg h, if_neg (by decide), if_neg (by decide), if_neg (by decide), if_neg (by decide)]
theorem J_told {X M : MS} (h : RR X M) (w : Int32) : toldV X w = mTldV M w := by
  have e3 := mIn_lit (v := w) (n := 4) (u := 4) (by decide) rfl
  have hw := h.2.2.2.2.2.2.2.2
  by_cases c : mIn w 0 4 = true
  · obtain ⟨i, hi, rfl⟩ := e3.mp c
    obtain ⟨x0, x1, x2, x3, x4⟩ := toldV_v X
    rcases hw with ⟨h1, q1, q2, q3, q4, q5, -⟩ | ⟨h1, q1, q2, q3, q4, q5⟩
    · obtain ⟨m0, m1, m2, m3, m4⟩ := mTldV_v M (by rw [h1]; decide)
      rcases (show i = 0 ∨ i = 1 ∨ i = 2 ∨ i = 3 ∨ i = 4 by omega) with rfl | rfl | rfl | rfl | rfl
      · rw [x0, m0]; exact q1
      · rw [x1, m1]; exact q2
      · rw [x2, m2]; exact q3
      · rw [x3, m3]; exact q4
      · rw [x4, m4]; exact q5
    · have m0 : mTldV M (nI i) = 0 := by rw [mTldV, if_pos c, if_pos h1]
      rw [m0]
      rcases (show i = 0 ∨ i = 1 ∨ i = 2 ∨ i = 3 ∨ i = 4 by omega) with rfl | rfl | rfl | rfl | rfl
      · rw [x0]; exact q1
      · rw [x1]; exact q2
      · rw [x2]; exact q3
      · rw [x3]; exact q4
      · rw [x4]; exact q5
  · have n : ∀ i, i ≤ 4 → w ≠ nI i := fun i hi z => c (e3.mpr ⟨i, hi, z⟩)
    rw [mTldV, if_neg c, toldV, if_neg (show ¬ w = 0 from n 0 (by decide)), if_neg (show ¬ w = 1 from n 1 (by decide)), if_neg (show ¬ w = 2 from n 2 (by decide)), if_neg (show ¬ w = 3 from n 3 (by decide)), if_neg (show ¬ w = 4 from n 4 (by decide))]
theorem J_count {X M : MS} (h : RR X M) (w : Int32) : countV X w = mCntV M w := by
  obtain ⟨k, en, k5, en16, x23, m9, x33, m4, xv, -, -⟩ := h.2.2.2.2.1.k
  obtain ⟨⟨n, hq⟩, -⟩ := id h
  rw [countV, mCntV, hq.2.1, hq.2.2.1, x23, m9, x33, m4, xv, h.2.2.2.2.2.2.1]
theorem J_readF {X M : MS} (h : RR X M) : ∃ (tk : Nat → Nat) (k : Nat) (k' en : Nat), GR tk k (rd1 X) ∧ MT (mrd0 M) ∧ MW (mrd0 M) ∧ ((mrd1 M).1 8 0 28 = 0 → MB (mrd1 M) k' en) ∧ (rdR tk k X).1 = mrdV M ∧ RR (rdS tk k X) (mrdS M) := by
  obtain ⟨⟨n, hq⟩, hT, hX, hW, -, -, -, hL, ht⟩ := h
  obtain ⟨tk, k, k', en, j1, j2, j3, j4, j5, j6, j7, j8, j9⟩ := J_rdAll hq hX hW
  refine ⟨tk, k, k', en, j1, j2, j3, j4, j5, ⟨n, ?_⟩, ?_, j8, j9, j6, j7, ?_, ?_, ?_⟩
  · have c := rdS_cr tk k X
    have m := mrdS_mr M
    refine hq.same ?_ ?_ (fun j => ?_) (fun j => ?_)
    · rw [c.1 _ _ _ (Or.inl rfl), wI_o _ _ _ _ _ _ _ _ (by decide)]
    · rw [m.1 _ _ _ (Or.inr ⟨rfl, Or.inl rfl⟩), wI_o _ _ _ _ _ _ _ _ (by decide)]
    · rw [c.1 _ _ _ (Or.inr (Or.inr (Or.inl rfl))), wI_o _ _ _ _ _ _ _ _ (fun z => absurd z.1 (by decide))]
    · rw [m.1 _ _ _ (Or.inl rfl), wI_o _ _ _ _ _ _ _ _ (fun z => absurd z.1 (by decide))]
  · exact hT.o (fun d => by rw [(rdS_cr tk k X).2 _ _ _ (by decide), wI_2]) (fun d => by rw [(mrdS_mr M).2.2, wI_2])
  · rw [(rdS_cr tk k X).1 _ _ _ (Or.inr (Or.inr (Or.inr ⟨rfl, rfl⟩))), wI_rd, (mrdS_mr M).1 _ _ _ (Or.inr ⟨rfl, Or.inr (Or.inl rfl)⟩), wI_rd]
  · rw [(rdS_cr tk k X).2 _ _ _ (by decide), wI_2, (mrdS_mr M).2.1 _ _ _ (by decide), wI_2]; exact hL
  · have c7 : ∀ d, (rdS tk k X).1 7 0 d = X.1 7 0 d := fun d => by
      rw [(rdS_cr tk k X).1 _ _ _ (Or.inr (Or.inl rfl)), wI_o _ _ _ _ _ _ _ _ (fun z => absurd z.1 (by decide))]
    have m8 : ∀ d, d = 42 ∨ 44 ≤ d → (mrdS M).1 8 0 d = M.1 8 0 d := fun d hd => by
      rw [(mrdS_mr M).1 _ _ _ (Or.inr ⟨rfl, by omega⟩), wI_o _ _ _ _ _ _ _ _ (fun z => by have := z.2.2; omega)]
    unfold EQ
    rw [c7, c7, c7, c7, c7, m8 _ (by decide), m8 _ (by decide), m8 _ (by decide), m8 _ (by decide), m8 _ (by decide), m8 _ (by decide), (rdS_cr tk k X).2 _ _ _ (by decide), wI_2, (mrdS_mr M).2.1 _ _ _ (by decide), wI_2]
    exact ht
