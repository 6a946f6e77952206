/-! the two sides run alike: what a STEP finds -/
theorem opB_m : ∀ o, o < 25 → opByte (nI o) = mHas (nI o) := by decide +kernel
theorem opSz {o p : Nat} (ho : o < 25) : nI p + opSize (nI o) = nI (mjEnd p o) := by
  unfold opSize mjEnd
  rw [opB_m o ho]
  split
  · exact nI_add p 2
  · exact nI_add p 1
theorem xm_facts {X : MS} {F q p k L : Nat} (h6 : X.1 7 0 6 = nI (F + 1)) (hF8 : F < 8) (h21 : X.1 21 0 F = nI q) (h22 : X.1 22 0 F = nI p) (hp : p < L) (hL : X.1 4 q 5 = nI L) (hL48 : L ≤ 48) (hk : X.1 2 0 3 = nI k) (hk5 : k ≤ 5) (hq : q < k) : xmNext X = nI p ∧ xmOpenOk X = true ∧ xmO X = X.1 14 q p ∧ (p + 1 < L → xmF X = X.1 14 q (p + 1)) ∧ ∀ o, o < 25 → xmO X = nI o → xm2 X = wI (wI X 7 0 8 (nI p)) 22 0 F (nI (mjEnd p o)) := by
  have g := nI_guard (N := 8) (M := 8) rfl hF8 (by decide)
  have e1 : xmNext X = nI p := by rw [xmNext, h6, nI_m1, if_neg g.1, if_neg g.2, nI_c (by omega), h22]
  have e2 : xmOpen X = nI q := by rw [xmOpen, h6, nI_m1, nI_c (by omega), h21]
  have e3 : xmQ X = q := by rw [xmQ, e2, nI_c (by omega)]
  have e4 : xmOpenOk X = true := by
    rw [xmOpenOk, h6, nI_m1, decide_eq_true g.1, decide_eq_true g.2, e2, okG_n hk5 hk hq]; rfl
  have x1 : ∀ b c d, b ≠ 7 → (xm1 X).1 b c d = X.1 b c d := fun b c d h => by rw [xm1, wI_o _ _ _ _ _ _ _ _ (fun z => h z.1)]
  have cd : ∀ j, j < L → codeM (xm1 X) q (nI j) = X.1 14 q j := fun j hj => by
    have g1 := nI_guard (i := j) (N := L) (M := nI L) rfl hj (by omega)
    have g2 := nI_guard (i := j) (N := 48) (M := 48) rfl (by omega) (by decide)
    rw [codeM, x1 _ _ _ (by decide), x1 _ _ _ (by decide), hL, if_pos ⟨g1.1, g1.2, g2.2⟩, nI_c (by omega)]
  refine ⟨e1, e4, ?_, fun h => ?_, fun o ho hO => ?_⟩
  · rw [xmO, e3, e1, cd p hp]
  · rw [xmF, e3, e1, nI_1, cd (p + 1) h]
  · have h6' : (xm1 X).1 7 0 6 = nI (F + 1) := by rw [xm1, wI_o _ _ _ _ _ _ _ _ (by decide)]; exact h6
    rw [xm2, hO, e1, opSz ho, xmGo, h6', nI_m1, if_neg g.1, if_neg g.2, nI_c (by omega), xm1, e1]
theorem stp_ok {X M : MS} {k en q L lc stk mp p o g d F : Nat} {pl st lo : Nat → Nat} (hS : OpS X M k en q L lc stk mp pl p o g d st lo) (hKB : KB lc stk d st lo) (hen16 : en ≤ 16) (hlc : lc ≤ 6) (hs6 : stk ≤ 6) (hk5 : k ≤ 5) (hTG : ∀ g, g < k → ∃ t gg, TG X M g t gg) (hFr : ∀ f, F = f + 1 → ∃ d2, d2 < 6 ∧ M.1 52 0 f = nI d2) : StpOk M F d (nI o) g := by
  obtain ⟨ho, -, -, hg, -, -, hen, hn, hok, hp, -⟩ := hS
  have io : ∀ v, v < 25 → (nI o = nI v ↔ o = v) := fun v hv => nI_o ho hv
  have hT := tabs3
  have hd1 : (o = 4 ∨ o = 5 ∨ o = 6 → 0 < d) := fun z => by
    obtain ⟨t0, t1, t2, t3, t4, t5, t6⟩ := tabN
    rw [opN_t (by omega)] at hn
    rcases z with rfl | rfl | rfl <;> omega
  have hpush : ∀ c, opP M o g d st lo = c → c ≠ 0 → afN M o g = 0 → d < 6 := fun c h1 h2 h3 => by
    rcases hp with z | z
    · exact absurd (h1.symm.trans z) h2
    · rw [h3] at z; omega
  refine ⟨fun z => ?_, fun z => ?_, fun z => ?_, fun z => ?_, fun z => ?_, fun z => ?_, fun z => ?_, fun z => ?_, fun z => ?_, fun z => ?_, fun z => ?_, fun _ => hFr, ?_, ?_⟩
  · have z2 := (io 1 (by decide)).mp z
    subst z2
    have := (hen.1 rfl).1
    exact ⟨by omega, hpush 1 ((opP_t (by decide)).trans tabT.2.2.1) (by decide) ((afN_t (by decide)).trans tabN.2.1)⟩
  · have z2 := (io 2 (by decide)).mp z
    subst z2
    have := (hen.2.1 rfl).1
    exact ⟨by omega, hpush 2 ((opP_t (by decide)).trans tabT.2.2.2.1) (by decide) ((afN_t (by decide)).trans tabN.2.2.1)⟩
  · have z2 := (io 3 (by decide)).mp z
    subst z2
    have := hen.2.2.1 (Or.inl rfl)
    exact ⟨by omega, hpush (lo g) (by rw [opP, if_pos rfl]) (hok.1 rfl) ((afN_t (by decide)).trans tabN.2.2.2.1)⟩
  · have z2 := (io 4 (by decide)).mp z
    have := hen.2.2.1 (Or.inr z2)
    exact ⟨by omega, hd1 (Or.inl z2)⟩
  · have z2 := (io 5 (by decide)).mp z
    have h0 := hd1 (Or.inr (Or.inl z2))
    subst z2
    have h1 := (hKB.2.1 (d - 1) (by omega)).1
    exact ⟨h0, hpush (st (d - 1)) (by rw [opP, if_neg (by decide), if_pos rfl]) (by omega) (if_pos rfl)⟩
  · have z2 := (io 6 (by decide)).mp z
    exact hd1 (Or.inr (Or.inr z2))
  · have hb := mSt1_b o ho
    have z2 : (7 ≤ o ∧ o ≤ 10) ∨ o = 17 ∨ (11 ≤ o ∧ o ≤ 14) ∨ o = 18 := by
      rcases z with z | z | z | z
      · have : (mIn (nI o) 7 10 || decide (nI o = 17)) = true := by rw [z]; rfl
        rw [hb.1, decide_eq_true_eq] at this; omega
      · have := (io 17 (by decide)).mp z; omega
      · have : (mIn (nI o) 11 14 || decide (nI o = 18)) = true := by rw [z]; rfl
        rw [hb.2, decide_eq_true_eq] at this; omega
      · have := (io 18 (by decide)).mp z; omega
    obtain ⟨t1, t2, -, -, t17, t18, -⟩ := tabs3 o (by omega) ho
    rw [opN_t (by omega)] at hn
    rcases z2 with z2 | z2 | z2 | z2
    · have := (t1 z2.2).1; omega
    · have := (t17 z2).1; omega
    · have := (t2 z2.1 z2.2).1; omega
    · have := (t18 z2).1; omega
  · have z2 : o = 20 ∨ o = 22 := by
      rcases z with z | z
      · exact Or.inl ((io 20 (by decide)).mp z)
      · exact Or.inr ((io 22 (by decide)).mp z)
    obtain ⟨-, -, -, -, -, -, -, t20, t22, -⟩ := tabs3 o (by omega) ho
    rw [opN_t (by omega)] at hn
    rcases z2 with z2 | z2
    · have := (t20 z2).1; omega
    · have := (t22 z2).1; omega
  · have z2 : o = 15 ∨ o = 16 ∨ o = 23 := by
      rcases z with z | z | z
      · exact Or.inl ((io 15 (by decide)).mp z)
      · exact Or.inr (Or.inl ((io 16 (by decide)).mp z))
      · exact Or.inr (Or.inr ((io 23 (by decide)).mp z))
    obtain ⟨-, -, t15, t16, -, -, -, -, -, t23, -⟩ := tabs3 o (by omega) ho
    rw [opN_t (by omega)] at hn
    rcases z2 with z2 | z2 | z2
    · have := (t15 z2).1; omega
    · have := (t16 z2).1; omega
    · have := (t23 z2).1; omega
  · have z2 := (io 24 (by decide)).mp z
    obtain ⟨-, -, -, -, -, -, -, -, -, -, t24⟩ := tabs3 o (by omega) ho
    rw [opN_t (by omega)] at hn
    have h1 := (t24 z2).1
    have h2 := (hen.2.2.2.2 z2).1
    omega
  · have z2 := (io 21 (by decide)).mp z
    have hg5 := hen.2.2.2.1 z2
    obtain ⟨t, gg, hTGg⟩ := hTG g hg5
    have h1 : opN M o g = t := by rw [opN, if_pos z2, hTGg.n.1]
    exact ⟨by omega, t, by omega, hTGg.2.1⟩
  · exact nI_pos (by omega)
  · rw [show (24 : Int32) = nI 24 from rfl, nI_leI (by omega) (by decide)]; omega
/-- what the frames tell of a STEP: the OP at hand, on both sides -/
theorem Top.op {X M : MS} {k en F : Nat} (hS : ST X M k en) (h : Top X M k F) : ∃ q p b d st lo L lc stk mp gq pl l0 o g, Fr1 X M k F q p b ∧ TP X M F b d st lo ∧ (X.1 4 q 5 = nI L ∧ L ≤ 48) ∧ p < L ∧ Frs X M k F b q ∧ RJx X M k en q lc stk L mp gq pl l0 ∧ M.1 37 0 (48 * q + p) = nI o ∧ OpS X M k en q L lc stk mp pl p o g d st lo ∧ KB lc stk d st lo ∧ (o ≠ 19 → o ≠ 22 → Fl X M q L (mjEnd p o) (afD M o g d st lo) (afS M o g d st lo) (afL o g d st lo)) ∧ lc ≤ 6 ∧ stk ≤ 6 := by
  obtain ⟨q, p, b, d, st, lo, L, hF, hTP, hL, hf, hR⟩ := h
  obtain ⟨lc, stk, L', mp, gq, pl, l0, hJ⟩ := hS.2 q hF.1
  have hH := hJ.1.2.2.1
  have eL : L = L' := by
    have h1 := hL.1.symm.trans hH.2.2.2.2.2.2.2.2.2.1
    have h2 := hH.2.2.2.2.1
    exact (nI_eq (by omega) (by omega)).mp h1
  subst eL
  obtain ⟨o, g, d1, s1, l1, a1, a2, a3, a4, a5⟩ := hJ.fl hf
  exact ⟨q, p, b, d1, s1, l1, L, lc, stk, mp, gq, pl, l0, o, g, hF, hTP.fit a4, hL, hf.1, hR, hJ, a1, a2, a3, a5, hH.1, hH.2.2.1⟩
theorem Frs.dp {X M : MS} {k F b q : Nat} (h : Frs X M k F b q) : ∀ f, F = f + 1 → ∃ d2, d2 < 6 ∧ M.1 52 0 f = nI d2 := by
  intro f hf
  subst hf
  obtain ⟨q', p', b', d', st', lo', L', -, b1, b2, -⟩ := h
  exact ⟨d', b2, b1⟩
