/-! the two sides run alike: a STEP, a run -/
theorem mStpS_j {M : MS} {F q p d o g : Nat} (ho : o < 25) (n21 : o ≠ 21) (n22 : o ≠ 22) : mStpS M F q p d (nI o) g = mSt2 M (mSt1 M F d (nI o) g) F p d (nI o) g := by
  have c1 : ¬ nI o = (21 : Int32) := fun z => n21 ((nI_o ho (by decide)).mp z)
  have c2 : ¬ nI o = (22 : Int32) := fun z => n22 ((nI_o ho (by decide)).mp z)
  rw [mStpS, if_neg c1, if_neg c2]
theorem mStpS_21 {M : MS} {F q p d g : Nat} : mStpS M F q p d (nI 21) g = if F = 7 then mFailS M 4 7 else mClS M F (d - tkN M g) (tkN M g) g := by
  rw [mStpS, if_pos (show nI 21 = 21 from rfl)]; rfl
theorem mStpS_22 {M : MS} {F q p d g : Nat} : mStpS M F q p d (nI 22) g = if F = 0 then mGv0 M (d - 1) q else mGvN M (F - 1) (d - 1) (M.1 52 0 (F - 1)).toNatClampNeg := by
  rw [mStpS, if_neg (by decide), if_pos (show nI 22 = 22 from rfl)]
theorem RFile.tgs {X M : MS} {k en : Nat} (h : RFile X M k en) : ∀ g, g < k → ∃ t gg, TG X M g t gg := by
  have h1 := h.1
  obtain ⟨lc, stk, L, mp, gq, pl, hC⟩ := h.ctx (q := 0) (by omega)
  exact hC.2.2.2.2.2.2
theorem J_step {X M : MS} {k en F : Nat} {tk : Nat → Nat} (hE : EQ X M) (h9 : X.1 7 0 9 = 0) (hS : ST X M k en) (hT : TB X M) (h : Top X M k F) (htk : ∀ j, j < 5 → X.1 4 j 1 = nI (tk j) ∧ tk j ≤ 3) : opPre tk X ∧ StpPre M ∧ Run (xmOp X tk) (mStp M) k en ∧ FX X (xmOp X tk) ∧ FM M (mStp M) := by
  have D := D_all
  obtain ⟨q, p, b, d, st, lo, L, lc, stk, mp, gq, pl, l0, o, g, hF, hTP, hL, hpL, hR, hJ, hO, hOp, hKB, hfl, hlc, hs6⟩ := Top.op hS h
  have hk5 := hS.1.2.1
  have hTG := hS.1.tgs
  have hF8 := hTP.2.2.1
  have ho := hOp.1
  have hCK := hJ.1.2.2.2.2.1
  obtain ⟨x1, x2, x3, x4, x5⟩ := xm_facts hTP.1 hF8 hF.2.1 hF.2.2.2.1 hpL hL.1 hL.2 hS.1.2.2.1 hk5 hF.1
  have xO : xmO X = nI o := by
    obtain ⟨v, -, v2, v3⟩ := hCK p hpL
    rw [x3, v2, ← v3]; exact hO
  have hp1 : mHas (nI o) = true → p + 1 < L := fun z => by
    have := hOp.2.1
    rw [mjEnd, if_pos z] at this
    omega
  have xF : mHas (nI o) = true → xmF X = nI g := fun z => by
    obtain ⟨v, -, v2, v3⟩ := hCK (p + 1) (hp1 z)
    rw [x4 (hp1 z), v2, ← v3, ← Nat.add_assoc]
    exact hOp.2.2.2.2.1 z
  have hX2 := x5 o ho xO
  have hq5 : q < 5 := by have := hF.1; omega
  have hp48 : p < 48 := by have := hL.2; omega
  have hG1 : mHas (nI o) = true → p + 1 < 48 ∧ M.1 37 0 (48 * q + p + 1) = nI g := fun z => ⟨by have := hp1 z; have := hL.2; omega, hOp.2.2.2.2.1 z⟩
  have hG0 := hOp.2.2.2.2.2.1
  have hg256 := hOp.2.2.2.1
  have hpre : opPre tk X := ⟨x2, fun z => by
    have h21 : o = 21 := (nI_o ho (by decide)).mp (xO.symm.trans z)
    have hg := hOp.2.2.2.2.2.2.1.2.2.2.1 h21
    rw [xF (by rw [h21]; decide)]
    exact okG_n hk5 hS.1.2.2.1 hg, htk⟩
  have hst := stp_ok (F := F) hOp hKB hS.1.2.2.2.2.2.1.1 hlc hs6 hk5 hTG hR.dp
  have hsp : StpPre M := ⟨F, q, p, d, g, nI o, hTP.2.1, hF8, hTP.2.2.2.2.2.2.1, hTP.2.2.2.2.1, hF.2.2.1, hq5, hF.2.2.2.2.1, hp48, hO, hg256, hG1, hG0, hst⟩
  have eM : mStp M = mStpS M F q p d (nI o) g := mStp_eq hTP.2.1 hF8 hTP.2.2.2.2.2.2.1 hTP.2.2.2.2.1 hF.2.2.1 hq5 hF.2.2.2.2.1 hp48 hO hg256 hG1 hG0
  refine ⟨hpre, hsp, ?_⟩
  rw [xmOp_K, xO, eM]
  by_cases c21 : o = 21
  · subst c21
    have hg := hOp.2.2.2.2.2.2.1.2.2.2.1 rfl
    obtain ⟨t, gg, hTGg⟩ := hTG g hg
    have e : tk g = tkN M g := by
      obtain ⟨h1, h2⟩ := htk g (by omega)
      have h3 := hTGg.2.2.1
      rw [hTGg.n.1]
      exact (nI_eq (by omega) (by omega)).mp (h1.symm.trans hTGg.1)
    rw [mStpS_21]
    exact J_step21 hE h9 hS hT hF hTP hL hpL hR hTG hOp (hfl (by decide) (by decide)) hs6 hX2 (xF (by decide)) e
  by_cases c22 : o = 22
  · subst c22
    rw [mStpS_22]
    exact J_step22 hE h9 hS hT hF hTP hR hJ hOp hX2
  rw [mStpS_j ho c21 c22]
  by_cases c19 : o = 19
  · subst c19
    exact J_step19 hE h9 hS hT hF hTP hL hR hJ hOp hX2 (xF (by decide))
  by_cases c20 : o = 20
  · subst c20
    exact J_step20 hE h9 hS hT hF hTP hL hR hJ hOp (hfl (by decide) (by decide)) hX2 (xF (by decide))
  exact J_stepS D hE h9 hS hT hF hTP hL hR hOp hKB (hfl c19 c22) hlc hs6 hX2 xF c19 c20 c21 c22
/-- counted -/
theorem Frs.c {X M X' M' : MS} {k F b q : Nat} (h : Frs X M k F b q) (fx : FX X X') (fm : FM M M') (x : ∀ c d, c = 21 ∨ c = 22 ∨ c = 23 → X'.1 c 0 d = X.1 c 0 d) (xl : ∀ c d, c = 19 ∨ c = 20 → X'.2.1 c 0 d = X.2.1 c 0 d) (m : ∀ c d, 50 ≤ c → c ≤ 53 → M'.1 c 0 d = M.1 c 0 d) (md : ∀ d, M'.2.2 54 0 d = M.2.2 54 0 d) : Frs X' M' k F b q :=
  h.o fx.s fm.s _ _ _ ⟨fun c d h1 _ => x c d h1, fun d _ => xl 19 d (Or.inl rfl), fun d _ => xl 20 d (Or.inr rfl)⟩ ⟨fun c d h1 _ => m c d (by omega) (by omega), fun d _ => ⟨m 53 d (by decide) (by decide), md d⟩⟩
theorem Top.c {X M X' M' : MS} {k F : Nat} (h : Top X M k F) (fx : FX X X') (fm : FM M M') (x7 : ∀ d, d = 6 ∨ d = 7 → X'.1 7 0 d = X.1 7 0 d) (m36 : M'.1 8 0 36 = M.1 8 0 36) (x : ∀ c d, c = 21 ∨ c = 22 ∨ c = 23 → X'.1 c 0 d = X.1 c 0 d) (xl : ∀ c d, c = 19 ∨ c = 20 → X'.2.1 c 0 d = X.2.1 c 0 d) (m : ∀ c d, 50 ≤ c → c ≤ 53 → M'.1 c 0 d = M.1 c 0 d) (md : ∀ d, M'.2.2 54 0 d = M.2.2 54 0 d) : Top X' M' k F := by
  obtain ⟨q, p, b, d, st, lo, L, ⟨a1, a2, a3, a4, a5, a6⟩, ⟨t1, t2, t3, t4, t5, t6, t7, t8, t9⟩, hL, hf, hR⟩ := h
  refine ⟨q, p, b, d, st, lo, L, ⟨a1, by rw [x _ _ (Or.inl rfl)]; exact a2, by rw [m _ _ (by decide) (by decide)]; exact a3, by rw [x _ _ (Or.inr (Or.inl rfl))]; exact a4, by rw [m _ _ (by decide) (by decide)]; exact a5, by rw [x _ _ (Or.inr (Or.inr rfl))]; exact a6⟩, ⟨by rw [x7 _ (Or.inl rfl)]; exact t1, by rw [m36]; exact t2, t3, t4, t5, by rw [x7 _ (Or.inr rfl)]; exact t6, by rw [m _ _ (by decide) (by decide)]; exact t7, fun i hi => ?_, fun l hl => ?_⟩, ⟨by rw [fx.s.2]; exact hL.1, hL.2⟩, hf.s fx.s fm.s, hR.c fx fm x xl m md⟩
  · rw [xl _ _ (Or.inl rfl), m _ _ (by decide) (by decide), md]; exact t8 i hi
  · rw [xl _ _ (Or.inr rfl), m _ _ (by decide) (by decide), md]; exact t9 l hl
theorem fx_step (X : MS) : FX X (xmStep X) := FX_7 X 10 _
theorem fm_inc (M : MS) : FM M (mInc M) := ⟨fun c e d _ _ _ _ a5 => by rw [mInc, wI_o _ _ _ _ _ _ _ _ (fun z => a5 ⟨z.1, by omega⟩)], fun c e d _ => by rw [mInc, wI_2], fun c e d _ => by rw [mInc, wI_2]⟩
theorem Run.step {X M : MS} {k en : Nat} {tk : Nat → Nat} (h : Run X M k en) (htk : ∀ j, j < 5 → X.1 4 j 1 = nI (tk j) ∧ tk j ≤ 3) (h6 : ¬ X.1 7 0 6 ≤ 0) (h9 : X.1 7 0 9 = 0) : opPre tk (xmStep X) ∧ StpPre (mInc M) ∧ Run (xmOp (xmStep X) tk) (mStp (mInc M)) k en ∧ FX X (xmOp (xmStep X) tk) ∧ FM M (mStp (mInc M)) := by
  obtain ⟨hE, hS, hT, hA⟩ := h
  rcases hA with ⟨z, -⟩ | ⟨F, hF8, f6, f36, hTop, -⟩
  · exact absurd (by rw [z]; exact Int32.le_refl _) h6
  · have fx := fx_step X
    have fm := fm_inc M
    have xo : ∀ d, d ≠ 10 → (xmStep X).1 7 0 d = X.1 7 0 d := fun d hd => by rw [xmStep, wI_o _ _ _ _ _ _ _ _ (fun z => hd z.2.2)]
    have mo : ∀ d, d ≠ 45 → (mInc M).1 8 0 d = M.1 8 0 d := fun d hd => by rw [mInc, wI_o _ _ _ _ _ _ _ _ (fun z => hd z.2.2)]
    obtain ⟨q1, q2, q3, q4, q5, q6⟩ := hE
    have hE' : EQ (xmStep X) (mInc M) := ⟨by rw [xo _ (by decide), mo _ (by decide)]; exact q1, by rw [xmStep, wI_rd, mInc, wI_rd, q2], by rw [xo _ (by decide), mo _ (by decide)]; exact q3, by rw [xo _ (by decide), mo _ (by decide)]; exact q4, by rw [xo _ (by decide), mo _ (by decide)]; exact q5, by rw [xmStep, wI_2, mInc, wI_2]; exact q6⟩
    have hTop' : Top (xmStep X) (mInc M) k F := (hTop h9).c fx fm (fun d hd => xo d (by omega)) (mo _ (by decide)) (fun c d hc => by rw [xmStep, wI_o _ _ _ _ _ _ _ _ (fun z => by have := z.1; omega)]) (fun c d hc => by rw [xmStep, wI_2]) (fun c d h1 h2 => by rw [mInc, wI_o _ _ _ _ _ _ _ _ (fun z => by have := z.1; omega)]) (fun d => by rw [mInc, wI_2])
    obtain ⟨j1, j2, j3, j4, j5⟩ := J_step hE' (by rw [xo _ (by decide)]; exact h9) (hS.f fx fm) (hT.f fx fm) hTop' (fun j hj => by rw [fx.1 4 j 1 (by decide) (by decide) (by decide) (by decide)]; exact htk j hj)
    exact ⟨j1, j2, j3, fx.tr j4, fm.tr j5⟩
theorem Run.pos {X M : MS} {k en : Nat} (h : Run X M k en) : (X.1 7 0 6 ≤ 0 ↔ M.1 8 0 36 ≤ 0) ∧ (X.1 7 0 9 = 0 ↔ M.1 8 0 44 = 0) ∧ (¬ M.1 8 0 36 ≤ 0 → ∃ F, F < 8 ∧ M.1 8 0 36 = nI (F + 1)) := by
  refine ⟨?_, by rw [h.1.1], fun z => ?_⟩
  · rcases h.2.2.2 with ⟨z1, z2⟩ | ⟨F, -, f6, f36, -⟩
    · rw [z1, z2]
    · rw [f6, f36]
  · rcases h.2.2.2 with ⟨-, z2⟩ | ⟨F, hF8, -, f36, -⟩
    · exact absurd (by rw [z2]; exact Int32.le_refl _) z
    · exact ⟨F, hF8, f36⟩
theorem J_run {k en : Nat} {tk : Nat → Nat} : ∀ (n : Nat) (X M : MS), Run X M k en → (∀ j, j < 5 → X.1 4 j 1 = nI (tk j) ∧ tk j ≤ 3) → Run (runGo tk n X) (mrnGo n M) k en ∧ FX X (runGo tk n X) ∧ FM M (mrnGo n M)
  | 0, X, M, h, _ => ⟨h, FX.rf X, FM.rf M⟩
  | n + 1, X, M, h, htk => by
    obtain ⟨p1, p2, -⟩ := h.pos
    rw [runGo, mrnGo]
    by_cases c6 : X.1 7 0 6 ≤ 0
    · rw [if_pos c6, if_pos (p1.mp c6)]; exact ⟨h, FX.rf X, FM.rf M⟩
    · rw [if_neg c6, if_neg (fun z => c6 (p1.mpr z))]
      by_cases c9 : X.1 7 0 9 = 0
      · rw [if_pos c9, if_pos (p2.mp c9)]
        obtain ⟨-, -, j3, j4, j5⟩ := h.step htk c6 c9
        obtain ⟨r1, r2, r3⟩ := J_run n _ _ j3 (fun j hj => by rw [j4.1 4 j 1 (by decide) (by decide) (by decide) (by decide)]; exact htk j hj)
        exact ⟨r1, j4.tr r2, j5.tr r3⟩
      · rw [if_neg c9, if_neg (fun z => c9 (p2.mpr z))]; exact ⟨h, FX.rf X, FM.rf M⟩
theorem J_runEnd {X M : MS} {k en : Nat} (h : Run X M k en) : Run (xmRunEnd X) (mRunEnd M) k en ∧ FX X (xmRunEnd X) ∧ FM M (mRunEnd M) := by
  obtain ⟨p1, p2, -⟩ := h.pos
  rw [xmRunEnd, mRunEnd]
  by_cases c6 : X.1 7 0 6 ≤ 0
  · rw [if_pos c6, if_pos (p1.mp c6)]; exact ⟨h, FX.rf X, FM.rf M⟩
  · rw [if_neg c6, if_neg (fun z => c6 (p1.mpr z))]
    by_cases c9 : X.1 7 0 9 = 0
    · rw [if_pos c9, if_pos (p2.mp c9)]
      obtain ⟨hE, hS, hT, hA⟩ := h
      rcases hA with ⟨z, -⟩ | ⟨F, hF8, f6, f36, hTop, p, h22, h51⟩
      · exact absurd (by rw [z]; exact Int32.le_refl _) c6
      · have g := nI_guard (N := 8) (M := 8) rfl hF8 (by decide)
        have e1 : xmNext X = nI p := by rw [xmNext, f6, nI_m1, if_neg g.1, if_neg g.2, nI_c (by omega), h22]
        have e2 : mF M = F := by rw [mF, f36, nI_m1, nI_c (by omega)]
        rw [e1, e2]
        exact Run.fl (p := p) hE hS hT hF8 f6 f36 (FX_7 X 8 _) (fun d _ h2 => wI_o _ _ _ _ _ _ _ _ (fun z => h2 z.2.2)) (by rw [wI_2]) (by rw [wI_rd]) ⟨p, by rw [wI_o _ _ _ _ _ _ _ _ (fun z => absurd z.1 (by decide))]; exact h22⟩ (FM.rf M) (fun _ => rfl) rfl (h51 c9) (by decide)
    · rw [if_neg c9, if_neg (fun z => c9 (p2.mpr z))]; exact ⟨h, FX.rf X, FM.rf M⟩
