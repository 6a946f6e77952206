/-! the two sides read alike: the FILE -/
def RQ (X M : MS) (q : Nat) : Prop := X.1 4 q 7 = 0 ∧ ∃ t g lc st L mp, RMx X M q t g lc st L mp
def MI (X M : MS) (n en k : Nat) : Prop := QR X M n ∧ (M.1 8 0 28 = 0 → X.1 2 0 3 = nI k ∧ RP X M en ∧ RN X M en k ∧ ∀ q, q < k → RQ X M q)
theorem MI.go {n en : Nat} : ∀ (m k : Nat) (X M : MS), k + m ≤ 5 → MI X M n en k → MI (mtGo m X) (mfGo m k M) n en (k + m)
  | 0, k, X, M, _, h => h
  | m + 1, k, X, M, hk, h => by
    obtain ⟨h1, h2⟩ := h
    rw [mtGo, mfGo]
    by_cases hf : M.1 8 0 28 = 0
    · obtain ⟨a1, a2, a3, a4⟩ := h2 hf
      have hok : okN X = true := by
        have g := nI_guard (N := 5) (M := 5) rfl (show k < 5 by omega) (by decide)
        simp only [okN, a1, Bool.and_eq_true, decide_eq_true_eq]
        exact g
      have hmq : mtQ X = k := by rw [mtQ, a1, nI_c (by omega)]
      rw [if_pos (h1.2.1.trans hf), if_pos hf, if_pos hok, show k + (m + 1) = k + 1 + m by omega]
      obtain ⟨b1, b2⟩ := h1.meth hf (show k < 5 by omega) a1 a2 a3
      refine MI.go m (k + 1) _ _ (by omega) ⟨b1, fun hz => ?_⟩
      obtain ⟨c1, c2, c3, c4, c5⟩ := b2 hz
      refine ⟨c1, c2, c3, fun q hq => ?_⟩
      by_cases hqk : q = k
      · rw [hqk]; exact ⟨c4, c5⟩
      · obtain ⟨d1, t, g, lc, st, L, mp, d2⟩ := a4 q (by omega)
        have hx : ∀ b d, b ≠ 5 → b ≠ 2 → (mtS X).1 b q d = X.1 b q d := fun b d hb hb2 => mtS_o X b q d hb (fun z => hb2 z.1) (fun z => hqk (z.1.trans hmq))
        exact ⟨by rw [hx 4 7 (by decide) (by decide)]; exact d1, t, g, lc, st, L, mp, d2.same (fun b d hb _ => hx b d (by omega) (by omega)) (fun b d hb1 hb2 hs => mmS_any M (by omega) (fun z => hqk (hs.symm.trans z.2.2)))⟩
    · rw [if_neg (by rw [h1.2.1]; exact hf), if_neg hf]
      exact ⟨h1, fun z => absurd z hf⟩
theorem sumTo_congr {f g : Nat → Int32} : ∀ k, (∀ j, j < k → f j = g j) → sumTo f k = sumTo g k
  | 0, _ => rfl
  | k + 1, h => by rw [sumTo, sumTo, sumTo_congr k (fun j hj => h j (by omega)), h k (by omega)]
/-- the SUM -/
theorem QR.sum {X M : MS} {n : Nat} (h : QR X M n) : QR (takeS X (sumX X (X.1 5 0 0)) (sumX X (X.1 5 0 0)) 9) (mf7 M) n := by
  obtain ⟨a, b, c, d⟩ := h
  have hn := a.1
  by_cases hf : M.1 8 0 28 = 0
  · obtain ⟨p, hp, hx, hm⟩ := c hf
    have hxf : X.1 5 0 1 = 0 := b.trans hf
    generalize hs : sumX X (X.1 5 0 0) = s
    by_cases hpn : p = n
    · subst hpn
      have e2 : takeS X s s 9 = wI X 5 0 1 1 := by rw [takeS, if_pos hxf, hx, byteT_e a, if_pos rfl]
      have e0 : takeS X 0 255 1 = wI X 5 0 1 1 := by rw [takeS, if_pos hxf, hx, byteT_e a, if_pos rfl]
      have h2 := (QR.raw ⟨a, b, c, d⟩ 1).2
      have hmn : M.1 8 0 31 = M.1 8 0 1 := by rw [hm, a.2.2.1]
      have e4 : (mTakeS M).1 8 0 28 = 1 := by rw [mTakeS, if_pos hf, if_pos hmn]; exact (mFault_set hf _ _).1
      have e7 : mf7 M = mTakeS M := by rw [mf7, if_neg (by rw [e4]; decide)]
      rw [e7, e2, ← e0]; exact h2
    · have hpl : p < n := by omega
      obtain ⟨y, hy, hB, hM⟩ := byteT_n a hpl
      have hmn : ¬ M.1 8 0 31 = M.1 8 0 1 := by rw [hm, a.2.2.1, nI_eq (by omega) (by omega)]; exact hpn
      have e3 : mTakeS M = wI M 8 0 31 (nI (p + 1)) := by rw [mTakeS, if_pos hf, if_neg hmn, hm, nI_1]
      have e3f : (mTakeS M).1 8 0 28 = 0 := by rw [e3, wI_o _ _ _ _ _ _ _ _ (by decide)]; exact hf
      have e3p : (mTakeS M).1 8 0 31 = nI (p + 1) := by rw [e3, wI_rd]
      have e4 : mTakeV M = nI y := by rw [mTakeV, if_pos hf, if_neg hmn, hm, nI_c (by omega), hM]
      have es : sumTo ((mTakeS M).1 24 0) p &&& 255 = s := by
        rw [← hs, sumX, hx, nI_c (by omega), show min p 500 = p by omega]
        congr 1
        refine sumTo_congr p (fun j hj => ?_)
        rw [mTakeS_o _ _ _ _ (nz8 (by decide)) (nz8 (by decide)) (nz8 (by decide))]
        exact ((a.2.2.2 j (by omega)).1).symm
      by_cases hok : nI y = s
      · have g1 : ¬ nI y < s := by rw [hok]; exact fun z => Int32.lt_irrefl z
        have g2 : nI y ≤ s := by rw [hok]; exact Int32.le_refl _
        have e2 : takeS X s s 9 = wI X 5 0 0 (nI (p + 1)) := by rw [takeS, if_pos hxf, hx, hB, if_neg (nI_m1' hy), if_neg g1, if_pos g2, nI_1]
        have e7 : mf7 M = mTakeS M := by rw [mf7, if_pos e3f, e3p, nI_m1, nI_c (by omega), es, if_pos (e4.trans hok)]
        rw [e7, e2, e3]
        refine ⟨a.same (wI_o _ _ _ _ _ _ _ _ (by decide)) (wI_o _ _ _ _ _ _ _ _ (by decide)) (fun j => wI_o _ _ _ _ _ _ _ _ (fun z => absurd z.1 (by decide))) (fun j => wI_o _ _ _ _ _ _ _ _ (fun z => absurd z.1 (by decide))), ?_, ?_, ?_⟩
        · rw [wI_o _ _ _ _ _ _ _ _ (by decide), wI_o _ _ _ _ _ _ _ _ (by decide)]; exact b
        · intro _; exact ⟨p + 1, by omega, wI_rd .., wI_rd ..⟩
        · intro z; rw [wI_o _ _ _ _ _ _ _ _ (by decide)] at z; exact absurd hf z
      · have e2 : takeS X s s 9 = wI X 5 0 1 9 := by
          rw [takeS, if_pos hxf, hx, hB, if_neg (nI_m1' hy)]
          by_cases z : nI y < s
          · rw [if_pos z]
          · rw [if_neg z, if_neg (fun t => hok (Int32.le_antisymm t (Int32.not_lt.mp z)))]
        have e7 : mf7 M = mFaultS (mTakeS M) 9 (nI p) := by rw [mf7, if_pos e3f, e3p, nI_m1, nI_c (by omega), es, if_neg (by rw [e4]; exact hok)]
        obtain ⟨f1, f2⟩ := mFault_set e3f 9 (nI p)
        rw [e2, e7]
        refine ⟨a.same (wI_o _ _ _ _ _ _ _ _ (by decide)) ?_ (fun j => wI_o _ _ _ _ _ _ _ _ (fun z => absurd z.1 (by decide))) (fun j => ?_), ?_, ?_, ?_⟩
        · rw [mFaultS_o _ _ _ _ _ _ (by decide) (by decide), e3, wI_o _ _ _ _ _ _ _ _ (by decide)]
        · rw [mFaultS_o _ _ _ _ _ _ (nz8 (by decide)) (nz8 (by decide)), e3, wI_o _ _ _ _ _ _ _ _ (fun z => absurd z.1 (by decide))]
        · rw [wI_rd, f1]
        · intro z; rw [f1] at z; exact absurd z (by decide)
        · intro _; rw [f2, wI_o _ _ _ _ _ _ _ _ (by decide), hx]
  · have hxf : ¬ X.1 5 0 1 = 0 := by rw [b]; exact hf
    have eM : mTakeS M = M := by rw [mTakeS, if_neg hf]
    rw [takeS, if_neg hxf, mf7, eM, if_neg hf]
    exact ⟨a, b, c, d⟩
def rf7 (X : MS) : MS := if X.1 5 0 1 = 0 then (if hasT X (X.1 5 0 0) = true then wI X 5 0 1 10 else X) else X
theorem QR.more {X M : MS} {n : Nat} (h : QR X M n) : QR (rf7 X) (mf8 M) n := by
  obtain ⟨a, b, c, d⟩ := h
  have hn := a.1
  by_cases hf : M.1 8 0 28 = 0
  · obtain ⟨p, hp, hx, hm⟩ := c hf
    have hxf : X.1 5 0 1 = 0 := b.trans hf
    by_cases hpn : p = n
    · subst hpn
      have h1 : ¬ hasT X (nI p) = true := by
        intro z
        simp only [hasT, Bool.and_eq_true, decide_eq_true_eq] at z
        exact z.1.2 (by rw [a.2.1]; exact Int32.le_refl _)
      rw [rf7, if_pos hxf, hx, if_neg h1, mf8, if_pos hf, if_pos (by rw [a.2.2.1, hm]; exact Int32.le_refl _)]
      exact ⟨a, b, c, d⟩
    · have h1 : hasT X (nI p) = true := hasT_n a.1 a.2.1 (by omega)
      have h2 : ¬ M.1 8 0 1 ≤ M.1 8 0 31 := by rw [a.2.2.1, hm, nI_leI (by omega) (by omega)]; omega
      obtain ⟨f1, f2⟩ := mFault_set hf 10 (M.1 8 0 31)
      rw [rf7, if_pos hxf, hx, if_pos h1, mf8, if_pos hf, if_neg h2]
      refine ⟨a.same (wI_o _ _ _ _ _ _ _ _ (by decide)) (mFaultS_o _ _ _ _ _ _ (by decide) (by decide)) (fun j => wI_o _ _ _ _ _ _ _ _ (fun z => absurd z.1 (by decide))) (fun j => mFaultS_o _ _ _ _ _ _ (nz8 (by decide)) (nz8 (by decide))), ?_, ?_, ?_⟩
      · rw [wI_rd, f1]
      · intro z; rw [f1] at z; exact absurd z (by decide)
      · intro _; rw [f2, wI_o _ _ _ _ _ _ _ _ (by decide), hx, hm]
  · rw [rf7, if_neg (by rw [b]; exact hf), mf8, if_neg hf]
    exact ⟨a, b, c, d⟩
/-- a FILE that was read without fault, alike on both sides -/
def RQ0 (X M : MS) (q : Nat) : Prop := ∃ t g lc st L mp, RMx X M q t g lc st L mp
def RFile (X M : MS) (k en : Nat) : Prop := 1 ≤ k ∧ k ≤ 5 ∧ X.1 2 0 3 = nI k ∧ M.1 8 0 9 = nI k ∧ X.1 2 0 2 = M.1 8 0 3 ∧ RP X M en ∧ RN X M en k ∧ ∀ q, q < k → RQ0 X M q
theorem rf7_o (X : MS) (a b d : Nat) (h : a ≠ 5) : (rf7 X).1 a b d = X.1 a b d := by
  unfold rf7
  (repeat' split) <;> first | rfl | exact wI_o _ _ _ _ _ _ _ _ (fun z => h z.1)
theorem rf7_2 (X : MS) : (rf7 X).2 = X.2 := by unfold rf7; (repeat' split) <;> rfl
theorem mf8_o (M : MS) (b d : Nat) (h : b ≠ 8) : (mf8 M).1 b 0 d = M.1 b 0 d := by
  unfold mf8
  (repeat' split) <;> first | rfl | exact mFaultS_o _ _ _ _ _ _ (nz8 h) (nz8 h)
theorem mf8_8 (M : MS) (d : Nat) (h : d ≠ 28 ∧ d ≠ 29) : (mf8 M).1 8 0 d = M.1 8 0 d := by
  unfold mf8
  (repeat' split) <;> first | rfl | exact mFaultS_o _ _ _ _ _ _ (fun z => h.1 z.2.2) (fun z => h.2 z.2.2)
theorem mf8_2 (M : MS) : (mf8 M).2 = M.2 := by unfold mf8; (repeat' split) <;> first | rfl | exact mFaultS_2 _ _ _
theorem mf7_o (M : MS) (b d : Nat) (h : b ≠ 8) : (mf7 M).1 b 0 d = M.1 b 0 d := by
  unfold mf7
  (repeat' split) <;> first | exact mTakeS_o _ _ _ _ (nz8 h) (nz8 h) (nz8 h) | rw [mFaultS_o _ _ _ _ _ _ (nz8 h) (nz8 h), mTakeS_o _ _ _ _ (nz8 h) (nz8 h) (nz8 h)]
theorem mf7_8 (M : MS) (d : Nat) (h : d ≠ 28 ∧ d ≠ 29 ∧ d ≠ 31) : (mf7 M).1 8 0 d = M.1 8 0 d := by
  have g1 : ¬ (8 = 8 ∧ (0 : Nat) = 0 ∧ d = 28) := fun z => h.1 z.2.2
  have g2 : ¬ (8 = 8 ∧ (0 : Nat) = 0 ∧ d = 29) := fun z => h.2.1 z.2.2
  have g3 : ¬ (8 = 8 ∧ (0 : Nat) = 0 ∧ d = 31) := fun z => h.2.2 z.2.2
  unfold mf7
  (repeat' split) <;> first | exact mTakeS_o _ _ _ _ g1 g2 g3 | rw [mFaultS_o _ _ _ _ _ _ g1 g2, mTakeS_o _ _ _ _ g1 g2 g3]
theorem mf7_2 (M : MS) : (mf7 M).2 = M.2 := by
  unfold mf7
  (repeat' split) <;> first | exact mTakeS_2 _ | exact (mFaultS_2 _ _ _).trans (mTakeS_2 _)
theorem mf7_f {M : MS} (h : (mf7 M).1 8 0 28 = 0) : M.1 8 0 28 = 0 := by
  unfold mf7 at h
  split at h
  · split at h
    · exact mTakeS_f h
    · exact (mFaultS_0 (by decide) h).elim
  · exact mTakeS_f h
theorem mf8_f {M : MS} (h : (mf8 M).1 8 0 28 = 0) : M.1 8 0 28 = 0 := by
  unfold mf8 at h
  split at h
  · assumption
  · exact h
theorem mfGo_8 (d : Nat) (h : d ≠ 28 ∧ d ≠ 29 ∧ d ≠ 31) : ∀ (n k : Nat) (M : MS), (mfGo n k M).1 8 0 d = M.1 8 0 d
  | 0, _, _ => rfl
  | n + 1, k, M => by
    rw [mfGo]
    split
    · rw [mfGo_8 d h n, mmS_o _ _ _ _ _ (fun z => h.1 z.2.2) (fun z => h.2.1 z.2.2) (fun z => h.2.2 z.2.2) (fun z => absurd z.1 (by decide)) (by decide)]
    · rfl
theorem mtGo_22 : ∀ (n : Nat) (X : MS), (mtGo n X).1 2 0 2 = X.1 2 0 2
  | 0, _ => rfl
  | n + 1, X => by
    rw [mtGo]
    split
    · rw [mtGo_22 n]
      split
      · exact mtS_o X 2 0 2 (by decide) (by decide) (fun z => by have := z.2; omega)
      · rfl
    · rfl
theorem RQ0.same {X M X' M' : MS} {q : Nat} (h : RQ0 X M q) (x : ∀ b d, b = 4 ∨ b = 14 ∨ b = 15 ∨ b = 16 → ¬ (b = 4 ∧ d = 7) → X'.1 b q d = X.1 b q d) (m : ∀ b d, 30 ≤ b → b ≤ 42 → M'.1 b 0 d = M.1 b 0 d) : RQ0 X' M' q := by
  obtain ⟨t, g, lc, st, L, mp, h2⟩ := h
  exact ⟨t, g, lc, st, L, mp, h2.same (fun b d hb hn => x b d hb hn) (fun b d h1 h2 _ => m b d h1 h2)⟩
/-- the class's kinds that a FILE read lies in -/
abbrev KX (b d : Nat) : Prop := b ≠ 17 ∧ ((2 ≤ b ∧ b ≤ 4) ∨ (10 ≤ b ∧ b ≤ 16)) ∧ (b = 4 → d ≠ 7)
abbrev KY (b : Nat) : Prop := b ≠ 17 ∧ ((2 ≤ b ∧ b ≤ 3) ∨ (10 ≤ b ∧ b ≤ 16))
theorem KX_ne {b d : Nat} (h : KY b) : KX b d := ⟨h.1, by have := h.2; omega, fun z => by have := h.2; omega⟩
theorem RFile.same {X M X' M' : MS} {k en : Nat} (h : RFile X M k en) (x : ∀ b c d, b ≠ 6 → KX b d → X'.1 b c d = X.1 b c d) (x2 : ∀ d, X'.2.1 13 0 d = X.2.1 13 0 d) (m : ∀ b d, 26 ≤ b → b ≤ 42 → M'.1 b 0 d = M.1 b 0 d) (m8 : ∀ d, d = 3 ∨ d = 4 ∨ d = 9 → M'.1 8 0 d = M.1 8 0 d) (m2 : ∀ d, M'.2.1 27 0 d = M.2.1 27 0 d) : RFile X' M' k en := by
  obtain ⟨a1, a2, a3, a4, a5, a6, a7, a8⟩ := h
  refine ⟨a1, a2, (x 2 0 3 (by decide) (by decide)).trans a3, (m8 9 (by decide)).trans a4, by rw [x 2 0 2 (by decide) (by decide), m8 3 (by decide)]; exact a5, a6.same (fun b d hb => x b 0 d (by omega) ⟨by omega, by omega, fun z => by omega⟩) x2 (m8 4 (by decide)) (fun b d hb => m b d (by omega) (by omega)) m2, a7.same (fun k _ => x 4 k 0 (by decide) (by decide)) (fun k _ => m 30 k (by decide) (by decide)) (fun d => m 26 d (by decide) (by decide)), fun q hq => (a8 q hq).same (fun b d hb hn => x b q d (by omega) ⟨by omega, by omega, fun z y => hn ⟨z, y⟩⟩) (fun b d h1 h2 => m b d (by omega) h2)⟩
theorem rfS_eq (X : MS) : rfS X = rf7 (rf6 X) := rfl
theorem entS_o (Y : MS) (a b d : Nat) (h5 : a ≠ 5) (h11 : a ≠ 11) (h12 : a ≠ 12) (h3 : a ≠ 3) : (entS Y).1 a b d = Y.1 a b d := by
  unfold entS
  split
  · rw [appP_o _ _ _ _ _ _ _ h11 h12 h3, manyGo_o _ _ _ _ _ h5, takeS_o _ _ _ _ _ _ _ h5]
  · split
    · rw [appP_o _ _ _ _ _ _ _ h11 h12 h3, manyGo_o _ _ _ _ _ h5, takeS_o _ _ _ _ _ _ _ h5]
    · rw [appP_o _ _ _ _ _ _ _ h11 h12 h3, manyGo_o _ _ _ _ _ h5, takeS_o _ _ _ _ _ _ _ h5, takeS_o _ _ _ _ _ _ _ h5]
theorem poolGo_o (a b d : Nat) (h5 : a ≠ 5) (h11 : a ≠ 11) (h12 : a ≠ 12) (h3 : a ≠ 3) : ∀ (k : Nat) (Y : MS), (poolGo k Y).1 a b d = Y.1 a b d
  | 0, _ => rfl
  | k + 1, Y => by
    rw [poolGo]
    split
    · rw [poolGo_o a b d h5 h11 h12 h3 k, entS_o _ _ _ _ h5 h11 h12 h3]
    · rfl
theorem mfGo_f : ∀ (m j : Nat) (N : MS), (mfGo m j N).1 8 0 28 = 0 → N.1 8 0 28 = 0
  | 0, _, _, h => h
  | m + 1, j, N, h => by
    by_cases hN : N.1 8 0 28 = 0
    · exact hN
    · rw [mfGo, if_neg hN] at h; exact h
theorem QR.file {X M : MS} {n : Nat} (hT : QT X M n) (hf : M.1 8 0 28 = 0) : QR (rfS X) (mfS M) n ∧ ((mfS M).1 8 0 28 = 0 → ∃ k en, RFile (rfS X) (mfS M) k en ∧ ∀ q, q < k → (rfS X).1 4 q 7 = 0) := by
  have q0 : QR (rf0 X) (wI M 8 0 31 0) n := by
    have o : ∀ b d, b ≠ 5 → b ≠ 2 → b ≠ 3 → (rf0 X).1 b 0 d = X.1 b 0 d := fun b d h5 h2 h3 => by
      rw [rf0, forgetG, wI_o _ _ _ _ _ _ _ _ (fun z => h3 z.1), wI_o _ _ _ _ _ _ _ _ (fun z => h2 z.1), wI_o _ _ _ _ _ _ _ _ (fun z => h2 z.1), wI_o _ _ _ _ _ _ _ _ (fun z => h5 z.1), wI_o _ _ _ _ _ _ _ _ (fun z => h5 z.1)]
    have f0 : (wI M 8 0 31 0).1 8 0 28 = 0 := by rw [wI_o _ _ _ _ _ _ _ _ (by decide)]; exact hf
    have x1 : (rf0 X).1 5 0 1 = 0 := by rw [rf0, forgetG, wI_o _ _ _ _ _ _ _ _ (by decide), wI_o _ _ _ _ _ _ _ _ (by decide), wI_o _ _ _ _ _ _ _ _ (by decide), wI_rd]
    have x0 : (rf0 X).1 5 0 0 = 0 := by rw [rf0, forgetG, wI_o _ _ _ _ _ _ _ _ (by decide), wI_o _ _ _ _ _ _ _ _ (by decide), wI_o _ _ _ _ _ _ _ _ (by decide), wI_o _ _ _ _ _ _ _ _ (by decide), wI_rd]
    exact ⟨hT.same (o 1 1 (by decide) (by decide) (by decide)) (wI_o _ _ _ _ _ _ _ _ (by decide)) (fun j => o 9 j (by decide) (by decide) (by decide)) (fun j => wI_o _ _ _ _ _ _ _ _ (fun z => absurd z.1 (by decide))), x1.trans f0.symm, fun _ => ⟨0, Nat.zero_le _, x0, wI_rd ..⟩, fun z => absurd f0 z⟩
  have q1 := (q0.tk 73 73 2 (by decide)).2
  have q2 : QR (rf2 X) (mf2 M) n := by rw [rf2, mf2]; exact (q1.tk 78 78 2 (by decide)).2
  obtain ⟨v3, q3a⟩ := q2.tk 1 2 2 (by decide)
  have q3 : QR (rf3 X) (mf3 M) n := by
    rw [rf3, mf3]
    exact QR.same (q3a.wX (k := 2) (i := 0) (j := 2) (v := takeV (rf2 X) 1 2) (by decide)) (fun _ _ _ => rfl) (fun d hd => wI_o _ _ _ _ _ _ _ _ (fun z => by have := z.2.2; omega)) (fun j => wI_o _ _ _ _ _ _ _ _ (fun z => absurd z.1 (by decide)))
  have r33 : (rf3 X).1 3 0 3 = 0 := by
    rw [rf3, wI_o _ _ _ _ _ _ _ _ (by decide), takeS_o _ _ _ _ _ _ _ (by decide), rf2, takeS_o _ _ _ _ _ _ _ (by decide), takeS_o _ _ _ _ _ _ _ (by decide), rf0, forgetG, wI_rd]
  have r23 : (rf3 X).1 2 0 3 = 0 := by
    rw [rf3, wI_o _ _ _ _ _ _ _ _ (by decide), takeS_o _ _ _ _ _ _ _ (by decide), rf2, takeS_o _ _ _ _ _ _ _ (by decide), takeS_o _ _ _ _ _ _ _ (by decide), rf0, forgetG, wI_o _ _ _ _ _ _ _ _ (by decide), wI_rd]
  have r22 : (rf3 X).1 2 0 2 = (mf3 M).1 8 0 3 := by rw [rf3, wI_rd, mf3, wI_rd, v3]
  obtain ⟨en, hen, hE, hPI⟩ := q3.pool r33
  obtain ⟨q4, l4⟩ := hPI
  have p23 : ∀ d, (poolS (rf3 X)).1 2 0 d = (rf3 X).1 2 0 d := fun d => by rw [poolS, poolGo_o _ _ _ (by decide) (by decide) (by decide) (by decide), takeS_o _ _ _ _ _ _ _ (by decide)]
  have m83 : (mPool (mf3 M)).1 8 0 3 = (mf3 M).1 8 0 3 := by
    rw [mPool, mPoolGo_o _ _ _ (by decide) (by decide) (by decide) (by decide) (by decide) (by decide), mPool1, wI_o _ _ _ _ _ _ _ _ (by decide), mTknS_o _ _ _ _ _ _ _ (by decide) (by decide) (by decide)]
  obtain ⟨v5, q5a⟩ := q4.tk 1 5 3 (by decide)
  have q5 : QR (takeS (poolS (rf3 X)) 1 5 3) (mf5 M) n := by
    rw [mf5]
    exact QR.same q5a (fun _ _ _ => rfl) (fun d hd => wI_o _ _ _ _ _ _ _ _ (fun z => by have := z.2.2; omega)) (fun j => wI_o _ _ _ _ _ _ _ _ (fun z => absurd z.1 (by decide)))
  obtain ⟨k, hk, hK⟩ := mf5_mt M
  have vK : mTknV (mPool (mf3 M)) 1 5 3 = nI k := by rw [← hK, mf5, wI_rd]
  have e5 : rf5 X = mtGo k (takeS (poolS (rf3 X)) 1 5 3) := by rw [rf5, methodsS, v5, vK, nI_c (by omega)]
  have f5 : mf6 M = mfGo k 0 (mf5 M) := by rw [mf6, hK, nI_c (by omega)]
  have h5f : (mf5 M).1 8 0 28 = 0 → (mPool (mf3 M)).1 8 0 28 = 0 := fun z => by
    rw [mf5, wI_o _ _ _ _ _ _ _ _ (by decide)] at z; exact mTknS_f z
  have hMI : MI (takeS (poolS (rf3 X)) 1 5 3) (mf5 M) n en 0 := ⟨q5, fun z => by
    obtain ⟨z1, z2⟩ := l4 (h5f z)
    refine ⟨by rw [takeS_o _ _ _ _ _ _ _ (by decide), p23]; exact r23, ?_, fun j hj => absurd hj (Nat.not_lt_zero _), fun j hj => absurd hj (Nat.not_lt_zero _)⟩
    refine RP.same (X := poolS (rf3 X)) (M := mPool (mf3 M)) ⟨hen, z1, hE, z2⟩ (fun b d hb => takeS_o _ _ _ _ _ _ _ (by omega)) (fun d => by rw [takeS_2]) ?_ (fun b d hb => ?_) (fun d => ?_)
    · rw [mf5, wI_o _ _ _ _ _ _ _ _ (by decide), mTknS_o _ _ _ _ _ _ _ (by decide) (by decide) (by decide)]
    · rw [mf5, wI_o _ _ _ _ _ _ _ _ (fun z => by omega), mTknS_o _ _ _ _ _ _ _ (nz8 (by omega)) (nz8 (by omega)) (nz8 (by omega))]
    · rw [mf5, wI_2, mTknS_2]⟩
  have hMI2 := MI.go k 0 _ _ (by omega) hMI
  rw [← e5, ← f5, Nat.zero_add] at hMI2
  obtain ⟨q6, l6⟩ := hMI2
  have q7 : QR (rf6 X) (mf7 (mf6 M)) n := by rw [rf6]; exact q6.sum
  have q8 : QR (rfS X) (mfS M) n := by rw [rfS_eq, mfS]; exact q7.more
  refine ⟨q8, fun hz => ?_⟩
  have hz7 : (mf7 (mf6 M)).1 8 0 28 = 0 := by rw [mfS] at hz; exact mf8_f hz
  have hz6 : (mf6 M).1 8 0 28 = 0 := mf7_f hz7
  obtain ⟨a1, a2, a3, a4⟩ := l6 hz6
  have hz5 : (mf5 M).1 8 0 28 = 0 := by
    rw [f5] at hz6
    exact mfGo_f k 0 _ hz6
  have hk1 : 1 ≤ k := by
    rw [mf5, wI_o _ _ _ _ _ _ _ _ (by decide)] at hz5
    obtain ⟨c, c1, c2, c3⟩ := mIn_N (mTkn_in (by decide) hz5) (a := 1) (b := 5) rfl rfl (by decide) (by decide)
    rw [vK, nI_eq (by omega) (by omega)] at c3
    omega
  have hF : RFile (rf5 X) (mf6 M) k en := by
    refine ⟨hk1, hk, a1, ?_, ?_, a2, a3, fun q hq => (a4 q hq).2⟩
    · rw [f5, mfGo_8 9 (by decide)]; exact hK
    · rw [e5, mtGo_22, takeS_o _ _ _ _ _ _ _ (by decide), p23, r22, f5, mfGo_8 3 (by decide), mf5, wI_o _ _ _ _ _ _ _ _ (by decide), mTknS_o _ _ _ _ _ _ _ (by decide) (by decide) (by decide), m83]
  refine ⟨k, en, hF.same (fun b c d h6 hkx => ?_) (fun d => ?_) (fun b d h1 h2 => ?_) (fun d hd => ?_) (fun d => ?_), fun q hq => ?_⟩
  · have h5 : b ≠ 5 := by have := hkx.2; omega
    rw [rfS_eq, rf7_o _ _ _ _ h5, rf6, takeS_o _ _ _ _ _ _ _ h5]
  · rw [rfS_eq, rf7_2, rf6, takeS_2]
  · rw [mfS, mf8_o _ _ _ (by omega), mf7_o _ _ _ (by omega)]
  · rw [mfS, mf8_8 _ _ (by omega), mf7_8 _ _ (by omega)]
  · rw [mfS, mf8_2, mf7_2]
  · rw [rfS_eq, rf7_o _ _ _ _ (by decide), rf6, takeS_o _ _ _ _ _ _ _ (by decide)]; exact (a4 q hq).1
