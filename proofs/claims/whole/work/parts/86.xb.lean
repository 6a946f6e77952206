/-! what the class's METHODs keep within bounds, FILE or no FILE -/
def XBq (X : MS) (q : Nat) : Prop := (∃ a, a ≤ 48 ∧ X.1 4 q 5 = nI a) ∧ (∃ b, b ≤ 8 ∧ X.1 4 q 6 = nI b) ∧ ∃ t, t ≤ 3 ∧ X.1 4 q 1 = nI t
def XB (X : MS) : Prop := ∀ q, q < 5 → XBq X q
theorem XBq.same {X X' : MS} {q : Nat} (h : XBq X q) (h1 : X'.1 4 q 1 = X.1 4 q 1) (h5 : X'.1 4 q 5 = X.1 4 q 5) (h6 : X'.1 4 q 6 = X.1 4 q 6) : XBq X' q := by
  obtain ⟨⟨a, a1, a2⟩, ⟨b, b1, b2⟩, t, t1, t2⟩ := h
  exact ⟨⟨a, a1, h5.trans a2⟩, ⟨b, b1, h6.trans b2⟩, t, t1, h1.trans t2⟩
theorem XB.same {X X' : MS} (h : XB X) (x : ∀ q d, X'.1 4 q d = X.1 4 q d) : XB X' := fun q hq => (h q hq).same (x _ _) (x _ _) (x _ _)
theorem i32_nI {v : Int32} {n : Nat} (h0 : ¬ v < 0) (h : v.toInt ≤ n) : ∃ j, j ≤ n ∧ v = nI j := by
  have h1 : (0 : Int32).toInt ≤ v.toInt := Int32.le_iff_toInt_le.mp (Int32.not_lt.mp h0)
  have h2 : (0 : Int32).toInt = 0 := rfl
  refine ⟨v.toInt.toNat, by omega, ?_⟩
  apply Int32.toInt_inj.mp
  have := v.toInt_lt
  rw [nI_toInt (by omega)]
  omega
theorem takeV_rng (S : MS) {lo up : Int32} {n : Nat} (hM : up.toInt = n) (hlo : ¬ lo < 0) : ∃ j, j ≤ n ∧ takeV S lo up = nI j := by
  unfold takeV
  by_cases h1 : S.1 5 0 1 = 0
  · rw [if_pos h1]
    by_cases h2 : byteT S (S.1 5 0 0) = -1
    · rw [if_pos h2]; exact ⟨0, Nat.zero_le _, rfl⟩
    · rw [if_neg h2]
      by_cases h3 : byteT S (S.1 5 0 0) < lo
      · rw [if_pos h3]; exact ⟨0, Nat.zero_le _, rfl⟩
      · rw [if_neg h3]
        by_cases h4 : byteT S (S.1 5 0 0) ≤ up
        · rw [if_pos h4]
          refine i32_nI (fun z => h3 (Int32.lt_of_lt_of_le z (Int32.not_lt.mp hlo))) ?_
          have := Int32.le_iff_toInt_le.mp h4
          omega
        · rw [if_neg h4]; exact ⟨0, Nat.zero_le _, rfl⟩
  · rw [if_neg h1]; exact ⟨0, Nat.zero_le _, rfl⟩
theorem appMapM_6 {S : MS} {q : Nat} {p k : Int32} (h : ∃ b, b ≤ 8 ∧ S.1 4 q 6 = nI b) : ∃ b, b ≤ 8 ∧ (appMapM S q p k).1 4 q 6 = nI b := by
  obtain ⟨b, b1, b2⟩ := h
  unfold appMapM
  by_cases c : ¬ S.1 4 q 6 < 0 ∧ ¬ 8 ≤ S.1 4 q 6
  · rw [if_pos c, wI_rd, b2, nI_1]
    have := c.2
    rw [b2, show (8 : Int32) = nI 8 from rfl, nI_leI (by omega) (by omega)] at this
    exact ⟨b + 1, by omega, rfl⟩
  · rw [if_neg c]; exact ⟨b, b1, b2⟩
theorem rmGo_6 (q : Nat) : ∀ (n : Nat) (low : Int32) (S : MS), (∃ b, b ≤ 8 ∧ S.1 4 q 6 = nI b) → ∃ b, b ≤ 8 ∧ (rmGo q n low S).1 4 q 6 = nI b
  | 0, _, _, h => h
  | n + 1, low, S, h => by
    rw [rmGo]
    by_cases c : S.1 5 0 1 = 0
    · rw [if_pos c]
      refine rmGo_6 q n _ _ (appMapM_6 ?_)
      rw [mapK_o _ _ _ _ _ (by decide), takeS_o _ _ _ _ _ _ _ (by decide)]
      exact h
    · rw [if_neg c]; exact h
theorem hd5_1 (S : MS) (q : Nat) : ∃ t, t ≤ 3 ∧ (hd5 S q).1 4 q 1 = nI t := by
  rw [hd5, wI_o _ _ _ _ _ _ _ _ (by omega), takeS_o _ _ _ _ _ _ _ (by decide), hd4, wI_o _ _ _ _ _ _ _ _ (by omega), takeS_o _ _ _ _ _ _ _ (by decide), hd3, wI_o _ _ _ _ _ _ _ _ (by omega), takeS_o _ _ _ _ _ _ _ (by decide), hd2, headGo_o _ _ _ _ (by decide) (by omega), hd1, wI_rd]
  exact takeV_rng _ (n := 3) (by decide) (by decide)
theorem mtS_B {X : MS} (h : XB X) : XB (mtS X) := fun q hq => by
  by_cases hqm : q = mtQ X
  · subst hqm
    have e4 : ∀ d, (mtS X).1 4 (mtQ X) d = (mt4 X).1 4 (mtQ X) d := fun d => by rw [mtS, wI_o _ _ _ _ _ _ _ _ (fun z => absurd z.1 (by decide))]
    have e3 : ∀ d, d ≠ 6 → (mt4 X).1 4 (mtQ X) d = (mt3 X).1 4 (mtQ X) d := fun d hd => by
      rw [mt4, mapsS, rmGo_o _ _ _ _ (by decide) (by omega), takeS_o _ _ _ _ _ _ _ (by decide), wI_o _ _ _ _ _ _ _ _ (by omega)]
    have e2 : ∀ d, (mt3 X).1 4 (mtQ X) d = (code1 (mt2 X) (mtQ X)).1 4 (mtQ X) d := fun d => by
      rw [mt3, codeS, codeGo_o _ _ _ _ (by decide) (by omega)]
    refine ⟨?_, ?_, ?_⟩
    · rw [e4, e3 5 (by decide), e2, code1, wI_rd]
      exact takeV_rng _ (n := 48) (by decide) (by decide)
    · rw [e4, mt4, mapsS]
      refine rmGo_6 _ _ _ _ ?_
      rw [takeS_o _ _ _ _ _ _ _ (by decide), wI_rd]
      exact ⟨0, by decide, rfl⟩
    · rw [e4, e3 1 (by decide), e2, code1, wI_o _ _ _ _ _ _ _ _ (by omega), takeS_o _ _ _ _ _ _ _ (by decide), mt2]
      exact hd5_1 _ _
  · have o : ∀ d, (mtS X).1 4 q d = X.1 4 q d := fun d => mtS_o _ _ _ _ (by decide) (fun z => absurd z.1 (by decide)) (fun z => hqm z.1)
    exact (h q hq).same (o _) (o _) (o _)
theorem mtGo_B : ∀ (n : Nat) (X : MS), XB X → XB (mtGo n X)
  | 0, _, h => h
  | n + 1, X, h => by
    rw [mtGo]
    by_cases c : X.1 5 0 1 = 0
    · rw [if_pos c]
      by_cases c2 : okN X = true
      · rw [if_pos c2]; exact mtGo_B n _ (mtS_B h)
      · rw [if_neg c2]; exact mtGo_B n _ h
    · rw [if_neg c]; exact h
theorem mtS_23 (X : MS) : (mtS X).1 2 0 3 = X.1 2 0 3 + 1 := by
  rw [mtS, wI_rd, mt4, mapsS, rmGo_o _ _ _ _ (by decide) (by omega), takeS_o _ _ _ _ _ _ _ (by decide), wI_o _ _ _ _ _ _ _ _ (by omega), mt3, codeS, codeGo_o _ _ _ _ (by decide) (by omega), code1, wI_o _ _ _ _ _ _ _ _ (by omega), takeS_o _ _ _ _ _ _ _ (by decide), mt2, hd5_o _ _ _ _ _ (by decide) (by omega), mt1, wI_o _ _ _ _ _ _ _ _ (by omega), takeS_o _ _ _ _ _ _ _ (by decide), nameS0_o _ _ _ _ (by decide)]
theorem mtGo_23 : ∀ (n : Nat) (X : MS), (∃ k, k ≤ 5 ∧ X.1 2 0 3 = nI k) → ∃ k, k ≤ 5 ∧ (mtGo n X).1 2 0 3 = nI k
  | 0, _, h => h
  | n + 1, X, h => by
    rw [mtGo]
    by_cases c : X.1 5 0 1 = 0
    · rw [if_pos c]
      by_cases c2 : okN X = true
      · rw [if_pos c2]
        refine mtGo_23 n _ ?_
        obtain ⟨k, k1, k2⟩ := h
        have h5 := okN_lt c2
        rw [k2, nI_c (by omega)] at h5
        exact ⟨k + 1, h5, by rw [mtS_23, k2, nI_1]⟩
      · rw [if_neg c2]; exact mtGo_23 n _ h
    · rw [if_neg c]; exact h
theorem rfS_B {X : MS} (h : XB X) : XB (rfS X) ∧ ∃ k, k ≤ 5 ∧ (rfS X).1 2 0 3 = nI k := by
  have o : ∀ a b d, a ≠ 5 → a ≠ 11 → a ≠ 12 → a ≠ 3 → a ≠ 2 → (poolS (rf3 X)).1 a b d = X.1 a b d := fun a b d h5 h11 h12 h3 h2 => by
    rw [poolS, poolGo_o _ _ _ h5 h11 h12 h3, takeS_o _ _ _ _ _ _ _ h5, rf3, wI_o _ _ _ _ _ _ _ _ (fun z => h2 z.1), takeS_o _ _ _ _ _ _ _ h5, rf2, takeS_o _ _ _ _ _ _ _ h5, takeS_o _ _ _ _ _ _ _ h5, rf0, forgetG, wI_o _ _ _ _ _ _ _ _ (fun z => h3 z.1), wI_o _ _ _ _ _ _ _ _ (fun z => h2 z.1), wI_o _ _ _ _ _ _ _ _ (fun z => h2 z.1), wI_o _ _ _ _ _ _ _ _ (fun z => h5 z.1), wI_o _ _ _ _ _ _ _ _ (fun z => h5 z.1)]
  have o2 : (poolS (rf3 X)).1 2 0 3 = 0 := by
    rw [poolS, poolGo_o _ _ _ (by decide) (by decide) (by decide) (by decide), takeS_o _ _ _ _ _ _ _ (by decide), rf3, wI_o _ _ _ _ _ _ _ _ (by decide), takeS_o _ _ _ _ _ _ _ (by decide), rf2, takeS_o _ _ _ _ _ _ _ (by decide), takeS_o _ _ _ _ _ _ _ (by decide), rf0, forgetG, wI_o _ _ _ _ _ _ _ _ (by decide), wI_rd]
  have h5 : XB (rf5 X) := by
    rw [rf5, methodsS]
    exact mtGo_B _ _ (h.same (fun q d => by rw [takeS_o _ _ _ _ _ _ _ (by decide)]; exact o 4 q d (by decide) (by decide) (by decide) (by decide) (by decide)))
  have k5 : ∃ k, k ≤ 5 ∧ (rf5 X).1 2 0 3 = nI k := by
    rw [rf5, methodsS]
    refine mtGo_23 _ _ ⟨0, by decide, ?_⟩
    rw [takeS_o _ _ _ _ _ _ _ (by decide), o2]; rfl
  have e : ∀ a b d, a ≠ 5 → (rfS X).1 a b d = (rf5 X).1 a b d := fun a b d h5 => by
    rw [rfS_eq, rf7_o _ _ _ _ h5, rf6, takeS_o _ _ _ _ _ _ _ h5]
  exact ⟨h5.same (fun q d => e _ _ _ (by decide)), by rw [e _ _ _ (by decide)]; exact k5⟩
/-- what IF_read wants -/
theorem XB.gr {X : MS} (h : XB X) : ∃ (tk : Nat → Nat) (k : Nat), GR tk k (rd1 X) := by
  have h0 : XB (wI X 0 0 6 0) := h.same (fun q d => wI_o _ _ _ _ _ _ _ _ (fun z => absurd z.1 (by decide)))
  obtain ⟨hB, k, k1, k2⟩ := rfS_B h0
  have o : ∀ b c d, b ≠ 0 → (rd1 X).1 b c d = (rfS (wI X 0 0 6 0)).1 b c d := fun b c d hb => by
    rw [rd1, wI_o _ _ _ _ _ _ _ _ (fun z => hb z.1)]
  refine ⟨fun q => ((rd1 X).1 4 q 1).toNatClampNeg, k, by rw [o _ _ _ (by decide)]; exact k2, k1, fun q hq => ?_⟩
  obtain ⟨⟨a, a1, a2⟩, ⟨b, b1, b2⟩, t, t1, t2⟩ := hB q hq
  dsimp only
  rw [o _ _ _ (by decide), o _ _ _ (by decide), o _ _ _ (by decide), a2, b2, t2, nI_c (by omega), show (48 : Int32) = nI 48 from rfl, show (8 : Int32) = nI 8 from rfl, nI_leI (by omega) (by omega), nI_leI (by omega) (by omega)]
  exact ⟨a1, b1, rfl, t1⟩
