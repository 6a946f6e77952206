/-! the two sides read alike: bytes (X: the state that the class has reached, M: the model's) -/
def QT (X M : MS) (n : Nat) : Prop := n ≤ 500 ∧ X.1 1 0 1 = nI n ∧ M.1 8 0 1 = nI n ∧ ∀ j, j < n → X.1 9 0 j = M.1 24 0 j ∧ ∃ b, b < 256 ∧ M.1 24 0 j = nI b
def QR (X M : MS) (n : Nat) : Prop := QT X M n ∧ X.1 5 0 1 = M.1 8 0 28 ∧ (M.1 8 0 28 = 0 → ∃ p, p ≤ n ∧ X.1 5 0 0 = nI p ∧ M.1 8 0 31 = nI p) ∧ (¬ M.1 8 0 28 = 0 → X.1 5 0 0 = M.1 8 0 29)
theorem QT.same {X M X' M' : MS} {n : Nat} (h : QT X M n) (h1 : X'.1 1 0 1 = X.1 1 0 1) (h2 : M'.1 8 0 1 = M.1 8 0 1) (h3 : ∀ j, X'.1 9 0 j = X.1 9 0 j) (h4 : ∀ j, M'.1 24 0 j = M.1 24 0 j) : QT X' M' n :=
  ⟨h.1, h1.trans h.2.1, h2.trans h.2.2.1, fun j hj => by rw [h3, h4]; exact h.2.2.2 j hj⟩
theorem QR.same {X M X' M' : MS} {n : Nat} (h : QR X M n) (h1 : ∀ b d, b = 1 ∨ b = 5 ∨ b = 9 → X'.1 b 0 d = X.1 b 0 d) (h2 : ∀ d, d = 1 ∨ d = 28 ∨ d = 29 ∨ d = 31 → M'.1 8 0 d = M.1 8 0 d) (h4 : ∀ j, M'.1 24 0 j = M.1 24 0 j) : QR X' M' n := by
  obtain ⟨a, b, c, d⟩ := h
  refine ⟨a.same (h1 1 1 (Or.inl rfl)) (h2 1 (Or.inl rfl)) (fun j => h1 9 j (Or.inr (Or.inr rfl))) h4, ?_, ?_, ?_⟩
  · rw [h1 5 1 (Or.inr (Or.inl rfl)), h2 28 (Or.inr (Or.inl rfl))]; exact b
  · rw [h2 28 (Or.inr (Or.inl rfl)), h1 5 0 (Or.inr (Or.inl rfl)), h2 31 (Or.inr (Or.inr (Or.inr rfl)))]; exact c
  · rw [h2 28 (Or.inr (Or.inl rfl)), h1 5 0 (Or.inr (Or.inl rfl)), h2 29 (Or.inr (Or.inr (Or.inl rfl)))]; exact d
theorem byteT_n {X M : MS} {n : Nat} (h : QT X M n) {p : Nat} (hp : p < n) : ∃ b, b < 256 ∧ byteT X (nI p) = nI b ∧ M.1 24 0 p = nI b := by
  obtain ⟨b, hb, hB⟩ := (h.2.2.2 p hp).2
  have hn := h.1
  refine ⟨b, hb, ?_, hB⟩
  rw [byteT, if_pos (hasT_n h.1 h.2.1 hp), nI_c (by omega), (h.2.2.2 p hp).1, hB]
theorem byteT_e {X M : MS} {n : Nat} (h : QT X M n) : byteT X (nI n) = -1 := by
  have hn := h.1
  rw [byteT, if_neg]
  intro z
  simp only [hasT, Bool.and_eq_true, decide_eq_true_eq] at z
  exact z.1.2 (by rw [h.2.1]; exact Int32.le_refl _)
theorem nI_m1' {b : Nat} (h : b < 256) : ¬ nI b = -1 := nI_nm1 (by omega)
/-- one byte within bounds -/
theorem QR.tk {X M : MS} {n : Nat} (h : QR X M n) (lo up w : Int32) (hw : ¬ w = 0) : takeV X lo up = mTknV M lo up w ∧ QR (takeS X lo up w) (mTknS M lo up w) n := by
  obtain ⟨a, b, c, d⟩ := h
  have hn := a.1
  by_cases hf : M.1 8 0 28 = 0
  · obtain ⟨p, hp, hx, hm⟩ := c hf
    have hxf : X.1 5 0 1 = 0 := b.trans hf
    by_cases hpn : p = n
    · subst hpn
      have e1 : takeV X lo up = 0 := by rw [takeV, if_pos hxf, hx, byteT_e a, if_pos rfl]
      have e2 : takeS X lo up w = wI X 5 0 1 1 := by rw [takeS, if_pos hxf, hx, byteT_e a, if_pos rfl]
      have hmn : M.1 8 0 31 = M.1 8 0 1 := by rw [hm, a.2.2.1]
      have e3 : mTakeS M = wI (wI M 8 0 28 1) 8 0 29 (nI p) := by rw [mTakeS, if_pos hf, if_pos hmn, mFaultS, if_pos hf, a.2.2.1]
      have e4 : (mTakeS M).1 8 0 28 = 1 := by rw [e3, wI_o _ _ _ _ _ _ _ _ (by decide), wI_rd]
      have e5 : mTknS M lo up w = mTakeS M := by rw [mTknS, if_neg (by rw [e4]; decide)]
      have e6 : mTknV M lo up w = 0 := by rw [mTknV, e5, if_neg (by rw [e4]; decide)]
      refine ⟨by rw [e1, e6], ?_⟩
      rw [e2, e5, e3]
      refine ⟨a.same (wI_o _ _ _ _ _ _ _ _ (by decide)) ?_ (fun j => wI_o _ _ _ _ _ _ _ _ (fun z => absurd z.1 (by decide))) (fun j => ?_), ?_, ?_, ?_⟩
      · rw [wI_o _ _ _ _ _ _ _ _ (by decide), wI_o _ _ _ _ _ _ _ _ (by decide)]
      · rw [wI_o _ _ _ _ _ _ _ _ (fun z => absurd z.1 (by decide)), wI_o _ _ _ _ _ _ _ _ (fun z => absurd z.1 (by decide))]
      · rw [wI_rd, wI_o _ _ _ _ _ _ _ _ (by decide), wI_rd]
      · intro z; rw [wI_o _ _ _ _ _ _ _ _ (by decide), wI_rd] at z; exact absurd z (by decide)
      · intro _; rw [wI_o _ _ _ _ _ _ _ _ (by decide), wI_rd, hx]
    · have hpl : p < n := by omega
      obtain ⟨y, hy, hB, hM⟩ := byteT_n a hpl
      have hmn : ¬ M.1 8 0 31 = M.1 8 0 1 := by rw [hm, a.2.2.1, nI_eq (by omega) (by omega)]; exact hpn
      have e3 : mTakeS M = wI M 8 0 31 (nI (p + 1)) := by rw [mTakeS, if_pos hf, if_neg hmn, hm, nI_1]
      have e3f : (mTakeS M).1 8 0 28 = 0 := by rw [e3, wI_o _ _ _ _ _ _ _ _ (by decide)]; exact hf
      have e3p : (mTakeS M).1 8 0 31 = nI (p + 1) := by rw [e3, wI_rd]
      have e4 : mTakeV M = nI y := by rw [mTakeV, if_pos hf, if_neg hmn, hm, nI_c (by omega), hM]
      by_cases hi : mIn (nI y) lo up = true
      · have hi2 := hi
        simp only [mIn, Bool.and_eq_true, decide_eq_true_eq] at hi2
        have e1 : takeV X lo up = nI y := by rw [takeV, if_pos hxf, hx, hB, if_neg (nI_m1' hy), if_neg hi2.1, if_pos (Int32.not_lt.mp hi2.2)]
        have e2 : takeS X lo up w = wI X 5 0 0 (nI (p + 1)) := by rw [takeS, if_pos hxf, hx, hB, if_neg (nI_m1' hy), if_neg hi2.1, if_pos (Int32.not_lt.mp hi2.2), nI_1]
        have e5 : mTknS M lo up w = mTakeS M := by rw [mTknS, if_pos e3f, e4, if_pos hi]
        have e6 : mTknV M lo up w = nI y := by rw [mTknV, e5, if_pos e3f, e4]
        refine ⟨by rw [e1, e6], ?_⟩
        rw [e2, e5, e3]
        refine ⟨a.same (wI_o _ _ _ _ _ _ _ _ (by decide)) (wI_o _ _ _ _ _ _ _ _ (by decide)) (fun j => wI_o _ _ _ _ _ _ _ _ (fun z => absurd z.1 (by decide))) (fun j => wI_o _ _ _ _ _ _ _ _ (fun z => absurd z.1 (by decide))), ?_, ?_, ?_⟩
        · rw [wI_o _ _ _ _ _ _ _ _ (by decide), wI_o _ _ _ _ _ _ _ _ (by decide)]; exact b
        · intro _; exact ⟨p + 1, by omega, wI_rd .., wI_rd ..⟩
        · intro z; rw [wI_o _ _ _ _ _ _ _ _ (by decide)] at z; exact absurd hf z
      · have hi2 : nI y < lo ∨ up < nI y := by
          simp only [mIn, Bool.and_eq_true, decide_eq_true_eq, not_and, Decidable.not_not] at hi
          by_cases z : nI y < lo
          · exact Or.inl z
          · exact Or.inr (hi z)
        have e1 : takeV X lo up = 0 := by
          rw [takeV, if_pos hxf, hx, hB, if_neg (nI_m1' hy)]
          rcases hi2 with z | z
          · rw [if_pos z]
          · by_cases z2 : nI y < lo
            · rw [if_pos z2]
            · rw [if_neg z2, if_neg (Int32.not_le.mpr z)]
        have e2 : takeS X lo up w = wI X 5 0 1 w := by
          rw [takeS, if_pos hxf, hx, hB, if_neg (nI_m1' hy)]
          rcases hi2 with z | z
          · rw [if_pos z]
          · by_cases z2 : nI y < lo
            · rw [if_pos z2]
            · rw [if_neg z2, if_neg (Int32.not_le.mpr z)]
        have e5 : mTknS M lo up w = wI (wI (wI M 8 0 31 (nI (p + 1))) 8 0 28 w) 8 0 29 (nI p) := by rw [mTknS, if_pos e3f, e4, if_neg hi, mFaultS, if_pos e3f, e3p, nI_m1, e3]
        have e5f : (mTknS M lo up w).1 8 0 28 = w := by rw [e5, wI_o _ _ _ _ _ _ _ _ (by decide), wI_rd]
        have e6 : mTknV M lo up w = 0 := by rw [mTknV, if_neg (by rw [e5f]; exact hw)]
        refine ⟨by rw [e1, e6], ?_⟩
        refine ⟨a.same ?_ ?_ (fun j => ?_) (fun j => ?_), ?_, ?_, ?_⟩
        · rw [e2, wI_o _ _ _ _ _ _ _ _ (by decide)]
        · rw [e5, wI_o _ _ _ _ _ _ _ _ (by decide), wI_o _ _ _ _ _ _ _ _ (by decide), wI_o _ _ _ _ _ _ _ _ (by decide)]
        · rw [e2, wI_o _ _ _ _ _ _ _ _ (fun z => absurd z.1 (by decide))]
        · rw [e5, wI_o _ _ _ _ _ _ _ _ (fun z => absurd z.1 (by decide)), wI_o _ _ _ _ _ _ _ _ (fun z => absurd z.1 (by decide)), wI_o _ _ _ _ _ _ _ _ (fun z => absurd z.1 (by decide))]
        · rw [e5f, e2, wI_rd]
        · intro z; rw [e5f] at z; exact absurd z hw
        · intro _; rw [e5, wI_rd, e2, wI_o _ _ _ _ _ _ _ _ (by decide), hx]
  · have hxf : ¬ X.1 5 0 1 = 0 := by rw [b]; exact hf
    have e3 : mTakeS M = M := by rw [mTakeS, if_neg hf]
    have e5 : mTknS M lo up w = M := by rw [mTknS, e3, if_neg hf]
    rw [takeV, if_neg hxf, mTknV, e5, if_neg hf, takeS, if_neg hxf]
    exact ⟨rfl, a, b, c, d⟩
/-- any byte -/
theorem QR.raw {X M : MS} {n : Nat} (h : QR X M n) (w : Int32) : takeV X 0 255 = mTakeV M ∧ QR (takeS X 0 255 w) (mTakeS M) n := by
  obtain ⟨a, b, c, d⟩ := h
  have hn := a.1
  by_cases hf : M.1 8 0 28 = 0
  · obtain ⟨p, hp, hx, hm⟩ := c hf
    have hxf : X.1 5 0 1 = 0 := b.trans hf
    by_cases hpn : p = n
    · subst hpn
      have e1 : takeV X 0 255 = 0 := by rw [takeV, if_pos hxf, hx, byteT_e a, if_pos rfl]
      have e2 : takeS X 0 255 w = wI X 5 0 1 1 := by rw [takeS, if_pos hxf, hx, byteT_e a, if_pos rfl]
      have hmn : M.1 8 0 31 = M.1 8 0 1 := by rw [hm, a.2.2.1]
      have e3 : mTakeS M = wI (wI M 8 0 28 1) 8 0 29 (nI p) := by rw [mTakeS, if_pos hf, if_pos hmn, mFaultS, if_pos hf, a.2.2.1]
      have e6 : mTakeV M = 0 := by rw [mTakeV, if_pos hf, if_pos hmn]
      refine ⟨by rw [e1, e6], ?_⟩
      rw [e2, e3]
      refine ⟨a.same (wI_o _ _ _ _ _ _ _ _ (by decide)) ?_ (fun j => wI_o _ _ _ _ _ _ _ _ (fun z => absurd z.1 (by decide))) (fun j => ?_), ?_, ?_, ?_⟩
      · rw [wI_o _ _ _ _ _ _ _ _ (by decide), wI_o _ _ _ _ _ _ _ _ (by decide)]
      · rw [wI_o _ _ _ _ _ _ _ _ (fun z => absurd z.1 (by decide)), wI_o _ _ _ _ _ _ _ _ (fun z => absurd z.1 (by decide))]
      · rw [wI_rd, wI_o _ _ _ _ _ _ _ _ (by decide), wI_rd]
      · intro z; rw [wI_o _ _ _ _ _ _ _ _ (by decide), wI_rd] at z; exact absurd z (by decide)
      · intro _; rw [wI_o _ _ _ _ _ _ _ _ (by decide), wI_rd, hx]
    · have hpl : p < n := by omega
      obtain ⟨y, hy, hB, hM⟩ := byteT_n a hpl
      have hmn : ¬ M.1 8 0 31 = M.1 8 0 1 := by rw [hm, a.2.2.1, nI_eq (by omega) (by omega)]; exact hpn
      have e3 : mTakeS M = wI M 8 0 31 (nI (p + 1)) := by rw [mTakeS, if_pos hf, if_neg hmn, hm, nI_1]
      have e4 : mTakeV M = nI y := by rw [mTakeV, if_pos hf, if_neg hmn, hm, nI_c (by omega), hM]
      have g1 : ¬ nI y < 0 := nI_pos (by omega)
      have g2 : nI y ≤ 255 := by rw [show (255 : Int32) = nI 255 from rfl, nI_leI (by omega) (by decide)]; omega
      have e1 : takeV X 0 255 = nI y := by rw [takeV, if_pos hxf, hx, hB, if_neg (nI_m1' hy), if_neg g1, if_pos g2]
      have e2 : takeS X 0 255 w = wI X 5 0 0 (nI (p + 1)) := by rw [takeS, if_pos hxf, hx, hB, if_neg (nI_m1' hy), if_neg g1, if_pos g2, nI_1]
      refine ⟨by rw [e1, e4], ?_⟩
      rw [e2, e3]
      refine ⟨a.same (wI_o _ _ _ _ _ _ _ _ (by decide)) (wI_o _ _ _ _ _ _ _ _ (by decide)) (fun j => wI_o _ _ _ _ _ _ _ _ (fun z => absurd z.1 (by decide))) (fun j => wI_o _ _ _ _ _ _ _ _ (fun z => absurd z.1 (by decide))), ?_, ?_, ?_⟩
      · rw [wI_o _ _ _ _ _ _ _ _ (by decide), wI_o _ _ _ _ _ _ _ _ (by decide)]; exact b
      · intro _; exact ⟨p + 1, by omega, wI_rd .., wI_rd ..⟩
      · intro z; rw [wI_o _ _ _ _ _ _ _ _ (by decide)] at z; exact absurd hf z
  · have hxf : ¬ X.1 5 0 1 = 0 := by rw [b]; exact hf
    rw [takeV, if_neg hxf, mTakeV, if_neg hf, mTakeS, if_neg hf, takeS, if_neg hxf]
    exact ⟨rfl, a, b, c, d⟩
theorem QR.long {X M : MS} {n : Nat} (h : QR X M n) : ∀ (k : Nat) (v : Int64) (X M : MS), QR X M n → (manyGo 0 255 k v X).1 = (mLongGo k v M).1 ∧ QR (manyGo 0 255 k v X).2 (mLongGo k v M).2 n
  | 0, _, _, _, h => ⟨rfl, h⟩
  | k + 1, v, X, M, h => by
    obtain ⟨e, h2⟩ := h.raw 5
    rw [manyGo, mLongGo, e]
    exact QR.long h2 k _ _ _ h2
