/-! what the reading of a METHOD leaves, on both sides -/
theorem nz8 {b c d x y : Nat} (h : b ≠ 8) : ¬ (b = 8 ∧ c = x ∧ d = y) := fun z => h z.1
def sz (b : Nat) : Nat := if b = 32 then 3 else if b = 37 then 48 else if b = 39 then 8 else if b = 40 then 48 else if b = 41 then 8 else if b = 42 then 48 else 1
theorem fillGo_any (kd a : Nat) (lo up : Int32) (b d : Nat) (h8 : b ≠ 8) : ∀ (n l : Nat) (S : MS), (b = kd → d < a + l ∨ a + l + n ≤ d) → (fillGo kd a lo up n l S).1 b 0 d = S.1 b 0 d
  | 0, _, _, _ => rfl
  | n + 1, l, S, h => by
    rw [fillGo, fillGo_any kd a lo up b d h8 n (l + 1) _ (fun z => by have := h z; omega), setT_o _ _ _ _ _ _ _ _ _ (nz8 h8) (nz8 h8) (nz8 h8) (fun z => by have := h z.1; have := z.2.2; omega)]
theorem qcGo_any (m b d : Nat) (h8 : b ≠ 8) : ∀ (n i : Nat) (S : MS), (b = 37 → d < 48 * m + i ∨ 48 * m + i + n ≤ d) → (qcGo m n i S).1 b 0 d = S.1 b 0 d
  | 0, _, _, _ => rfl
  | n + 1, i, S, h => by
    rw [qcGo, qcGo_any m b d h8 n (i + 1) _ (fun z => by have := h z; omega), wI_o _ _ _ _ _ _ _ _ (fun z => by have := h z.1; have := z.2.2; omega), mTakeS_o _ _ _ _ (nz8 h8) (nz8 h8) (nz8 h8)]
theorem qcGo_2 (m : Nat) : ∀ (n i : Nat) (S : MS), (qcGo m n i S).2 = S.2
  | 0, _, _ => rfl
  | n + 1, i, S => by
    rw [qcGo, qcGo_2 m n]
    exact mTakeS_2 _
theorem rm1_any (M : MS) (q k b d : Nat) (h8 : b ≠ 8) (h : ¬ (b = 39 ∧ d = 8 * q + k)) : (rm1 M q k).1 b 0 d = M.1 b 0 d := by
  unfold rm1
  rw [wI_o _ _ _ _ _ _ _ _ (fun z => h ⟨z.1, z.2.2⟩)]
  split
  · rw [mFaultS_o _ _ _ _ _ _ (nz8 h8) (nz8 h8), mTakeS_o _ _ _ _ (nz8 h8) (nz8 h8) (nz8 h8)]
  · rw [mTakeS_o _ _ _ _ (nz8 h8) (nz8 h8) (nz8 h8)]
theorem rm1_2 (M : MS) (q k : Nat) : (rm1 M q k).2 = M.2 := by
  unfold rm1
  show (if _ then _ else _ : MS).2 = _
  split
  · exact (mFaultS_2 _ _ _).trans (mTakeS_2 _)
  · exact mTakeS_2 _
theorem rmS'_any (M : MS) {q k b d : Nat} (hL : (M.1 34 0 q).toNatClampNeg ≤ 6) (hS : (mTknV (rm2 M q k) 0 (M.1 35 0 q) 3).toNatClampNeg ≤ 6) (h8 : b ≠ 8) (h1 : b = 39 ∨ b = 41 → d ≠ 8 * q + k) (h2 : b = 40 ∨ b = 42 → d / 6 ≠ 8 * q + k) : (rmS' M q k).1 b 0 d = M.1 b 0 d := by
  rw [rmS', fillGo_any _ _ _ _ _ _ h8 _ _ _ (fun z => by have := h2 (Or.inr z); omega), rm3, setT_o _ _ _ _ _ _ _ _ _ (nz8 h8) (nz8 h8) (nz8 h8) (fun z => h1 (Or.inr z.1) z.2.2), rm2, fillGo_any _ _ _ _ _ _ h8 _ _ _ (fun z => by have := h2 (Or.inl z); omega), rm1_any _ _ _ _ _ h8 (fun z => h1 (Or.inl z.1) z.2)]
theorem rmS'_2 (M : MS) (q k : Nat) : (rmS' M q k).2 = M.2 := by rw [rmS', fillGo_2, rm3, setT_2, rm2, fillGo_2, rm1_2]
theorem rmS'_nz (M : MS) (q k : Nat) (b : Nat) (hb : b = 34 ∨ b = 35) (d : Nat) : (rmS' M q k).1 b 0 d = M.1 b 0 d := rmS'_o _ _ _ _ _ _ (nz8 (by omega)) (nz8 (by omega)) (nz8 (by omega)) (by omega) (by omega) (by omega) (by omega)
theorem qmGo_any {q b d lc st : Nat} (hlc : lc ≤ 6) (hst : st ≤ 6) (h8 : b ≠ 8) (h1 : b = 39 ∨ b = 41 → d / 8 ≠ q) (h2 : b = 40 ∨ b = 42 → d / 48 ≠ q) : ∀ (n k : Nat) (M : MS), k + n ≤ 8 → M.1 34 0 q = nI lc → M.1 35 0 q = nI st → (qmGo q n k M).1 b 0 d = M.1 b 0 d
  | 0, _, _, _, _, _ => rfl
  | n + 1, k, M, hk, hL, hS => by
    rw [qmGo]
    by_cases hf : M.1 8 0 28 = 0
    · obtain ⟨dp, hdp, hD⟩ := mTknV_rng (rm2 M q k) (lo := 0) (M := nI st) (w := 3) (n := st) (nI_toInt (by omega)) (by decide) (by decide)
      rw [if_pos hf, qmGo_any hlc hst h8 h1 h2 n (k + 1) _ (by omega) ((rmS'_nz M q k 34 (Or.inl rfl) q).trans hL) ((rmS'_nz M q k 35 (Or.inr rfl) q).trans hS), rmS'_any M (by rw [hL, nI_c (by omega)]; exact hlc) (by rw [hS, hD, nI_c (by omega)]; omega) h8 (fun z => by have := h1 z; omega) (fun z => by have := h2 z; omega)]
    · rw [if_neg hf]
theorem qmGo_2 (q : Nat) : ∀ (n k : Nat) (M : MS), (qmGo q n k M).2 = M.2
  | 0, _, _ => rfl
  | n + 1, k, M => by
    rw [qmGo]
    split
    · rw [qmGo_2 q n, rmS'_2]
    · rfl
theorem rn1_2 (M : MS) (q : Nat) : (rn1 M q).2 = M.2 := by
  unfold rn1
  split
  · exact mTakeS_2 _
  · exact (mFaultS_2 _ _ _).trans (mTakeS_2 _)
theorem rn1_any (M : MS) (q b d : Nat) (h8 : b ≠ 8) : (rn1 M q).1 b 0 d = M.1 b 0 d := by
  unfold rn1
  split
  · exact mTakeS_o _ _ _ _ (nz8 h8) (nz8 h8) (nz8 h8)
  · rw [mFaultS_o _ _ _ _ _ _ (nz8 h8) (nz8 h8), mTakeS_o _ _ _ _ (nz8 h8) (nz8 h8) (nz8 h8)]
theorem mmS_2 (M : MS) (q : Nat) : (mmS M q).2 = M.2 := by
  rw [mmS, qmGo_2, mm8, setT_2, mm7, qcGo_2, mm6, setT_2, mm5, setT_2, mm4, setT_2, mm3, setT_2, mm2, fillGo_2, mm1, setT_2]
  exact rn1_2 _ _
theorem setT_any (S : MS) (kd i : Nat) (lo up w : Int32) (b d : Nat) (h8 : b ≠ 8) (h : ¬ (b = kd ∧ d = i)) : (setT S kd i lo up w).1 b 0 d = S.1 b 0 d := setT_o _ _ _ _ _ _ _ _ _ (nz8 h8) (nz8 h8) (nz8 h8) (fun z => h ⟨z.1, z.2.2⟩)
theorem mm8_45 (S : MS) (m b d : Nat) (h1 : b = 34 ∨ b = 35) : (mm8 S m).1 b 0 d = (mm5 S m).1 b 0 d := mm8_5 S m b 0 d (by omega) (by omega) (by omega) (by omega)
/-- the cells of other METHODS, and all but a FILE's, stay -/
theorem mmS_any (M : MS) {q b d : Nat} (h8 : b ≠ 8) (h : ¬ (30 ≤ b ∧ b ≤ 42 ∧ d / sz b = q)) : (mmS M q).1 b 0 d = M.1 b 0 d := by
  obtain ⟨t, ht, hT⟩ := mmTk M q
  obtain ⟨lc, hl, hL⟩ := mmLc M q
  obtain ⟨st, hs, hS⟩ := mmSt M q
  obtain ⟨ln, hn, hN⟩ := mmLn M q
  obtain ⟨mp, hm, hM⟩ := mmMp M q
  have one : ∀ k, 30 ≤ k → k ≤ 42 → sz k = 1 → ¬ (b = k ∧ d = q) := fun k k1 k2 k3 z => h ⟨by omega, by omega, by rw [z.1, k3, z.2, Nat.div_one]⟩
  have g32 : b = 32 → ¬ (3 * q ≤ d ∧ d < 3 * q + 3) := fun z z2 => h ⟨by omega, by omega, by rw [z, show sz 32 = 3 from rfl]; omega⟩
  have g37 : b = 37 → ¬ (48 * q ≤ d ∧ d < 48 * q + 48) := fun z z2 => h ⟨by omega, by omega, by rw [z, show sz 37 = 48 from rfl]; omega⟩
  have g8 : b = 39 ∨ b = 41 → d / 8 ≠ q := fun z z2 => h ⟨by omega, by omega, by rcases z with rfl | rfl <;> exact z2⟩
  have g48 : b = 40 ∨ b = 42 → d / 48 ≠ q := fun z z2 => h ⟨by omega, by omega, by rcases z with rfl | rfl <;> exact z2⟩
  have hL5 : (mm5 M q).1 34 0 q = nI lc := (setT_any _ _ _ _ _ _ _ _ (by decide) (fun z => absurd z.1 (by decide))).trans hL
  rw [mmS, hM, nI_c (by omega), qmGo_any hl hs h8 g8 g48 _ _ _ (by omega) ((mm8_45 M q 34 q (Or.inl rfl)).trans hL5) ((mm8_45 M q 35 q (Or.inr rfl)).trans hS)]
  rw [mm8, setT_any _ _ _ _ _ _ _ _ h8 (one 38 (by decide) (by decide) rfl), mm7, hN, nI_c (by omega), qcGo_any _ _ _ h8 _ _ _ (fun z => by have := g37 z; omega)]
  rw [mm6, setT_any _ _ _ _ _ _ _ _ h8 (one 36 (by decide) (by decide) rfl), mm5, setT_any _ _ _ _ _ _ _ _ h8 (one 35 (by decide) (by decide) rfl), mm4, setT_any _ _ _ _ _ _ _ _ h8 (one 34 (by decide) (by decide) rfl), mm3, setT_any _ _ _ _ _ _ _ _ h8 (one 33 (by decide) (by decide) rfl), mm2, hT, nI_c (by omega), fillGo_any _ _ _ _ _ _ h8 _ _ _ (fun z => by have := g32 z; omega), mm1, setT_any _ _ _ _ _ _ _ _ h8 (one 31 (by decide) (by decide) rfl)]
  rw [rnS, wI_o _ _ _ _ _ _ _ _ (fun z => one 30 (by decide) (by decide) rfl ⟨z.1, z.2.2⟩), rn1_any _ _ _ _ h8]
/-! the class's side -/
theorem headGo_o (q a b d : Nat) (h5 : a ≠ 5) (h : ¬ (a = 4 ∧ b = q ∧ d = 8)) : ∀ (n i : Nat) (S : MS), (headGo q n i S).1 a b d = S.1 a b d
  | 0, _, _ => rfl
  | n + 1, i, S => by rw [headGo, headGo_o q a b d h5 h n, wI_o _ _ _ _ _ _ _ _ h, takeS_o _ _ _ _ _ _ _ h5]
theorem headGo_2 (q : Nat) : ∀ (n i : Nat) (S : MS), (headGo q n i S).2 = S.2
  | 0, _, _ => rfl
  | n + 1, i, S => by
    rw [headGo, headGo_2 q n]
    exact takeS_2 _ _ _ _
theorem setCodeM_2 (S : MS) (q : Nat) (p v : Int32) : (setCodeM S q p v).2 = S.2 := by unfold setCodeM; split <;> rfl
theorem setCodeM_q (S : MS) (q : Nat) (p v : Int32) (a b d : Nat) (h : ¬ (a = 14 ∧ b = q)) : (setCodeM S q p v).1 a b d = S.1 a b d := by
  unfold setCodeM
  split
  · exact wI_o _ _ _ _ _ _ _ _ (fun z => h ⟨z.1, z.2.1⟩)
  · rfl
theorem codeGo_o (q a b d : Nat) (h5 : a ≠ 5) (h : ¬ (a = 14 ∧ b = q)) : ∀ (n i : Nat) (S : MS), (codeGo q n i S).1 a b d = S.1 a b d
  | 0, _, _ => rfl
  | n + 1, i, S => by rw [codeGo, codeGo_o q a b d h5 h n, setCodeM_q _ _ _ _ _ _ _ h, takeS_o _ _ _ _ _ _ _ h5]
theorem codeGo_2 (q : Nat) : ∀ (n i : Nat) (S : MS), (codeGo q n i S).2 = S.2
  | 0, _, _ => rfl
  | n + 1, i, S => by rw [codeGo, codeGo_2 q n, setCodeM_2, takeS_2]
theorem appMapM_o (S : MS) (q : Nat) (p k : Int32) (a b d : Nat) (h : ¬ (b = q ∧ (a = 15 ∨ a = 16 ∨ a = 4 ∧ d = 6))) : (appMapM S q p k).1 a b d = S.1 a b d := by
  unfold appMapM
  split
  · rw [wI_o _ _ _ _ _ _ _ _ (fun z => h ⟨z.2.1, Or.inr (Or.inr ⟨z.1, z.2.2⟩)⟩), wI_o _ _ _ _ _ _ _ _ (fun z => h ⟨z.2.1, Or.inr (Or.inl z.1)⟩), wI_o _ _ _ _ _ _ _ _ (fun z => h ⟨z.2.1, Or.inl z.1⟩)]
  · rfl
theorem appMapM_2 (S : MS) (q : Nat) (p k : Int32) : (appMapM S q p k).2 = S.2 := by unfold appMapM; split <;> rfl
theorem rmGo_o (q a b d : Nat) (h5 : a ≠ 5) (h : ¬ (b = q ∧ (a = 15 ∨ a = 16 ∨ a = 4 ∧ d = 6))) : ∀ (n : Nat) (low : Int32) (S : MS), (rmGo q n low S).1 a b d = S.1 a b d
  | 0, _, _ => rfl
  | n + 1, low, S => by
    rw [rmGo]
    split
    · rw [rmGo_o q a b d h5 h n, appMapM_o _ _ _ _ _ _ _ h, mapK_o _ _ _ _ _ h5, takeS_o _ _ _ _ _ _ _ h5]
    · rfl
theorem rmGo_2 (q : Nat) : ∀ (n : Nat) (low : Int32) (S : MS), (rmGo q n low S).2 = S.2
  | 0, _, _ => rfl
  | n + 1, low, S => by
    rw [rmGo]
    split
    · rw [rmGo_2 q n, appMapM_2, mapK_2, takeS_2]
    · rfl
theorem nameS0_o (S : MS) (a b d : Nat) (h5 : a ≠ 5) : (nameS0 S).1 a b d = S.1 a b d := by
  unfold nameS0
  split
  · exact wI_o _ _ _ _ _ _ _ _ (fun z => h5 z.1)
  · rfl
theorem nameS0_2 (S : MS) : (nameS0 S).2 = S.2 := by unfold nameS0; split <;> rfl
theorem hd5_o (S : MS) (q a b d : Nat) (h5 : a ≠ 5) (h : ¬ (a = 4 ∧ b = q)) : (hd5 S q).1 a b d = S.1 a b d := by
  have g : ∀ x, ¬ (a = 4 ∧ b = q ∧ d = x) := fun x z => h ⟨z.1, z.2.1⟩
  rw [hd5, wI_o _ _ _ _ _ _ _ _ (g _), takeS_o _ _ _ _ _ _ _ h5, hd4, wI_o _ _ _ _ _ _ _ _ (g _), takeS_o _ _ _ _ _ _ _ h5, hd3, wI_o _ _ _ _ _ _ _ _ (g _), takeS_o _ _ _ _ _ _ _ h5, hd2, headGo_o _ _ _ _ h5 (g _), hd1, wI_o _ _ _ _ _ _ _ _ (g _), takeS_o _ _ _ _ _ _ _ h5, wI_o _ _ _ _ _ _ _ _ (g _), wI_o _ _ _ _ _ _ _ _ (g _)]
theorem hd5_2 (S : MS) (q : Nat) : (hd5 S q).2 = S.2 := by
  rw [hd5, wI_2, takeS_2, hd4, wI_2, takeS_2, hd3, wI_2, takeS_2, hd2, headGo_2, hd1, wI_2, takeS_2, wI_2, wI_2]
/-- all but METHOD q's rows, the count of METHODS, the reader stays -/
theorem mtS_o (X : MS) (a b d : Nat) (h5 : a ≠ 5) (h2 : ¬ (a = 2 ∧ b = 0 ∧ d = 3)) (h : ¬ (b = mtQ X ∧ (a = 4 ∨ a = 14 ∨ a = 15 ∨ a = 16))) : (mtS X).1 a b d = X.1 a b d := by
  have g4 : ∀ x, ¬ (a = 4 ∧ b = mtQ X ∧ d = x) := fun x z => h ⟨z.2.1, Or.inl z.1⟩
  have gm : ¬ (b = mtQ X ∧ (a = 15 ∨ a = 16 ∨ a = 4 ∧ d = 6)) := fun z => h ⟨z.1, by rcases z.2 with z | z | z; exact Or.inr (Or.inr (Or.inl z)); exact Or.inr (Or.inr (Or.inr z)); exact Or.inl z.1⟩
  rw [mtS, wI_o _ _ _ _ _ _ _ _ h2, mt4, mapsS, rmGo_o _ _ _ _ h5 gm, takeS_o _ _ _ _ _ _ _ h5, wI_o _ _ _ _ _ _ _ _ (g4 _), mt3, codeS, codeGo_o _ _ _ _ h5 (fun z => h ⟨z.2, Or.inr (Or.inl z.1)⟩), code1, wI_o _ _ _ _ _ _ _ _ (g4 _), takeS_o _ _ _ _ _ _ _ h5, mt2, hd5_o _ _ _ _ _ h5 (fun z => h ⟨z.2, Or.inl z.1⟩), mt1, wI_o _ _ _ _ _ _ _ _ (g4 _), takeS_o _ _ _ _ _ _ _ h5, nameS0_o _ _ _ _ h5]
theorem mtS_2 (X : MS) : (mtS X).2 = X.2 := by
  rw [mtS, wI_2, mt4, mapsS, rmGo_2, takeS_2, wI_2, mt3, codeS, codeGo_2, code1, wI_2, takeS_2, mt2, hd5_2, mt1, wI_2, takeS_2, nameS0_2]
