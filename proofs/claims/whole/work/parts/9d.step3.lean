/-! the two sides run alike: CALLs, what is given back -/
theorem xmSetLoc_N {X : MS} {G l : Nat} {v : Int64} (h : X.1 7 0 6 = nI (G + 1)) (hG : G < 8) (hl : l < 6) : xmSetLoc X (nI l) v = wL X 20 0 (6 * G + l) v := by
  obtain ⟨e1, e2, e3, e4⟩ := xmAt_N h hG hl
  rw [xmSetLoc, if_neg e2, if_neg e3, e4]
theorem xmItem_N {X : MS} {c i : Nat} (h : X.1 7 0 7 = nI c) (hc : c + i < 48) : xmItem X i = X.2.1 19 0 (c + i) := by
  have g := nI_guard (N := 48) (M := 48) rfl hc (by decide)
  rw [xmItem, h, nI_add, if_neg g.1, if_neg g.2, nI_c (by omega)]
theorem ciGo_at {G c : Nat} (hG : G < 8) : ∀ (n i : Nat) (X : MS), X.1 7 0 6 = nI (G + 1) → X.1 7 0 7 = nI c → i + n ≤ 6 → c + i + n ≤ 48 → (ciGo n i X).1 = X.1 ∧ (∀ a b d, ¬ (a = 20 ∧ b = 0 ∧ 6 * G + i ≤ d ∧ d < 6 * G + i + n) → (ciGo n i X).2.1 a b d = X.2.1 a b d) ∧ (∀ l, i ≤ l → l < i + n → (ciGo n i X).2.1 20 0 (6 * G + l) = X.2.1 19 0 (c + l)) ∧ (ciGo n i X).2.2 = X.2.2
  | 0, i, X, _, _, _, _ => ⟨rfl, fun _ _ _ _ => rfl, fun l h1 h2 => absurd h2 (by omega), rfl⟩
  | n + 1, i, X, h6, h7, hi, hc => by
    rw [ciGo, xmSetLoc_N h6 hG (by omega), xmItem_N h7 (by omega)]
    obtain ⟨a1, a2, a3, a4⟩ := ciGo_at hG n (i + 1) (wL X 20 0 (6 * G + i) (X.2.1 19 0 (c + i))) (by rw [wL_1]; exact h6) (by rw [wL_1]; exact h7) (by omega) (by omega)
    refine ⟨by rw [a1, wL_1], fun a b d hz => ?_, fun l h1 h2 => ?_, by rw [a4, wL_d]⟩
    · rw [a2 a b d (fun z => hz ⟨z.1, z.2.1, by have := z.2.2; omega⟩), wL_o _ _ _ _ _ _ _ _ (fun z => hz ⟨z.1, z.2.1, by have := z.2.2; omega⟩)]
    · by_cases hl : l = i
      · subst hl
        rw [a2 20 0 _ (fun z => by have := z.2.2; omega), wL_rd]
      · rw [a3 l (by omega) (by omega), wL_o _ _ _ _ _ _ _ _ (fun z => absurd z.1 (by decide))]
theorem enGo_at (G : Nat) : ∀ (n i : Nat) (M : MS), (∀ a b d, ¬ (a = 53 ∧ b = 0 ∧ 12 * G + i ≤ d ∧ d < 12 * G + i + n) → (enGo G n i M).1 a b d = M.1 a b d) ∧ (enGo G n i M).2.1 = M.2.1 ∧ (∀ a b d, ¬ (a = 54 ∧ b = 0 ∧ 12 * G + i ≤ d ∧ d < 12 * G + i + n) → (enGo G n i M).2.2 a b d = M.2.2 a b d)
  | 0, i, M => ⟨fun _ _ _ _ => rfl, rfl, fun _ _ _ _ => rfl⟩
  | n + 1, i, M => by
    rw [enGo]
    obtain ⟨a1, a2, a3⟩ := enGo_at G n (i + 1) (wD (wI M 53 0 (12 * G + i) 0) 54 0 (12 * G + i) FP.dconst0)
    refine ⟨fun a b d hz => ?_, by rw [a2, wD_l, wI_2], fun a b d hz => ?_⟩
    · rw [a1 a b d (fun z => hz ⟨z.1, z.2.1, by have := z.2.2; omega⟩), wD_1, wI_o _ _ _ _ _ _ _ _ (fun z => hz ⟨z.1, z.2.1, by have := z.2.2; omega⟩)]
    · rw [a3 a b d (fun z => hz ⟨z.1, z.2.1, by have := z.2.2; omega⟩), wD_o _ _ _ _ _ _ _ _ (fun z => hz ⟨z.1, z.2.1, by have := z.2.2; omega⟩), wI_2]
theorem clGo_at {F a0 t : Nat} (ha : a0 + t ≤ 12 * F + 12) : ∀ (n i : Nat) (M : MS), i + n ≤ t → (∀ a b d, ¬ (a = 53 ∧ b = 0 ∧ 12 * F + 12 + i ≤ d ∧ d < 12 * F + 12 + i + n) → (clGo F a0 n i M).1 a b d = M.1 a b d) ∧ (clGo F a0 n i M).2.1 = M.2.1 ∧ (∀ a b d, ¬ (a = 54 ∧ b = 0 ∧ 12 * F + 12 + i ≤ d ∧ d < 12 * F + 12 + i + n) → (clGo F a0 n i M).2.2 a b d = M.2.2 a b d) ∧ ∀ l, i ≤ l → l < i + n → (clGo F a0 n i M).1 53 0 (12 * F + 12 + l) = M.1 53 0 (a0 + l) ∧ (clGo F a0 n i M).2.2 54 0 (12 * F + 12 + l) = M.2.2 54 0 (a0 + l)
  | 0, i, M, _ => ⟨fun _ _ _ _ => rfl, rfl, fun _ _ _ _ => rfl, fun l h1 h2 => absurd h2 (by omega)⟩
  | n + 1, i, M, hi => by
    rw [clGo]
    obtain ⟨b1, b2, b3, b4⟩ := clGo_at ha n (i + 1) (wD (wI M 53 0 (12 * F + 12 + i) (M.1 53 0 (a0 + i))) 54 0 (12 * F + 12 + i) (M.2.2 54 0 (a0 + i))) (by omega)
    refine ⟨fun a b d hz => ?_, by rw [b2, wD_l, wI_2], fun a b d hz => ?_, fun l h1 h2 => ?_⟩
    · rw [b1 a b d (fun z => hz ⟨z.1, z.2.1, by have := z.2.2; omega⟩), wD_1, wI_o _ _ _ _ _ _ _ _ (fun z => hz ⟨z.1, z.2.1, by have := z.2.2; omega⟩)]
    · rw [b3 a b d (fun z => hz ⟨z.1, z.2.1, by have := z.2.2; omega⟩), wD_o _ _ _ _ _ _ _ _ (fun z => hz ⟨z.1, z.2.1, by have := z.2.2; omega⟩), wI_2]
    · by_cases hl : l = i
      · subst hl
        rw [b1 53 0 _ (fun z => by have := z.2.2; omega), b3 54 0 _ (fun z => by have := z.2.2; omega), wD_1, wI_rd, wD_rd]
        exact ⟨rfl, rfl⟩
      · obtain ⟨c1, c2⟩ := b4 l (by omega) (by omega)
        rw [c1, c2, wD_1, wI_o _ _ _ _ _ _ _ _ (fun z => by have := z.2.2; omega), wD_o _ _ _ _ _ _ _ _ (fun z => by have := z.2.2; omega), wI_2]
        exact ⟨rfl, rfl⟩
/-- a frame entered, on both sides: F frames stood -/
theorem xmEnter_N {X : MS} {G : Nat} {m : Int32} (h : X.1 7 0 6 = nI G) (hG : G < 8) : xmEnter X m = wI (wI (wI (wI (wI X 21 0 G m) 22 0 G 0) 23 0 G (X.1 7 0 7)) 7 0 6 (nI (G + 1))) 7 0 13 (maxI (X.1 7 0 13) (nI (G + 1))) := by
  have g := nI_guard (N := 8) (M := 8) rfl hG (by decide)
  rw [xmEnter, h, if_pos g, nI_c (by omega), nI_1]
theorem mEnS_48 {M : MS} {q : Int32} {G : Nat} : (mEnS M q G).1 8 0 48 = if nI (G + 1) ≤ M.1 8 0 48 then M.1 8 0 48 else nI (G + 1) := by
  have e : (mEn1 M q G).1 8 0 48 = M.1 8 0 48 := by
    rw [mEn1, wI_o _ _ _ _ _ _ _ _ (by decide), (enGo_at G 6 0 _).1 8 0 48 (fun z => absurd z.1 (by decide)), mEn0, wI_o _ _ _ _ _ _ _ _ (fun z => absurd z.1 (by decide)), wI_o _ _ _ _ _ _ _ _ (fun z => absurd z.1 (by decide)), wI_o _ _ _ _ _ _ _ _ (fun z => absurd z.1 (by decide))]
  rw [mEnS, wI_rd, e]
theorem mEnS_at {M : MS} {q : Int32} {G : Nat} : (mEnS M q G).1 8 0 36 = nI (G + 1) ∧ (mEnS M q G).1 50 0 G = q ∧ (mEnS M q G).1 51 0 G = 0 ∧ (mEnS M q G).1 52 0 G = 0 ∧ (∀ a b d, ¬ (a = 8 ∧ (d = 36 ∨ d = 48)) → ¬ ((a = 50 ∨ a = 51 ∨ a = 52) ∧ d = G) → ¬ (a = 53 ∧ 12 * G ≤ d ∧ d < 12 * G + 6) → (mEnS M q G).1 a b d = M.1 a b d) ∧ (mEnS M q G).2.1 = M.2.1 ∧ ∀ a b d, ¬ (a = 54 ∧ 12 * G ≤ d ∧ d < 12 * G + 6) → (mEnS M q G).2.2 a b d = M.2.2 a b d := by
  obtain ⟨e1, e2, e3⟩ := enGo_at G 6 0 (mEn0 M q G)
  have n8 : ∀ a b d, a ≠ 8 → (mEnS M q G).1 a b d = (enGo G 6 0 (mEn0 M q G)).1 a b d := fun a b d h => by
    rw [mEnS, wI_o _ _ _ _ _ _ _ _ (fun z => h z.1), mEn1, wI_o _ _ _ _ _ _ _ _ (fun z => h z.1)]
  have n53 : ∀ a b d, a ≠ 8 → a ≠ 53 → (mEnS M q G).1 a b d = (mEn0 M q G).1 a b d := fun a b d h h2 => by
    rw [n8 a b d h, e1 a b d (fun z => h2 z.1)]
  refine ⟨?_, ?_, ?_, ?_, fun a b d h1 h2 h3 => ?_, ?_, fun a b d h => ?_⟩
  · rw [mEnS, wI_o _ _ _ _ _ _ _ _ (by decide), mEn1, wI_rd]
  · rw [n53 _ _ _ (by decide) (by decide), mEn0, wI_o _ _ _ _ _ _ _ _ (fun z => absurd z.1 (by decide)), wI_o _ _ _ _ _ _ _ _ (fun z => absurd z.1 (by decide)), wI_rd]
  · rw [n53 _ _ _ (by decide) (by decide), mEn0, wI_o _ _ _ _ _ _ _ _ (fun z => absurd z.1 (by decide)), wI_rd]
  · rw [n53 _ _ _ (by decide) (by decide), mEn0, wI_rd]
  · have m0 : (mEn0 M q G).1 a b d = M.1 a b d := by
      rw [mEn0, wI_o _ _ _ _ _ _ _ _ (fun z => h2 ⟨Or.inr (Or.inr z.1), z.2.2⟩), wI_o _ _ _ _ _ _ _ _ (fun z => h2 ⟨Or.inr (Or.inl z.1), z.2.2⟩), wI_o _ _ _ _ _ _ _ _ (fun z => h2 ⟨Or.inl z.1, z.2.2⟩)]
    rw [mEnS, wI_o _ _ _ _ _ _ _ _ (fun z => h1 ⟨z.1, Or.inr z.2.2⟩), mEn1, wI_o _ _ _ _ _ _ _ _ (fun z => h1 ⟨z.1, Or.inl z.2.2⟩), e1 a b d (fun z => h3 ⟨z.1, by have := z.2.2; omega⟩), m0]
  · rw [mEnS, wI_2, mEn1, wI_2, e2, mEn0, wI_2, wI_2, wI_2]
  · rw [mEnS, wI_2, mEn1, wI_2, e3 a b d (fun z => h ⟨z.1, by have := z.2.2; omega⟩), mEn0, wI_2, wI_2, wI_2]
theorem deep_eq {v : Int32} {G : Nat} : maxI v (nI (G + 1)) = if nI (G + 1) ≤ v then v else nI (G + 1) := by
  unfold maxI
  by_cases c : nI (G + 1) ≤ v
  · rw [if_neg (Int32.not_lt.mpr c), if_pos c]
  · rw [if_pos (Int32.not_le.mp c), if_neg c]
theorem xK_21 (X : MS) (f : Int32) (tk : Nat → Nat) : xK X (nI 21) f tk = xmCall X f.toNatClampNeg (tk f.toNatClampNeg) f := by rw [(xK_v (by decide)).2.2.2.2.1 (by decide) (by decide), xmRest, if_neg (by decide), if_neg (by decide), if_pos (by decide)]
theorem xK_22 (X : MS) (f : Int32) (tk : Nat → Nat) : xK X (nI 22) f tk = xmLeave X := by rw [(xK_v (by decide)).2.2.2.2.1 (by decide) (by decide), xmRest, if_neg (by decide), if_neg (by decide), if_neg (by decide), if_pos (by decide)]
/-- a CALL, the class's side -/
theorem xmCall_N {X : MS} {F c t g : Nat} (h6 : X.1 7 0 6 = nI (F + 1)) (hF : F < 7) (h7 : X.1 7 0 7 = nI (c + t)) (hg : X.1 4 g 1 = nI t) (ht : t ≤ 3) (hc : c + t ≤ 48) : ∃ X', xmCall X g t (nI g) = X' ∧ (∀ a b d, ¬ (a = 7 ∧ (d = 6 ∨ d = 7 ∨ d = 13)) → ¬ ((a = 21 ∨ a = 22 ∨ a = 23) ∧ d = F + 1) → X'.1 a b d = X.1 a b d) ∧ (∀ a b d, ¬ (a = 20 ∧ 6 * (F + 1) ≤ d) → X'.2.1 a b d = X.2.1 a b d) ∧ X'.1 7 0 6 = nI (F + 2) ∧ X'.1 7 0 7 = nI c ∧ X'.1 7 0 13 = maxI (X.1 7 0 13) (nI (F + 2)) ∧ X'.1 21 0 (F + 1) = nI g ∧ X'.1 22 0 (F + 1) = 0 ∧ X'.1 23 0 (F + 1) = nI c ∧ ∀ l, l < t → X'.2.1 20 0 (6 * (F + 1) + l) = X.2.1 19 0 (c + l) := by
  have hlt : X.1 7 0 6 < 8 := by rw [h6, show (8 : Int32) = nI 8 from rfl, nI_ltI (by omega) (by decide)]; omega
  have e0 : xmCi0 X g = wI X 7 0 7 (nI c) := by rw [xmCi0, h7, hg, nI_sub (by omega), Nat.add_sub_cancel]
  have h6' : (wI X 7 0 7 (nI c)).1 7 0 6 = nI (F + 1) := by rw [wI_o _ _ _ _ _ _ _ _ (by decide)]; exact h6
  have eE := xmEnter_N (m := nI g) h6' (by omega)
  rw [wI_rd] at eE
  rw [xmCall, if_pos hlt, e0, eE]
  obtain ⟨Y, hY⟩ : ∃ Y, wI (wI (wI (wI (wI (wI X 7 0 7 (nI c)) 21 0 (F + 1) (nI g)) 22 0 (F + 1) 0) 23 0 (F + 1) (nI c)) 7 0 6 (nI (F + 1 + 1))) 7 0 13 (maxI ((wI X 7 0 7 (nI c)).1 7 0 13) (nI (F + 1 + 1))) = Y := ⟨_, rfl⟩
  have n7 : ¬ ∀ x : Nat, False := fun z => z 0
  have y6 : Y.1 7 0 6 = nI (F + 1 + 1) := by rw [← hY, wI_o _ _ _ _ _ _ _ _ (by decide), wI_rd]
  have y7 : Y.1 7 0 7 = nI c := by
    rw [← hY, wI_o _ _ _ _ _ _ _ _ (by decide), wI_o _ _ _ _ _ _ _ _ (by decide), wI_o _ _ _ _ _ _ _ _ (fun z => absurd z.1 (by decide)), wI_o _ _ _ _ _ _ _ _ (fun z => absurd z.1 (by decide)), wI_o _ _ _ _ _ _ _ _ (fun z => absurd z.1 (by decide)), wI_rd]
  have y2 : Y.2 = X.2 := by rw [← hY]; rfl
  obtain ⟨a1, a2, a3, a4⟩ := ciGo_at (G := F + 1) (c := c) (by omega) t 0 Y y6 y7 (by omega) (by omega)
  rw [hY]
  refine ⟨_, rfl, fun a b d z1 z2 => ?_, fun a b d z => ?_, by rw [a1]; exact y6, by rw [a1]; exact y7, ?_, ?_, ?_, ?_, fun l hl => ?_⟩
  · rw [a1, ← hY, wI_o _ _ _ _ _ _ _ _ (fun y => z1 ⟨y.1, by omega⟩), wI_o _ _ _ _ _ _ _ _ (fun y => z1 ⟨y.1, by omega⟩), wI_o _ _ _ _ _ _ _ _ (fun y => z2 ⟨Or.inr (Or.inr y.1), y.2.2⟩), wI_o _ _ _ _ _ _ _ _ (fun y => z2 ⟨Or.inr (Or.inl y.1), y.2.2⟩), wI_o _ _ _ _ _ _ _ _ (fun y => z2 ⟨Or.inl y.1, y.2.2⟩), wI_o _ _ _ _ _ _ _ _ (fun y => z1 ⟨y.1, by omega⟩)]
  · rw [a2 a b d (fun y => z ⟨y.1, by have := y.2.2; omega⟩), y2]
  · rw [a1, ← hY, wI_rd, wI_o _ _ _ _ _ _ _ _ (by decide)]
  · rw [a1, ← hY, wI_o _ _ _ _ _ _ _ _ (fun z => absurd z.1 (by decide)), wI_o _ _ _ _ _ _ _ _ (fun z => absurd z.1 (by decide)), wI_o _ _ _ _ _ _ _ _ (fun z => absurd z.1 (by decide)), wI_o _ _ _ _ _ _ _ _ (fun z => absurd z.1 (by decide)), wI_rd]
  · rw [a1, ← hY, wI_o _ _ _ _ _ _ _ _ (fun z => absurd z.1 (by decide)), wI_o _ _ _ _ _ _ _ _ (fun z => absurd z.1 (by decide)), wI_o _ _ _ _ _ _ _ _ (fun z => absurd z.1 (by decide)), wI_rd]
  · rw [a1, ← hY, wI_o _ _ _ _ _ _ _ _ (fun z => absurd z.1 (by decide)), wI_o _ _ _ _ _ _ _ _ (fun z => absurd z.1 (by decide)), wI_rd]
  · rw [a3 l (Nat.zero_le _) (by omega), y2]
/-- a CALL, the model's side -/
theorem mClS_N {M : MS} {F e t g p : Nat} (h51 : M.1 51 0 F = nI p) (he : e + t ≤ 6) (hp : p + 2 < 2 ^ 31) : ∃ M', mClS M F e t g = M' ∧ (∀ a b d, ¬ (a = 8 ∧ (d = 36 ∨ d = 48)) → ¬ ((a = 50 ∨ a = 51 ∨ a = 52) ∧ (d = F ∨ d = F + 1)) → ¬ (a = 53 ∧ 12 * (F + 1) ≤ d) → M'.1 a b d = M.1 a b d) ∧ M'.2.1 = M.2.1 ∧ (∀ a b d, ¬ (a = 54 ∧ 12 * (F + 1) ≤ d) → M'.2.2 a b d = M.2.2 a b d) ∧ M'.1 8 0 36 = nI (F + 2) ∧ M'.1 8 0 48 = (if nI (F + 2) ≤ M.1 8 0 48 then M.1 8 0 48 else nI (F + 2)) ∧ M'.1 50 0 (F + 1) = nI g ∧ M'.1 51 0 (F + 1) = 0 ∧ M'.1 52 0 (F + 1) = 0 ∧ M'.1 50 0 F = M.1 50 0 F ∧ M'.1 51 0 F = nI (p + 2) ∧ M'.1 52 0 F = nI e ∧ ∀ l, l < t → M'.1 53 0 (12 * (F + 1) + l) = M.1 53 0 (12 * F + 6 + (e + l)) ∧ M'.2.2 54 0 (12 * (F + 1) + l) = M.2.2 54 0 (12 * F + 6 + (e + l)) := by
  obtain ⟨s1, s2, s3, s4, s5, s6, s7⟩ := mEnS_at (M := mCl0 M F e) (q := nI g) (G := F + 1)
  have s8 := mEnS_48 (M := mCl0 M F e) (q := nI g) (G := F + 1)
  obtain ⟨c1, c2, c3, c4⟩ := clGo_at (F := F) (a0 := 12 * F + 6 + e) (t := t) (by omega) t 0 (mEnS (mCl0 M F e) (nI g) (F + 1)) (by omega)
  have m0 : ∀ a b d, ¬ ((a = 51 ∨ a = 52) ∧ d = F) → (mCl0 M F e).1 a b d = M.1 a b d := fun a b d z => by
    rw [mCl0, wI_o _ _ _ _ _ _ _ _ (fun y => z ⟨Or.inr y.1, y.2.2⟩), wI_o _ _ _ _ _ _ _ _ (fun y => z ⟨Or.inl y.1, y.2.2⟩)]
  have m1 : (mCl0 M F e).1 51 0 F = nI (p + 2) := by
    rw [mCl0, wI_o _ _ _ _ _ _ _ _ (fun z => absurd z.1 (by decide)), wI_rd, h51]; exact nI_add p 2
  have m2 : (mCl0 M F e).1 52 0 F = nI e := by rw [mCl0, wI_rd]
  have m3 : (mCl0 M F e).2 = M.2 := by rw [mCl0, wI_2, wI_2]
  refine ⟨_, rfl, fun a b d z1 z2 z3 => ?_, ?_, fun a b d z => ?_, ?_, ?_, ?_, ?_, ?_, ?_, ?_, ?_, fun l hl => ?_⟩
  · rw [mClS, c1 a b d (fun y => z3 ⟨y.1, by have := y.2.2; omega⟩), s5 a b d z1 (fun y => z2 ⟨y.1, Or.inr y.2⟩) (fun y => z3 ⟨y.1, by have := y.2; omega⟩), m0 a b d (fun y => z2 ⟨by omega, Or.inl y.2⟩)]
  · rw [mClS, c2, s6, m3]
  · rw [mClS, c3 a b d (fun y => z ⟨y.1, by have := y.2.2; omega⟩), s7 a b d (fun y => z ⟨y.1, by have := y.2; omega⟩), m3]
  · rw [mClS, c1 8 0 36 (fun y => absurd y.1 (by decide))]; exact s1
  · rw [mClS, c1 8 0 48 (fun y => absurd y.1 (by decide)), s8, m0 8 0 48 (fun y => by have := y.1; omega)]
  · rw [mClS, c1 50 0 _ (fun y => absurd y.1 (by decide))]; exact s2
  · rw [mClS, c1 51 0 _ (fun y => absurd y.1 (by decide))]; exact s3
  · rw [mClS, c1 52 0 _ (fun y => absurd y.1 (by decide))]; exact s4
  · rw [mClS, c1 50 0 _ (fun y => absurd y.1 (by decide)), s5 50 0 F (fun y => absurd y.1 (by decide)) (fun y => by have := y.2; omega) (fun y => absurd y.1 (by decide)), m0 50 0 F (fun y => by have := y.1; omega)]
  · rw [mClS, c1 51 0 _ (fun y => absurd y.1 (by decide)), s5 51 0 F (fun y => absurd y.1 (by decide)) (fun y => by have := y.2; omega) (fun y => absurd y.1 (by decide))]; exact m1
  · rw [mClS, c1 52 0 _ (fun y => absurd y.1 (by decide)), s5 52 0 F (fun y => absurd y.1 (by decide)) (fun y => by have := y.2; omega) (fun y => absurd y.1 (by decide))]; exact m2
  · obtain ⟨d1, d2⟩ := c4 l (Nat.zero_le _) (by omega)
    rw [mClS, show 12 * (F + 1) + l = 12 * F + 12 + l by omega, d1, d2, s5 53 0 _ (fun y => absurd y.1 (by decide)) (fun y => by have := y.1; omega) (fun y => by have := y.2; omega), s7 54 0 _ (fun y => by have := y.2; omega), m0 53 0 _ (fun y => by have := y.1; omega), m3, show 12 * F + 6 + e + l = 12 * F + 6 + (e + l) by omega]
    exact ⟨rfl, rfl⟩
