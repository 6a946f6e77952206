/-! the model reads: what stays -/
theorem mFaultS_f {S : MS} {w a : Int32} (h : (mFaultS S w a).1 8 0 28 = 0) : S.1 8 0 28 = 0 := by
  by_cases h1 : S.1 8 0 28 = 0
  · exact h1
  · rw [mFaultS, if_neg h1] at h; exact h
theorem mFaultS_0 {S : MS} {w a : Int32} (hw : ¬ w = 0) (h : (mFaultS S w a).1 8 0 28 = 0) : False := by
  have h1 := mFaultS_f h
  rw [mFaultS, if_pos h1, wI_o _ _ _ _ _ _ _ _ (by decide), wI_rd] at h
  exact hw h
theorem mTakeS_f {S : MS} (h : (mTakeS S).1 8 0 28 = 0) : S.1 8 0 28 = 0 := by
  by_cases h1 : S.1 8 0 28 = 0
  · exact h1
  · rw [mTakeS, if_neg h1] at h; exact h
theorem mTknS_f {S : MS} {lo up w : Int32} (h : (mTknS S lo up w).1 8 0 28 = 0) : S.1 8 0 28 = 0 := by
  by_cases h1 : (mTakeS S).1 8 0 28 = 0
  · exact mTakeS_f h1
  · rw [mTknS, if_neg h1] at h; exact mTakeS_f h
theorem setT_f {S : MS} {kd i : Nat} {lo up w : Int32} (h8 : kd ≠ 8) (h : (setT S kd i lo up w).1 8 0 28 = 0) : S.1 8 0 28 = 0 := by
  rw [setT, wI_o _ _ _ _ _ _ _ _ (fun z => h8 z.1.symm)] at h; exact mTknS_f h
theorem fillGo_f {kd a : Nat} {lo up : Int32} (h8 : kd ≠ 8) : ∀ (n i : Nat) (S : MS), (fillGo kd a lo up n i S).1 8 0 28 = 0 → S.1 8 0 28 = 0
  | 0, _, _, h => h
  | n + 1, i, S, h => setT_f h8 (fillGo_f h8 n (i + 1) _ h)
theorem rn1_f {S : MS} {m : Nat} (h : (rn1 S m).1 8 0 28 = 0) : S.1 8 0 28 = 0 ∧ rnGood (mTakeS S) (mTakeV S).toNatClampNeg m = true := by
  unfold rn1 at h
  by_cases hb : rnGood (mTakeS S) (mTakeV S).toNatClampNeg m = true
  · rw [if_pos hb] at h; exact ⟨mTakeS_f h, hb⟩
  · rw [if_neg hb] at h; exact (mFaultS_0 (by decide) h).elim
theorem rnS_f {S : MS} {m : Nat} (h : (rnS S m).1 8 0 28 = 0) : S.1 8 0 28 = 0 ∧ rnGood (mTakeS S) (mTakeV S).toNatClampNeg m = true := by
  rw [rnS, wI_o _ _ _ _ _ _ _ _ (fun z => absurd z.1 (by decide))] at h; exact rn1_f h
theorem rm1_f {S : MS} {m k : Nat} (h : (rm1 S m k).1 8 0 28 = 0) : S.1 8 0 28 = 0 := by
  unfold rm1 at h
  rw [wI_o _ _ _ _ _ _ _ _ (fun z => absurd z.1 (by decide))] at h
  by_cases hb : rmBad (mTakeS S) m k (mTakeV S) = true
  · rw [if_pos hb] at h; exact (mFaultS_0 (by decide) h).elim
  · rw [if_neg hb] at h; exact mTakeS_f h
theorem rmS'_f {S : MS} {m k : Nat} (h : (rmS' S m k).1 8 0 28 = 0) : S.1 8 0 28 = 0 := by
  rw [rmS'] at h
  have h1 := fillGo_f (kd := 42) (by decide) _ _ _ h
  rw [rm3] at h1
  have h2 := setT_f (kd := 41) (by decide) h1
  rw [rm2] at h2
  exact rm1_f (fillGo_f (kd := 40) (by decide) _ _ _ h2)
theorem qcGo_f {m : Nat} : ∀ (n i : Nat) (S : MS), (qcGo m n i S).1 8 0 28 = 0 → S.1 8 0 28 = 0
  | 0, _, _, h => h
  | n + 1, i, S, h => by
    have h1 := qcGo_f n (i + 1) _ h
    rw [wI_o _ _ _ _ _ _ _ _ (fun z => absurd z.1 (by decide))] at h1
    exact mTakeS_f h1
theorem qmGo_f {m : Nat} : ∀ (n i : Nat) (S : MS), (qmGo m n i S).1 8 0 28 = 0 → S.1 8 0 28 = 0
  | 0, _, _, h => h
  | n + 1, i, S, h => by
    by_cases h1 : S.1 8 0 28 = 0
    · exact h1
    · rw [qmGo, if_neg h1] at h; exact h
theorem mmS_f {S : MS} {m : Nat} (h : (mmS S m).1 8 0 28 = 0) : S.1 8 0 28 = 0 ∧ rnGood (mTakeS S) (mTakeV S).toNatClampNeg m = true := by
  have h8 := qmGo_f _ _ _ h
  have h7 := setT_f (by decide) h8
  have h6 := qcGo_f _ _ _ h7
  have h5 := setT_f (by decide) h6
  have h4 := setT_f (by decide) h5
  have h3 := setT_f (by decide) h4
  have h2 := setT_f (by decide) h3
  have h1 := fillGo_f (by decide) _ _ _ h2
  exact rnS_f (setT_f (by decide) h1)
theorem qmGo_o (m b c d : Nat) (h8 : ¬ (b = 8 ∧ c = 0 ∧ d = 28)) (h8' : ¬ (b = 8 ∧ c = 0 ∧ d = 29)) (h8'' : ¬ (b = 8 ∧ c = 0 ∧ d = 31)) (h1 : b ≠ 39) (h2 : b ≠ 40) (h3 : b ≠ 41) (h4 : b ≠ 42) : ∀ (n i : Nat) (S : MS), (qmGo m n i S).1 b c d = S.1 b c d
  | 0, _, _ => rfl
  | n + 1, i, S => by
    by_cases h : S.1 8 0 28 = 0
    · rw [qmGo, if_pos h, qmGo_o m b c d h8 h8' h8'' h1 h2 h3 h4 n, rmS'_o _ _ _ _ _ _ h8 h8' h8'' h1 h2 h3 h4]
    · rw [qmGo, if_neg h]
theorem qmGo_MP (m : Nat) : ∀ (n i : Nat) (S : MS), MP S → MP (qmGo m n i S)
  | 0, _, _, h => h
  | n + 1, i, S, h => by
    by_cases h1 : S.1 8 0 28 = 0
    · rw [qmGo, if_pos h1]; exact qmGo_MP m n _ _ (rmS'_MP m i h)
    · rw [qmGo, if_neg h1]; exact h
theorem mmS_MP {S : MS} (m : Nat) (h : MP S) : MP (mmS S m) := qmGo_MP _ _ _ _ (mm8_MP m h)
/-- what a method's reading leaves: all below kind 31 but the model's slots and its name -/
theorem mmS_o (S : MS) (m b c d : Nat) (h8 : ¬ (b = 8 ∧ c = 0 ∧ d = 28)) (h8' : ¬ (b = 8 ∧ c = 0 ∧ d = 29)) (h8'' : ¬ (b = 8 ∧ c = 0 ∧ d = 31)) (h30 : ¬ (b = 30 ∧ c = 0 ∧ d = m)) (hb : b < 31) : (mmS S m).1 b c d = S.1 b c d := by
  have g : ∀ k, 31 ≤ k → ∀ i, ¬ (b = k ∧ c = 0 ∧ d = i) := fun k hk i z => by have := z.1; omega
  rw [mmS, qmGo_o _ _ _ _ h8 h8' h8'' (by omega) (by omega) (by omega) (by omega), mm8, setT_o _ _ _ _ _ _ _ _ _ h8 h8' h8'' (g _ (by decide) _), mm7, qcGo_o _ _ _ _ h8 h8' h8'' (by omega), mm6, setT_o _ _ _ _ _ _ _ _ _ h8 h8' h8'' (g _ (by decide) _), mm5, setT_o _ _ _ _ _ _ _ _ _ h8 h8' h8'' (g _ (by decide) _), mm4, setT_o _ _ _ _ _ _ _ _ _ h8 h8' h8'' (g _ (by decide) _), mm3, setT_o _ _ _ _ _ _ _ _ _ h8 h8' h8'' (g _ (by decide) _), mm2, fillGo_o _ _ _ _ _ _ _ h8 h8' h8'' (by omega), mm1, setT_o _ _ _ _ _ _ _ _ _ h8 h8' h8'' (g _ (by decide) _), rnS_o _ _ _ _ _ h8 h8' h8'' h30]
theorem mmS_nm (S : MS) (m : Nat) : (mmS S m).1 30 0 m = mTakeV S := by
  have g : ∀ k, 31 ≤ k → ∀ i, ¬ (30 = k ∧ (0 : Nat) = 0 ∧ m = i) := fun k hk i z => by have := z.1; omega
  rw [mmS, qmGo_o _ _ _ _ (fun z => absurd z.1 (by decide)) (fun z => absurd z.1 (by decide)) (fun z => absurd z.1 (by decide)) (by omega) (by omega) (by omega) (by omega), mm8, setT_o _ _ _ _ _ _ _ _ _ (fun z => absurd z.1 (by decide)) (fun z => absurd z.1 (by decide)) (fun z => absurd z.1 (by decide)) (g _ (by decide) _), mm7, qcGo_o _ _ _ _ (fun z => absurd z.1 (by decide)) (fun z => absurd z.1 (by decide)) (fun z => absurd z.1 (by decide)) (by omega), mm6, setT_o _ _ _ _ _ _ _ _ _ (fun z => absurd z.1 (by decide)) (fun z => absurd z.1 (by decide)) (fun z => absurd z.1 (by decide)) (g _ (by decide) _), mm5, setT_o _ _ _ _ _ _ _ _ _ (fun z => absurd z.1 (by decide)) (fun z => absurd z.1 (by decide)) (fun z => absurd z.1 (by decide)) (g _ (by decide) _), mm4, setT_o _ _ _ _ _ _ _ _ _ (fun z => absurd z.1 (by decide)) (fun z => absurd z.1 (by decide)) (fun z => absurd z.1 (by decide)) (g _ (by decide) _), mm3, setT_o _ _ _ _ _ _ _ _ _ (fun z => absurd z.1 (by decide)) (fun z => absurd z.1 (by decide)) (fun z => absurd z.1 (by decide)) (g _ (by decide) _), mm2, fillGo_o _ _ _ _ _ _ _ (fun z => absurd z.1 (by decide)) (fun z => absurd z.1 (by decide)) (fun z => absurd z.1 (by decide)) (by omega), mm1, setT_o _ _ _ _ _ _ _ _ _ (fun z => absurd z.1 (by decide)) (fun z => absurd z.1 (by decide)) (fun z => absurd z.1 (by decide)) (g _ (by decide) _), rnS, wI_rd]
theorem rnGood_0 {T : MS} {e m : Nat} (h : rnGood T e m = true) : rn0 T e = true := by
  unfold rnGood at h
  cases hb : rn0 T e with
  | true => rfl
  | false => rw [hb, rnGo_f] at h; exact h
theorem mmS_W {S : MS} (m : Nat) (h : MW S) : MW (mmS S m) := fun e he => by
  rw [mmS_o _ _ _ _ _ (fun z => absurd z.1 (by decide)) (fun z => absurd z.1 (by decide)) (fun z => absurd z.1 (by decide)) (fun z => absurd z.1 (by decide)) (by omega)]; exact h e he
/-- no fault: one more name is an entry -/
theorem mmS_N {S : MS} {m en : Nat} (hP : MP S) (hE : S.1 8 0 4 = nI en) (hen : en ≤ 16) (hN : MN S m) (h : (mmS S m).1 8 0 28 = 0) : MN (mmS S m) (m + 1) := by
  intro k hk
  by_cases hkm : k = m
  · subst hkm
    obtain ⟨e, he, hV⟩ := mTakeV_rng hP
    have h0 := rnGood_0 (mmS_f h).2
    rw [hV, nI_c (by omega)] at h0
    simp only [rn0, Bool.and_eq_true, decide_eq_true_eq] at h0
    have h2 := h0.1.2
    rw [mTakeS_o _ _ _ _ (by decide) (by decide) (by decide), hE, nI_leI (by omega) (by omega)] at h2
    exact ⟨e, by omega, by rw [mmS_nm]; exact hV⟩
  · rw [mmS_o _ _ _ _ _ (fun z => absurd z.1 (by decide)) (fun z => absurd z.1 (by decide)) (fun z => absurd z.1 (by decide)) (fun z => hkm z.2.2) (by omega)]
    exact hN k (by omega)

