/-! the two sides read alike -/
theorem RJ.same {X M X' M' : MS} {k en q : Nat} (h : RJ X M k en q) (x : JX X X') (x17 : ∀ d, X'.1 17 q d = X.1 17 q d) (m : JM M M') (m4 : ∀ b d, 43 ≤ b → b ≤ 46 → M'.1 b 0 d = M.1 b 0 d) : RJ X' M' k en q := by
  obtain ⟨lc, stk, L, mp, gq, pl, l0, hC, hk, hF, hall, hmp⟩ := h
  have hJK : ∀ e d s l, JK X M q e d s l → JK X' M' q e d s l := fun e d s l z => z.same (x17 _) (m4 _ _ (by decide) (by decide)) (m4 _ _ (by decide) (by decide)) (fun _ _ => ⟨m4 _ _ (by decide) (by decide), m4 _ _ (by decide) (by decide)⟩)
  have hFl : ∀ e d2 s2 l2, Fl X M q L e d2 s2 l2 → Fl X' M' q L e d2 s2 l2 := fun e d2 s2 l2 ⟨z1, d3, s3, l3, z2, z3⟩ => ⟨z1, d3, s3, l3, hJK _ _ _ _ z2, z3⟩
  have hN : ∀ p', NoJ X' M' q p' ↔ NoJ X M q p' := fun p' => by
    rw [NoJ, NoJ, x17, m4 _ _ (by decide) (by decide)]
  refine ⟨lc, stk, L, mp, gq, pl, l0, hC.j x m, by rw [x.1 _ _ _ (by decide) (by first | decide | exact KX_ne (by decide))]; exact hk, hFl _ _ _ _ hF, fun p' hp' => ?_, fun j hj z => hmp j hj ((hN _).mp z)⟩
  rcases hall p' hp' with a | ⟨a1, o', g', d', s', l', a2, a3, a4, a5, a6, a7⟩
  · exact Or.inl ((hN p').mpr a)
  · refine Or.inr ⟨a1, o', g', d', s', l', (m.1 _ _ _ (NR_b (by decide) (by decide))).trans a2, a3.j x m, hJK _ _ _ _ a4, a5, fun j hj hjp => (a6 j hj hjp).j x m, fun z1 z2 => ?_⟩
    rw [afD_j m o' g' d' s' l', afS_j m o' g' d' s' l']
    exact hFl _ _ _ _ (a7 z1 z2)
theorem wJX (X : MS) (b c d : Nat) (v : Int32) (h : b = 0 ∨ b = 1 ∨ b = 5 ∨ b = 6 ∨ b = 7 ∨ b = 9) : JX X (wI X b c d v) := ⟨fun b' c' d' h6 hk => wI_o _ _ _ _ _ _ _ _ (fun z => by have := hk.2; have := z.1; omega), fun d => by rw [wI_2]⟩
theorem mrGo_n {b c d : Nat} (h : NO b d) : ∀ (n i : Nat) (a : Int32) (S : MS), (mrGo n i a S).2.1 b c d = S.1 b c d
  | 0, _, _, _ => rfl
  | n + 1, i, a, S => by
    rw [mrGo]
    by_cases c1 : S.1 8 0 9 ≤ nI i
    · rw [if_pos c1]
    · rw [if_neg c1]
      by_cases c2 : S.1 8 0 28 = 0
      · rw [if_pos c2, mrGo_n h n, mjgS_n _ _ h]
      · rw [if_neg c2]
theorem rdGo_4 (tk : Nat → Nat) (q d : Nat) : ∀ (n i : Nat) (a : Int32) (S : MS), (rdGo tk n i a S).2.1 4 q d = S.1 4 q d
  | 0, _, _, _ => rfl
  | n + 1, i, a, S => by
    rw [rdGo]
    by_cases c1 : S.1 2 0 3 ≤ nI i
    · rw [if_pos c1]
    · rw [if_neg c1]
      by_cases c2 : S.1 0 0 5 = 0
      · rw [if_pos c2, rdGo_4 tk q d n, jmN, wI_o _ _ _ _ _ _ _ _ (fun z => absurd z.1 (by decide)), jmR, jmGo_o _ _ _ _ _ (by decide) (by decide), jm0_o _ _ _ _ _ (by decide) (by decide)]
      · rw [if_neg c2]
theorem mfGo_hi {b : Nat} (d : Nat) (h : 43 ≤ b) : ∀ (n k : Nat) (M : MS), (mfGo n k M).1 b 0 d = M.1 b 0 d
  | 0, _, _ => rfl
  | n + 1, k, M => by
    rw [mfGo]
    by_cases c : M.1 8 0 28 = 0
    · rw [if_pos c, mfGo_hi d h n, mmS_any _ (by omega) (fun z => by have := z.2.1; omega)]
    · rw [if_neg c]
theorem mfS_hi {b : Nat} (d : Nat) (h : 43 ≤ b) (M : MS) : (mfS M).1 b 0 d = M.1 b 0 d := by
  have n8 : ∀ x, ¬ (b = 8 ∧ (0 : Nat) = 0 ∧ d = x) := fun x z => by have := z.1; omega
  rw [mfS, mf8_o _ _ _ (by omega), mf7_o _ _ _ (by omega), mf6, mfGo_hi _ h, mf5, wI_o _ _ _ _ _ _ _ _ (n8 _), mTknS_o _ _ _ _ _ _ _ (n8 _) (n8 _) (n8 _), mPool, mPoolGo_o _ _ _ (n8 _) (n8 _) (n8 _) (by omega) (by omega) (by omega), mPool1, wI_o _ _ _ _ _ _ _ _ (n8 _), mTknS_o _ _ _ _ _ _ _ (n8 _) (n8 _) (n8 _), mf3, wI_o _ _ _ _ _ _ _ _ (n8 _), mTknS_o _ _ _ _ _ _ _ (n8 _) (n8 _) (n8 _), mf2, mTknS_o _ _ _ _ _ _ _ (n8 _) (n8 _) (n8 _), mTknS_o _ _ _ _ _ _ _ (n8 _) (n8 _) (n8 _), wI_o _ _ _ _ _ _ _ _ (n8 _)]
theorem flGo_at (d : Nat) : ∀ (n i : Nat) (S : MS), (flGo n i S).1 47 0 d = if i ≤ d ∧ d < i + n then 0 else S.1 47 0 d
  | 0, i, S => by rw [if_neg (by omega)]; rfl
  | n + 1, i, S => by
    rw [flGo, flGo_at d n (i + 1)]
    by_cases hd : d = i
    · rw [hd, if_neg (by omega), if_pos (by omega), wI_rd]
    · rw [wI_o _ _ _ _ _ _ _ _ (fun z => hd z.2.2)]
      by_cases h : i ≤ d ∧ d < i + (n + 1)
      · rw [if_pos (by omega), if_pos h]
      · rw [if_neg (by omega), if_neg h]
theorem rdGo_stop (tk : Nat → Nat) (n i : Nat) (a : Int32) (S : MS) (h : ¬ S.1 0 0 5 = 0) : rdGo tk n i a S = (a, S) := by
  cases n with
  | zero => rfl
  | succ n =>
    rw [rdGo]
    by_cases c : S.1 2 0 3 ≤ nI i
    · rw [if_pos c]
    · rw [if_neg c, if_neg h]
theorem mrGo_stop (n i : Nat) (a : Int32) (S : MS) (h : ¬ S.1 8 0 28 = 0) : mrGo n i a S = (a, S) := by
  cases n with
  | zero => rfl
  | succ n =>
    rw [mrGo]
    by_cases c : S.1 8 0 9 ≤ nI i
    · rw [if_pos c]
    · rw [if_neg c, if_neg h]
theorem J_rd {k en : Nat} {tk : Nat → Nat} : ∀ (n i m : Nat) (a' : Int32) (X M : MS), i + n = k → n < m → RFile X M k en → X.1 0 0 5 = 0 → M.1 8 0 28 = 0 → (∀ q, q < i → RJ X M k en q) → (∀ j, j < 5 → X.1 4 j 1 = nI (tk j) ∧ tk j ≤ 3) → ∃ X' M', (rdGo tk n i (nI k) X).2 = X' ∧ (mrGo m i a' M).2 = M' ∧
    ((∃ w : Int32, w ≠ 0 ∧ X'.1 0 0 5 = w ∧ M'.1 8 0 28 = w ∧ (rdGo tk n i (nI k) X).1 = (mrGo m i a' M).1) ∨ ((rdGo tk n i (nI k) X).1 = nI k ∧ X'.1 0 0 5 = 0 ∧ M'.1 8 0 28 = 0 ∧ RFile X' M' k en ∧ ∀ q, q < k → RJ X' M' k en q))
  | n, i, 0, a', X, M, hi, hm, hR, h5, h28, hJ, htk => absurd hm (Nat.not_lt_zero _)
  | 0, i, m + 1, a', X, M, hi, hm, hR, h5, h28, hJ, htk => by
    have hk5 := hR.2.1
    have hik : i = k := by omega
    subst hik
    rw [mrGo, if_pos (by rw [hR.2.2.2.1]; exact Int32.le_refl _)]
    exact ⟨X, M, rfl, rfl, Or.inr ⟨rfl, h5, h28, hR, hJ⟩⟩
  | n + 1, i, m + 1, a', X, M, hi, hm, hR, h5, h28, hJ, htk => by
    have hk5 := hR.2.1
    have hc : ¬ nI k ≤ nI i := by rw [nI_leI (by omega) (by omega)]; omega
    rw [mrGo, rdGo, hR.2.2.1, hR.2.2.2.1, if_neg hc, if_neg hc, if_pos h5, if_pos h28]
    obtain ⟨X', M', j1, j2, j3, j4, j5⟩ := J_meth (q := i) hR (by omega) h28 htk
    have hN : jmN tk i X = wI X' 0 0 5 (jmGo i tk 50 0 (jm0 X i)).1 := by rw [jmN, jmR, nI_c (by omega), j1]
    have hw := wJX X' 0 0 5 (jmGo i tk 50 0 (jm0 X i)).1 (Or.inl rfl)
    have hw17 : ∀ c d, (wI X' 0 0 5 (jmGo i tk 50 0 (jm0 X i)).1).1 17 c d = X'.1 17 c d := fun c d => wI_o _ _ _ _ _ _ _ _ (fun z => absurd z.1 (by decide))
    rw [hN, j2, wI_rd]
    rcases j5 with ⟨w, p', w1, w2, w3, w4, w5, w6⟩ | ⟨w1, w2, w3⟩
    · rw [w3]
      rw [if_neg w1, rdGo_stop _ _ _ _ _ (by rw [wI_rd]; exact w1), mrGo_stop _ _ _ _ (by rw [w5]; exact w1)]
      refine ⟨_, _, rfl, rfl, Or.inl ⟨w, w1, wI_rd _ _ _ _ _, w5, ?_⟩⟩
      show -1000 - 50 * nI i - _ = -1000 - 50 * nI i - _
      rw [wI_o _ _ _ _ _ _ _ _ (fun z => absurd z.1 (by decide)), w4, w6]
    · rw [w1] at hw hw17 ⊢
      have hR' : RFile (wI X' 0 0 5 0) M' k en := (hR.j j3.1 j4.1).j hw (JM.rf _)
      rw [if_pos rfl, hR'.2.2.1]
      refine J_rd n (i + 1) m _ _ _ (by omega) (by omega) hR' (wI_rd _ _ _ _ _) w2 (fun q hq => ?_) (fun j hj => ?_)
      · by_cases hqi : q = i
        · rw [hqi]; exact w3.same hw (fun d => hw17 _ _) (JM.rf _) (fun _ _ _ _ => rfl)
        · exact ((hJ q (by omega)).j j3 j4 hqi).same hw (fun d => hw17 _ _) (JM.rf _) (fun _ _ _ _ => rfl)
      · rw [wI_o _ _ _ _ _ _ _ _ (fun z => absurd z.1 (by decide)), j3.1.1 _ _ _ (by decide) (by first | decide | exact KX_ne (by decide))]
        exact htk j hj
/-- what lies read: nothing, or a FILE alike, judged and sound -/
def RD (X M : MS) : Prop := (X.1 2 0 3 = 0 ∧ X.1 3 0 3 = 0 ∧ X.1 2 0 2 = 0 ∧ M.1 8 0 9 = 0 ∧ M.1 8 0 4 = 0 ∧ M.1 8 0 3 = 0) ∨ ∃ k en, RFile X M k en ∧ (∀ q, q < k → RJ X M k en q) ∧ ∀ q, q < k → ∃ c, c ≤ 3 ∧ X.1 4 q 7 = nI c ∧ M.1 47 0 q = nI c
theorem J_read0 {Y N Z : MS} {n k : Nat} {A : Int32} {rG rM : Int32 × MS} {tk : Nat → Nat} (hQ : QR Y N n) (hF : N.1 8 0 28 = 0 → ∃ k en, RFile Y N k en ∧ ∀ q, q < k → Y.1 4 q 7 = 0) (h47 : ∀ q, q < 5 → N.1 47 0 q = 0) (hZ : Z = wI Y 0 0 5 (Y.1 5 0 1)) (hA : A = if Z.1 0 0 5 = 0 then Z.1 2 0 3 else -200 - Z.1 5 0 0) (hk : Z.1 2 0 3 = nI k) (hk5 : k ≤ 5) (htk : ∀ j, j < 5 → Z.1 4 j 1 = nI (tk j) ∧ tk j ≤ 3) (hG : rdGo tk k 0 A Z = rG) (hM : mrGo 6 0 (-200 - N.1 8 0 29) N = rM) : rG.1 = (if rM.2.1 8 0 28 = 0 then rM.2.1 8 0 9 else rM.1) ∧ RD (if rG.2.1 0 0 5 = 0 then rG.2 else forgetG rG.2) (if rM.2.1 8 0 28 = 0 then rM.2 else wI (wI (wI rM.2 8 0 3 0) 8 0 4 0) 8 0 9 0) ∧ (if rG.2.1 0 0 5 = 0 then rG.2 else forgetG rG.2).1 0 0 5 = (if rM.2.1 8 0 28 = 0 then rM.2 else wI (wI (wI rM.2 8 0 3 0) 8 0 4 0) 8 0 9 0).1 8 0 28 := by
  have hfg : ∀ (X' M' : MS), X'.1 0 0 5 = M'.1 8 0 28 → RD (forgetG X') (wI (wI (wI M' 8 0 3 0) 8 0 4 0) 8 0 9 0) ∧ (forgetG X').1 0 0 5 = (wI (wI (wI M' 8 0 3 0) 8 0 4 0) 8 0 9 0).1 8 0 28 := fun X' M' h => by
    refine ⟨Or.inl ⟨?_, ?_, ?_, ?_, ?_, ?_⟩, ?_⟩
    · rw [forgetG, wI_o _ _ _ _ _ _ _ _ (by decide), wI_rd]
    · rw [forgetG, wI_rd]
    · rw [forgetG, wI_o _ _ _ _ _ _ _ _ (by decide), wI_o _ _ _ _ _ _ _ _ (by decide), wI_rd]
    · rw [wI_rd]
    · rw [wI_o _ _ _ _ _ _ _ _ (by decide), wI_rd]
    · rw [wI_o _ _ _ _ _ _ _ _ (by decide), wI_o _ _ _ _ _ _ _ _ (by decide), wI_rd]
    · rw [forgetG, wI_o _ _ _ _ _ _ _ _ (by decide), wI_o _ _ _ _ _ _ _ _ (by decide), wI_o _ _ _ _ _ _ _ _ (by decide), wI_o _ _ _ _ _ _ _ _ (by decide), wI_o _ _ _ _ _ _ _ _ (by decide), wI_o _ _ _ _ _ _ _ _ (by decide)]
      exact h
  have x5 : Z.1 0 0 5 = N.1 8 0 28 := by rw [hZ, wI_rd]; exact hQ.2.1
  have hw : JX Y Z := by rw [hZ]; exact wJX Y 0 0 5 _ (Or.inl rfl)
  by_cases hz : N.1 8 0 28 = 0
  · obtain ⟨k', en, hR, h7⟩ := hF hz
    have hR' : RFile Z N k' en := hR.j hw (JM.rf _)
    have hkk : k' = k := by
      have h1 := hR'.2.2.1
      have := hR'.2.1
      rw [hk, nI_eq (by omega) (by omega)] at h1
      exact h1.symm
    subst hkk
    have hA' : A = nI k' := by rw [hA, if_pos (x5.trans hz)]; exact hk
    obtain ⟨X', M', j1, j2, j3⟩ := J_rd (tk := tk) k' 0 6 (-200 - N.1 8 0 29) Z N (Nat.zero_add _) (by omega) hR' (x5.trans hz) hz (fun q hq => absurd hq (Nat.not_lt_zero _)) htk
    rw [← hA', hG] at j1 j3
    rw [hM] at j2 j3
    rw [j1, j2]
    rcases j3 with ⟨w, w1, w2, w3, w4⟩ | ⟨w1, w2, w3, w4, w5⟩
    · have n1 : ¬ X'.1 0 0 5 = 0 := by rw [w2]; exact w1
      have n2 : ¬ M'.1 8 0 28 = 0 := by rw [w3]; exact w1
      rw [if_neg n1, if_neg n2, if_neg n2]
      exact ⟨w4, hfg X' M' (w2.trans w3.symm)⟩
    · rw [if_pos w2, if_pos w3, if_pos w3]
      refine ⟨by rw [w1, w4.2.2.2.1, hA'], Or.inr ⟨k', en, w4, w5, fun q hq => ⟨0, by decide, ?_, ?_⟩⟩, by rw [w2, w3]⟩
      · rw [← j1, ← hG, rdGo_4, hZ, wI_o _ _ _ _ _ _ _ _ (fun z => absurd z.1 (by decide)), h7 q hq]; rfl
      · rw [← j2, ← hM, mrGo_n ⟨⟨by decide, by decide, fun z => absurd z (by decide)⟩, by decide, by decide, by decide, by decide⟩, h47 q (by omega)]; rfl
  · have hz5 : ¬ Z.1 0 0 5 = 0 := by rw [x5]; exact hz
    rw [rdGo_stop _ _ _ _ _ hz5] at hG
    rw [mrGo_stop _ _ _ _ hz] at hM
    subst hG hM
    dsimp only
    rw [if_neg hz5, if_neg hz, if_neg hz]
    refine ⟨?_, hfg Z N x5⟩
    rw [hA, if_neg hz5, hZ, wI_o _ _ _ _ _ _ _ _ (by decide), hQ.2.2.2 hz]
theorem J_read {X M : MS} {n k : Nat} {tk : Nat → Nat} (hT : QT X M n) (hk : (rd1 X).1 2 0 3 = nI k) (hk5 : k ≤ 5) (htk : ∀ j, j < 5 → (rd1 X).1 4 j 1 = nI (tk j) ∧ tk j ≤ 3) : (rdR tk k X).1 = mrdV M ∧ RD (rdS tk k X) (mrdS M) ∧ (rdS tk k X).1 0 0 5 = (mrdS M).1 8 0 28 := by
  have o1 : (mrd0 M).1 8 0 1 = M.1 8 0 1 := by
    rw [mrd0, flGo_o _ _ _ (by decide), wI_o _ _ _ _ _ _ _ _ (by decide), wI_o _ _ _ _ _ _ _ _ (by decide), wI_o _ _ _ _ _ _ _ _ (by decide)]
  have o28 : (mrd0 M).1 8 0 28 = 0 := by
    rw [mrd0, flGo_o _ _ _ (by decide), wI_o _ _ _ _ _ _ _ _ (by decide), wI_o _ _ _ _ _ _ _ _ (by decide), wI_rd]
  have o24 : ∀ j, (mrd0 M).1 24 0 j = M.1 24 0 j := fun j => by
    rw [mrd0, flGo_o _ _ _ (by decide), wI_o _ _ _ _ _ _ _ _ (fun z => absurd z.1 (by decide)), wI_o _ _ _ _ _ _ _ _ (fun z => absurd z.1 (by decide)), wI_o _ _ _ _ _ _ _ _ (fun z => absurd z.1 (by decide))]
  have hT' : QT (wI X 0 0 6 0) (mrd0 M) n := hT.same (wI_o _ _ _ _ _ _ _ _ (by decide)) o1 (fun j => wI_o _ _ _ _ _ _ _ _ (fun z => absurd z.1 (by decide))) o24
  obtain ⟨hQ, hF⟩ := QR.file hT' o28
  rw [rdS, mrdS, mrdV]
  rw [show mrdR M = mrGo 6 0 (-200 - (mrd1 M).1 8 0 29) (mrd1 M) by rw [mrdR], show rdR tk k X = rdGo tk k 0 (rdA X) (rd1 X) by rw [rdR], mrd1]
  exact J_read0 (tk := tk) hQ hF (fun q hq => by rw [mfS_hi _ (by decide), mrd0, flGo_at, if_pos ⟨Nat.zero_le _, by omega⟩]) (by rw [rd1]) (by rw [rdA]) hk hk5 htk rfl rfl
