/-! what reading wants and keeps, on both sides -/
theorem RFile.mb {X M : MS} {k en : Nat} (h : RFile X M k en) : MB M k en := by
  refine ⟨h.2.2.2.1, h.2.1, h.2.2.2.2.2.1.2.2.1, h.2.2.2.2.2.1.1, fun q hq => ?_⟩
  obtain ⟨t, g, lc, st, L, mp, ⟨b1, b2, b3, b4⟩, ⟨c1, c2, c3, c4⟩, ⟨d1, d2, d3, d4, d5, d6, d7, d8, d9, d10, d11⟩, ⟨e1, e2, e3, pl, e4, e5⟩, f1, f2⟩ := h.2.2.2.2.2.2.2 q hq
  refine ⟨t, lc, st, L, mp, b2, b3, d7, d1, d9, d3, d11, d5, e2, e3, fun j hj => ?_, fun j hj => ?_⟩
  · obtain ⟨b, g1, g2, g3⟩ := f2 j hj
    exact ⟨b, g1, g3⟩
  · obtain ⟨g1, g2, g3, d, ms, ml, g4, g5, -⟩ := e4 j hj
    exact ⟨pl j, d, g1, g4, g3, g5⟩
theorem mfGo_W : ∀ (n k : Nat) (S : MS), MW S → MW (mfGo n k S)
  | 0, _, _, h => h
  | n + 1, k, S, h => by
    by_cases h1 : S.1 8 0 28 = 0
    · rw [mfGo, if_pos h1]; exact mfGo_W n _ _ (mmS_W k h)
    · rw [mfGo, if_neg h1]; exact h
theorem mfS_W {S : MS} (h : MW S) : MW (mfS S) := fun e he => by
  rw [mfS, mf8_o _ _ _ (by decide), mf7_o _ _ _ (by decide), mf6]
  exact mfGo_W _ _ _ (mf5_W h) e he
theorem mrd0_W {S : MS} (h : MW S) : MW (mrd0 S) := fun e he => by
  rw [mrd0, flGo_o _ _ _ (by decide), wI_o _ _ _ _ _ _ _ _ (fun z => absurd z.1 (by decide)), wI_o _ _ _ _ _ _ _ _ (fun z => absurd z.1 (by decide)), wI_o _ _ _ _ _ _ _ _ (fun z => absurd z.1 (by decide))]
  exact h e he
theorem mrdS_W {S : MS} (h : MW S) : MW (mrdS S) := fun e he => by
  have h1 : (mrdR S).2.1 28 0 e = (mrd1 S).1 28 0 e := by rw [mrdR, mrGo_n (NO_b (by decide) (by decide))]
  obtain ⟨w, w1, w2⟩ := (show MW (mrd1 S) by rw [mrd1]; exact mfS_W (mrd0_W h)) e he
  refine ⟨w, w1, ?_⟩
  rw [mrdS]
  split
  · rw [h1]; exact w2
  · rw [wI_o _ _ _ _ _ _ _ _ (fun z => absurd z.1 (by decide)), wI_o _ _ _ _ _ _ _ _ (fun z => absurd z.1 (by decide)), wI_o _ _ _ _ _ _ _ _ (fun z => absurd z.1 (by decide)), h1]
    exact w2
theorem rdS_B {X : MS} (tk : Nat → Nat) (k : Nat) (h : XB X) : XB (rdS tk k X) := by
  have h0 : XB (wI X 0 0 6 0) := h.same (fun q d => wI_o _ _ _ _ _ _ _ _ (fun z => absurd z.1 (by decide)))
  have h1 : XB (rd1 X) := (rfS_B h0).1.same (fun q d => by rw [rd1, wI_o _ _ _ _ _ _ _ _ (fun z => absurd z.1 (by decide))])
  refine h1.same (fun q d => ?_)
  rw [rdS]
  split
  · rw [rdR, rdGo_4]
  · rw [forgetG, wI_o _ _ _ _ _ _ _ _ (fun z => absurd z.1 (by decide)), wI_o _ _ _ _ _ _ _ _ (fun z => absurd z.1 (by decide)), wI_o _ _ _ _ _ _ _ _ (fun z => absurd z.1 (by decide)), rdR, rdGo_4]
theorem QT.mt {X M : MS} {n : Nat} (h : QT X M n) : MT M := ⟨n, h.2.2.1, h.1, fun j hj => (h.2.2.2 j hj).2⟩
/-- reading, for the two contracts: all that they want, and the relation behind -/
theorem J_rdAll {X M : MS} {n : Nat} (hT : QT X M n) (hX : XB X) (hM : MW M) : ∃ (tk : Nat → Nat) (k : Nat) (k' en : Nat), GR tk k (rd1 X) ∧ MT (mrd0 M) ∧ MW (mrd0 M) ∧ ((mrd1 M).1 8 0 28 = 0 → MB (mrd1 M) k' en) ∧ (rdR tk k X).1 = mrdV M ∧ RD (rdS tk k X) (mrdS M) ∧ (rdS tk k X).1 0 0 5 = (mrdS M).1 8 0 28 ∧ XB (rdS tk k X) ∧ MW (mrdS M) := by
  obtain ⟨tk, k, hG⟩ := hX.gr
  have o1 : (mrd0 M).1 8 0 1 = M.1 8 0 1 := by
    rw [mrd0, flGo_o _ _ _ (by decide), wI_o _ _ _ _ _ _ _ _ (by decide), wI_o _ _ _ _ _ _ _ _ (by decide), wI_o _ _ _ _ _ _ _ _ (by decide)]
  have o28 : (mrd0 M).1 8 0 28 = 0 := by
    rw [mrd0, flGo_o _ _ _ (by decide), wI_o _ _ _ _ _ _ _ _ (by decide), wI_o _ _ _ _ _ _ _ _ (by decide), wI_rd]
  have o24 : ∀ j, (mrd0 M).1 24 0 j = M.1 24 0 j := fun j => by
    rw [mrd0, flGo_o _ _ _ (by decide), wI_o _ _ _ _ _ _ _ _ (fun z => absurd z.1 (by decide)), wI_o _ _ _ _ _ _ _ _ (fun z => absurd z.1 (by decide)), wI_o _ _ _ _ _ _ _ _ (fun z => absurd z.1 (by decide))]
  have hT' : QT (wI X 0 0 6 0) (mrd0 M) n := hT.same (wI_o _ _ _ _ _ _ _ _ (by decide)) o1 (fun j => wI_o _ _ _ _ _ _ _ _ (fun z => absurd z.1 (by decide))) o24
  obtain ⟨j1, j2, j3⟩ := J_read (M := M) hT hG.1 hG.2.1 (fun j hj => (hG.2.2 j hj).2.2)
  have hF := (QR.file hT' o28).2
  by_cases hz : (mfS (mrd0 M)).1 8 0 28 = 0
  · obtain ⟨k', en, hR, -⟩ := hF hz
    refine ⟨tk, k, k', en, hG, hT'.mt, mrd0_W hM, fun _ => ?_, j1, j2, j3, rdS_B tk k hX, mrdS_W hM⟩
    rw [mrd1]; exact hR.mb
  · refine ⟨tk, k, 0, 0, hG, hT'.mt, mrd0_W hM, fun z => ?_, j1, j2, j3, rdS_B tk k hX, mrdS_W hM⟩
    rw [mrd1] at z; exact absurd z hz
