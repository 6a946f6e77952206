/-! the model judges: what an OP keeps -/
def NJ (b d : Nat) : Prop := b ≠ 48 ∧ b ≠ 49 ∧ (b = 8 → d ≠ 28 ∧ d ≠ 29 ∧ d ≠ 32 ∧ d ≠ 33)
theorem mFaultS_n (S : MS) (w a : Int32) {b c d : Nat} (h : NJ b d) : (mFaultS S w a).1 b c d = S.1 b c d := mFaultS_o _ _ _ _ _ _ (fun z => (h.2.2 z.1).1 z.2.2) (fun z => (h.2.2 z.1).2.1 z.2.2)
theorem jkE_n (S : MS) (m : Nat) (o : Int32) (g : Nat) (pl : Int32) {b c d : Nat} (h : NJ b d) : (jkE S m o g pl).1 b c d = S.1 b c d := by
  unfold jkE
  split
  · exact mFaultS_n _ _ _ h
  · exact wI_o _ _ _ _ _ _ _ _ (fun z => (h.2.2 z.1).2.2.1 z.2.2)
theorem jk2_n (S : MS) (o : Int32) (g : Nat) (top : Int32) {b c d : Nat} (h : NJ b d) : (jk2 S o g top).1 b c d = S.1 b c d := jk2_o _ _ _ _ _ _ _ (fun z => (h.2.2 z.1).2.2.2 z.2.2) h.2.1
theorem jk3_n (S : MS) (o : Int32) (g : Nat) (top : Int32) {b c d : Nat} (h : NJ b d) : (jk3 S o g top).1 b c d = S.1 b c d := jk3_o _ _ _ _ _ _ _ (fun z => (h.2.2 z.1).2.2.2 z.2.2) h.2.1 h.1
theorem jkP_n (S : MS) (m : Nat) (o : Int32) (g : Nat) (pl top : Int32) {b c d : Nat} (h : NJ b d) : (jkP S m o g pl top).1 b c d = S.1 b c d := by
  unfold jkP
  split
  · rw [jkE_n _ _ _ _ _ h, jk2_n _ _ _ _ h]
  · split
    · rw [mFaultS_n _ _ _ h, jk2_n _ _ _ _ h]
    · rw [jkE_n _ _ _ _ _ h, jk3_n _ _ _ _ h]
theorem jkS_n (S : MS) (m : Nat) (o : Int32) (g : Nat) (pl : Int32) {b c d : Nat} (h : NJ b d) : (jkS S m o g pl).1 b c d = S.1 b c d := by
  unfold jkS
  split
  · split
    · rw [jkP_n _ _ _ _ _ _ h]
    · rw [mFaultS_n _ _ _ h]
  · rw [mFaultS_n _ _ _ h]
theorem mFaultS_33 (S : MS) (w a : Int32) : (mFaultS S w a).1 8 0 33 = S.1 8 0 33 := mFaultS_o _ _ _ _ _ _ (by decide) (by decide)
theorem jkE_33 (S : MS) (m : Nat) (o : Int32) (g : Nat) (pl : Int32) : (jkE S m o g pl).1 8 0 33 = S.1 8 0 33 := by
  unfold jkE
  split
  · exact mFaultS_33 _ _ _
  · exact wI_o _ _ _ _ _ _ _ _ (by decide)
theorem jkP_33 {S : MS} {m : Nat} {o : Int32} {g c d st : Nat} (pl top : Int32) (hD : S.1 8 0 33 = nI d) (hpc : mPops S o g = nI c) (hc : c ≤ d) (hd : d ≤ st) (hT : S.1 35 0 m = nI st) : ∃ e, e ≤ st ∧ (jkP S m o g pl top).1 8 0 33 = nI e := by
  obtain ⟨e, he, hE⟩ := jk2_d top hD hpc hc
  have hT2 : (jk2 S o g top).1 35 0 m = nI st := (jk2_o _ _ _ _ _ _ _ (fun z => absurd z.1 (by decide)) (by decide)).trans hT
  unfold jkP
  split
  · rw [jkE_33]; exact ⟨e, by omega, hE⟩
  · split
    · rw [mFaultS_33]; exact ⟨e, by omega, hE⟩
    · rename_i h1 h2
      have hne : e ≠ st := fun z => h2 (by rw [hE, hT2, z])
      rw [jkE_33, jk3, wI_rd, hE, nI_1]; exact ⟨e + 1, by omega, rfl⟩
theorem jkS_33 {S : MS} {m : Nat} {o : Int32} {g c d st : Nat} (pl : Int32) (hD : S.1 8 0 33 = nI d) (hpc : mPops S o g = nI c) (hc8 : c < 2 ^ 31) (hd : d ≤ st) (hst : st ≤ 6) (hT : S.1 35 0 m = nI st) : ∃ e, e ≤ st ∧ (jkS S m o g pl).1 8 0 33 = nI e := by
  unfold jkS
  split
  · rename_i h1
    rw [hpc, hD, nI_leI hc8 (by omega)] at h1
    split
    · exact jkP_33 pl _ hD hpc h1 hd hT
    · rw [mFaultS_33]; exact ⟨d, hd, hD⟩
  · rw [mFaultS_33]; exact ⟨d, hd, hD⟩
/-- all but what is judged, the kinds at hand, fault, its place -/
def NO (b d : Nat) : Prop := NJ b d ∧ b ≠ 43 ∧ b ≠ 44 ∧ b ≠ 45 ∧ b ≠ 46
theorem mjT_n (S : MS) (m pl o : Nat) {b c d : Nat} (h : NO b d) : (mjT S m pl o).1 b c d = S.1 b c d := by
  have e := mjoN_o S m (48 * m + pl) b c d h.2.1 h.2.2.1 h.2.2.2.1 h.2.2.2.2
  unfold mjT mjT1
  split
  · split
    · rw [mFaultS_n _ _ _ h.1]; exact e
    · split
      · rw [jkS_n _ _ _ _ _ h.1]; exact e
      · rw [mFaultS_n _ _ _ h.1]; exact e
  · rw [mFaultS_n _ _ _ h.1]; exact e
theorem mjMap_n (S : MS) (m : Nat) (x : Int32) {b c d : Nat} (h : NO b d) : (mjMap S m x).1 b c d = S.1 b c d := by
  unfold mjMap
  split
  · rfl
  · rw [becS, wI_o _ _ _ _ _ _ _ _ (fun z => (h.1.2.2 z.1).2.2.1 z.2.2), bec3, cpGo_o _ _ _ _ _ _ h.1.2.1, bec2, cpGo_o _ _ _ _ _ _ h.1.1, wI_o _ _ _ _ _ _ _ _ (fun z => (h.1.2.2 z.1).2.2.2 z.2.2)]
theorem mjopS_n (S : MS) (m pl o : Nat) {b c d : Nat} (h : NO b d) : (mjopS S m pl o).1 b c d = S.1 b c d := by
  unfold mjopS
  split
  · exact mFaultS_n _ _ _ h.1
  · rw [mjT_n _ _ _ _ h, mjMap_n _ _ _ h]
theorem NO_f {b d : Nat} (h1 : 31 ≤ b) (h2 : b ≤ 41) : NO b d := ⟨⟨by omega, by omega, fun z => by omega⟩, by omega, by omega, by omega, by omega⟩
theorem NO_8 {d : Nat} (h : d ≠ 28 ∧ d ≠ 29 ∧ d ≠ 32 ∧ d ≠ 33) : NO 8 d := ⟨⟨by decide, by decide, fun _ => h⟩, by decide, by decide, by decide, by decide⟩
theorem mjopS_MB {S : MS} {k en : Nat} (m pl o : Nat) (h : MB S k en) : MB (mjopS S m pl o) k en := h.same (mjopS_n _ _ _ _ (NO_8 (by decide))) (mjopS_n _ _ _ _ (NO_8 (by decide))) (fun b d h1 h2 => mjopS_n _ _ _ _ (NO_f h1 h2))
theorem mjopS_MBx {S : MS} {m t lc st L mp : Nat} (pl o : Nat) (h : MBx S m t lc st L mp) : MBx (mjopS S m pl o) m t lc st L mp := h.same (fun b d h1 h2 => mjopS_n _ _ _ _ (NO_f h1 h2))
theorem mjT_33 {S : MS} {m k en pl o t lc st L mp d : Nat} (hm : m < k) (hB : MB S k en) (hX : MBx S m t lc st L mp) (hpl : pl < L) (hD : S.1 8 0 33 = nI d) (hd : d ≤ st) : ∃ e, e ≤ st ∧ (mjT S m pl o).1 8 0 33 = nI e := by
  obtain ⟨h1, h2, h3, h4, h5, h6, h7, h8, h9, h10, h11, h12⟩ := hX
  obtain ⟨b1, b2, b3, b4, b5⟩ := hB
  have eo : ∀ b c q, b ≠ 43 → b ≠ 44 → b ≠ 45 → b ≠ 46 → (mjoN S m (48 * m + pl)).1 b c q = S.1 b c q := fun b c q => mjoN_o S m _ b c q
  have n33 : (mjoN S m (48 * m + pl)).1 8 0 33 = nI d := (eo _ _ _ (by decide) (by decide) (by decide) (by decide)).trans hD
  have n35 : (mjoN S m (48 * m + pl)).1 35 0 m = nI st := (eo _ _ _ (by decide) (by decide) (by decide) (by decide)).trans h5
  have n34 : (mjoN S m (48 * m + pl)).1 34 0 m = nI lc := (eo _ _ _ (by decide) (by decide) (by decide) (by decide)).trans h3
  have n9 : (mjoN S m (48 * m + pl)).1 8 0 9 = nI k := (eo _ _ _ (by decide) (by decide) (by decide) (by decide)).trans b1
  unfold mjT mjT1
  split
  · split
    · rw [mFaultS_33]; exact ⟨d, hd, n33⟩
    · split
      · rename_i s1 s2 s3
        have hgb : mjArg (mjoN S m (48 * m + pl)) m pl o < 256 := by
          unfold mjArg
          by_cases hb : mHas (nI o) = true
          · rw [if_pos hb]
            have hE : mjEnd pl o = pl + 2 := if_pos hb
            have hle : pl + 2 ≤ L := by
              have q := s2
              simp only [mjShort, Bool.or_eq_true, decide_eq_true_eq, not_or] at q
              have q1 := q.1
              rw [hE, (eo 36 0 m (by decide) (by decide) (by decide) (by decide)), h7, nI_ltI (by omega) (by omega)] at q1
              omega
            obtain ⟨g, hg, hG⟩ := h11 (pl + 1) (by omega)
            rw [(eo 37 0 (48 * m + pl + 1) (by decide) (by decide) (by decide) (by decide)), show 48 * m + pl + 1 = 48 * m + (pl + 1) from rfl, hG, nI_c (by omega)]; exact hg
          · rw [if_neg hb]; omega
        obtain ⟨y1, y2, y3⟩ := mEny_g n34 h4 n9 b2 hgb s3
        obtain ⟨c, c1, c2, c3⟩ := mPops_c (S := mjoN S m (48 * m + pl)) (o := nI o) (g := mjArg (mjoN S m (48 * m + pl)) m pl o) (fun z => by
          obtain ⟨t, _, _, _, _, z1, z2, -⟩ := b5 _ (y3 z)
          exact ⟨t, z2, (eo _ _ _ (by decide) (by decide) (by decide) (by decide)).trans z1⟩)
        exact jkS_33 _ n33 c1 c2 hd h6 n35
      · rw [mFaultS_33]; exact ⟨d, hd, n33⟩
  · rw [mFaultS_33]; exact ⟨d, hd, n33⟩
theorem mjopS_33 {S : MS} {m k en pl o t lc st L mp d : Nat} (hm : m < k) (hB : MB S k en) (hX : MBx S m t lc st L mp) (hpl : pl < L) (hD : S.1 8 0 33 = nI d) (hd : d ≤ st) : ∃ e, e ≤ st ∧ (mjopS S m pl o).1 8 0 33 = nI e := by
  unfold mjopS
  split
  · rw [mFaultS_33]; exact ⟨d, hd, hD⟩
  · have hm1 : ∃ e, e ≤ st ∧ (mjMap S m (nI pl)).1 8 0 33 = nI e := by
      unfold mjMap
      split
      · exact ⟨d, hd, hD⟩
      · rename_i hn
        rcases mpfV_rng (nI pl) hX.2.2.2.2.2.2.2.2.1 hX.2.2.2.2.2.2.2.2.2.1 with hQ | ⟨q, hq, hQ⟩
        · exact absurd hQ hn
        · obtain ⟨q1, d1, e1, e2, e3, e4⟩ := hX.2.2.2.2.2.2.2.2.2.2.2 q hq
          have hk5 := hB.2.1
          have hq8 := hX.2.2.2.2.2.2.2.2.2.1
          rw [hQ, nI_c (by omega), becS_33]; exact ⟨d1, e2, e4⟩
    obtain ⟨e, he, hE⟩ := hm1
    refine mjT_33 (k := k) (en := en) (t := t) (lc := lc) (L := L) (mp := mp) hm (hB.same (mjMap_n _ _ _ (NO_8 (by decide))) (mjMap_n _ _ _ (NO_8 (by decide))) (fun b d h1 h2 => mjMap_n _ _ _ (NO_f h1 h2))) (hX.same (fun b d h1 h2 => mjMap_n _ _ _ (NO_f h1 h2))) hpl hE he

