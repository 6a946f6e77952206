/-! the two sides judge alike: the MAP met, the kinds noted -/
theorem MO.mk {X M : MS} {q L lc st j p : Nat} (h : MO X M q L lc st j p) : ∃ d ms ml, MK X M q lc st j d ms ml := by
  obtain ⟨-, -, -, d, ms, ml, b1, b2, b3, b4, b5, b6⟩ := h
  exact ⟨d, ms, ml, b1, b2, b3, b4, b5, b6⟩
def Ctx (X M : MS) (k en q lc stk L mp gq : Nat) (pl : Nat → Nat) : Prop := RFile X M k en ∧ q < k ∧ HF X M q lc stk L ∧ Maps X M q L lc stk mp pl ∧ CK X M q L ∧ (X.1 4 q 2 = nI gq ∧ M.1 33 0 q = nI gq ∧ 1 ≤ gq ∧ gq ≤ 2) ∧ ∀ g, g < k → ∃ t gg, TG X M g t gg
theorem RFile.ctx {X M : MS} {k en q : Nat} (h : RFile X M k en) (hq : q < k) : ∃ lc stk L mp gq pl, Ctx X M k en q lc stk L mp gq pl := by
  have h2 := h
  obtain ⟨a1, a2, a3, a4, a5, a6, a7, a8⟩ := h2
  obtain ⟨t, g, lc, st, L, mp, ⟨b1, b2, b3, b4⟩, ⟨c1, c2, c3, c4⟩, hH, ⟨d1, d2, d3, pl, d4, d5⟩, e1, e2⟩ := a8 q hq
  refine ⟨lc, st, L, mp, g, pl, h, hq, hH, ⟨d1, d2, d3, d4, d5⟩, e2, ⟨c1, c2, c3, c4⟩, fun x hx => ?_⟩
  obtain ⟨t', g', lc', st', L', mp', ⟨b1', b2', b3', b4'⟩, ⟨c1', c2', c3', c4'⟩, -, -, e1', -⟩ := a8 x hx
  exact ⟨t', g', b1', b2', b3', c1', c2', c3', c4', e1'⟩
/-- what the judgement of METHODS leaves -/
def JX (X X' : MS) : Prop := (∀ b c d, b ≠ 6 → KX b d → X'.1 b c d = X.1 b c d) ∧ ∀ d, X'.2.1 13 0 d = X.2.1 13 0 d
def NR (b d : Nat) : Prop := NO b d ∧ ((26 ≤ b ∧ b ≤ 42) ∨ (b = 8 ∧ (d = 3 ∨ d = 4 ∨ d = 9)))
def JM (M M' : MS) : Prop := (∀ b c d, NR b d → M'.1 b c d = M.1 b c d) ∧ ∀ d, M'.2.1 27 0 d = M.2.1 27 0 d
theorem JX.rf (X : MS) : JX X X := ⟨fun _ _ _ _ _ => rfl, fun _ => rfl⟩
theorem JM.rf (M : MS) : JM M M := ⟨fun _ _ _ _ => rfl, fun _ => rfl⟩
theorem JX.tr {X Y Z : MS} (h : JX X Y) (g : JX Y Z) : JX X Z := ⟨fun b c d h1 h2 => (g.1 b c d h1 h2).trans (h.1 b c d h1 h2), fun d => (g.2 d).trans (h.2 d)⟩
theorem JM.tr {X Y Z : MS} (h : JM X Y) (g : JM Y Z) : JM X Z := ⟨fun b c d h1 => (g.1 b c d h1).trans (h.1 b c d h1), fun d => (g.2 d).trans (h.2 d)⟩
theorem NO_b {b d : Nat} (h : 26 ≤ b) (h2 : b ≤ 42) : NO b d := ⟨⟨by omega, by omega, fun z => by omega⟩, by omega, by omega, by omega, by omega⟩
theorem NR_b {b d : Nat} (h : 26 ≤ b) (h2 : b ≤ 42) : NR b d := ⟨NO_b h h2, Or.inl ⟨h, h2⟩⟩
theorem RFile.j {X M X' M' : MS} {k en : Nat} (h : RFile X M k en) (x : JX X X') (m : JM M M') : RFile X' M' k en :=
  h.same (fun b c d h6 h17 => x.1 b c d h6 h17) x.2 (fun b d h1 h2 => m.1 b 0 d (NR_b h1 h2)) (fun d hd => m.1 8 0 d ⟨NO_8 ⟨by omega, by omega, by omega, by omega⟩, Or.inr ⟨rfl, hd⟩⟩) m.2
theorem TG.j {X M X' M' : MS} {g t gg : Nat} (h : TG X M g t gg) (x : JX X X') (m : JM M M') : TG X' M' g t gg := by
  obtain ⟨a1, a2, a3, a4, a5, a6, a7, a8⟩ := h
  refine ⟨(x.1 _ _ _ (by decide) (by first | decide | exact KX_ne (by decide))).trans a1, (m.1 _ _ _ (NR_b (by decide) (by decide))).trans a2, a3, (x.1 _ _ _ (by decide) (by first | decide | exact KX_ne (by decide))).trans a4, (m.1 _ _ _ (NR_b (by decide) (by decide))).trans a5, a6, a7, ?_⟩
  rw [x.1 _ _ _ (by decide) (by first | decide | exact KX_ne (by decide))]
  exact a8.same (fun l _ => m.1 _ _ _ (NR_b (by decide) (by decide)))
theorem MO.j {X M X' M' : MS} {q L lc st j p : Nat} (h : MO X M q L lc st j p) (x : JX X X') (m : JM M M') : MO X' M' q L lc st j p := by
  obtain ⟨a1, a2, a3, d, ms, ml, b1, b2, b3, b4, b5, b6⟩ := h
  have hm : ∀ b d, 26 ≤ b → b ≤ 42 → M'.1 b 0 d = M.1 b 0 d := fun b d h1 h2 => m.1 b 0 d (NR_b h1 h2)
  exact ⟨a1, (x.1 _ _ _ (by decide) (by first | decide | exact KX_ne (by decide))).trans a2, (hm _ _ (by decide) (by decide)).trans a3, d, ms, ml, b1, (hm _ _ (by decide) (by decide)).trans b2, by rw [x.1 _ _ _ (by decide) (by first | decide | exact KX_ne (by decide))]; exact b3, fun i hi => by rw [hm _ _ (by decide) (by decide)]; exact b4 i hi, fun l hl => by rw [hm _ _ (by decide) (by decide)]; exact b5 l hl, b6⟩
theorem Ctx.j {X M X' M' : MS} {k en q lc stk L mp gq : Nat} {pl : Nat → Nat} (h : Ctx X M k en q lc stk L mp gq pl) (x : JX X X') (m : JM M M') : Ctx X' M' k en q lc stk L mp gq pl := by
  obtain ⟨a1, a2, a3, ⟨b1, b2, b3, b4, b5⟩, a5, ⟨c1, c2, c3, c4⟩, a7⟩ := h
  have hm : ∀ b d, 26 ≤ b → b ≤ 42 → M'.1 b 0 d = M.1 b 0 d := fun b d h1 h2 => m.1 b 0 d (NR_b h1 h2)
  refine ⟨a1.j x m, a2, a3.same (fun d hd => x.1 _ _ _ (by decide) ⟨by decide, by decide, fun _ => by omega⟩) (fun b hb => hm b _ (by omega) (by omega)), ⟨(x.1 _ _ _ (by decide) (by first | decide | exact KX_ne (by decide))).trans b1, (hm _ _ (by decide) (by decide)).trans b2, b3, fun j hj => (b4 j hj).j x m, b5⟩, fun j hj => ?_, ⟨(x.1 _ _ _ (by decide) (by first | decide | exact KX_ne (by decide))).trans c1, (hm _ _ (by decide) (by decide)).trans c2, c3, c4⟩, fun g hg => ?_⟩
  · obtain ⟨b, e1, e2, e3⟩ := a5 j hj
    exact ⟨b, e1, (x.1 _ _ _ (by decide) (by first | decide | exact KX_ne (by decide))).trans e2, (hm _ _ (by decide) (by decide)).trans e3⟩
  · obtain ⟨t, gg, hT⟩ := a7 g hg
    exact ⟨t, gg, hT.j x m⟩
theorem meetS_2 (X : MS) (q : Nat) : (meetS X q).2 = X.2 := by unfold meetS; split <;> rfl
theorem setKindsM_2 (X : MS) (q : Nat) (p v : Int32) : (setKindsM X q p v).2 = X.2 := by unfold setKindsM; split <;> rfl
theorem meetS_j (X : MS) (q : Nat) : JX X (meetS X q) := ⟨fun b c d h6 _ => meetS_o _ _ _ _ _ (fun z => h6 z.1), fun d => by rw [meetS_2]⟩
theorem jo2_j (X : MS) (q : Nat) : JX X (jo2 X q) := ⟨fun b c d h6 h17 => jo2_o _ _ _ _ _ (fun z => h6 z.1) h17.1, fun d => by rw [jo2, setKindsM_2, meetS_2]⟩
theorem cpGo_2 (kd sr a : Nat) : ∀ (n i : Nat) (S : MS), (cpGo kd sr a n i S).2 = S.2
  | 0, _, _ => rfl
  | n + 1, i, S => by rw [cpGo, cpGo_2 kd sr a n, wI_2]
theorem becS_2 (S : MS) (m a : Nat) : (becS S m a).2 = S.2 := by rw [becS, wI_2, bec3, cpGo_2, bec2, cpGo_2, wI_2]
theorem mjMap_2 (S : MS) (m : Nat) (x : Int32) : (mjMap S m x).2 = S.2 := by
  unfold mjMap
  split
  · rfl
  · exact becS_2 _ _ _
theorem mjMap_j (M : MS) (q : Nat) (x : Int32) : JM M (mjMap M q x) := ⟨fun b c d h => mjMap_n _ _ _ h.1, fun d => by rw [mjMap_2]⟩
theorem mjoGo_2 (m a : Nat) : ∀ (n k : Nat) (S : MS), (mjoGo m a n k S).2 = S.2
  | 0, _, _ => rfl
  | n + 1, k, S => by rw [mjoGo, mjoGo_2 m a n, mjo2, wI_2, mjo1, wI_2]
theorem mjoN_2 (S : MS) (m a : Nat) : (mjoN S m a).2 = S.2 := by rw [mjoN, mjoGo_2, wI_2, wI_2]
theorem mjoN_j (M : MS) (q a : Nat) : JM M (mjoN M q a) := ⟨fun b c d h => mjoN_o _ _ _ _ _ _ h.1.2.1 h.1.2.2.1 h.1.2.2.2.1 h.1.2.2.2.2, fun d => by rw [mjoN_2]⟩
/-- what is noted of the kinds -/
theorem mjoGo_45 (m a d : Nat) : ∀ (n k : Nat) (S : MS), (mjoGo m a n k S).1 45 0 d = if 6 * a + k ≤ d ∧ d < 6 * a + k + n then (if S.1 8 0 33 ≤ nI (d - 6 * a) then 0 else S.1 48 0 (d - 6 * a)) else S.1 45 0 d
  | 0, k, S => by rw [if_neg (by omega)]; rfl
  | n + 1, k, S => by
    have e45 : ∀ x, (mjo2 S m a k).1 45 0 x = (mjo1 S a k).1 45 0 x := fun x => wI_o _ _ _ _ _ _ _ _ (fun z => absurd z.1 (by decide))
    rw [mjoGo, mjoGo_45 m a d n (k + 1), mjo2_o _ _ _ _ _ _ _ (by decide) (by decide), mjo2_o _ _ _ _ _ _ _ (by decide) (by decide), e45, mjo1]
    by_cases hd : d = 6 * a + k
    · rw [if_neg (by omega), if_pos (show 6 * a + k ≤ d ∧ d < 6 * a + k + (n + 1) by omega), hd, wI_rd, show 6 * a + k - 6 * a = k by omega]
    · rw [wI_o _ _ _ _ _ _ _ _ (fun z => hd z.2.2)]
      by_cases h : 6 * a + k ≤ d ∧ d < 6 * a + k + (n + 1)
      · rw [if_pos (by omega), if_pos h]
      · rw [if_neg (by omega), if_neg h]
theorem mjoGo_46 (m a d : Nat) : ∀ (n k : Nat) (S : MS), (mjoGo m a n k S).1 46 0 d = if 6 * a + k ≤ d ∧ d < 6 * a + k + n then (if S.1 34 0 m ≤ nI (d - 6 * a) then 0 else S.1 49 0 (d - 6 * a)) else S.1 46 0 d
  | 0, k, S => by rw [if_neg (by omega)]; rfl
  | n + 1, k, S => by
    have e1 : ∀ b x, b ≠ 45 → (mjo1 S a k).1 b 0 x = S.1 b 0 x := fun b x hb => wI_o _ _ _ _ _ _ _ _ (fun z => hb z.1)
    rw [mjoGo, mjoGo_46 m a d n (k + 1), mjo2_o _ _ _ _ _ _ _ (by decide) (by decide), mjo2_o _ _ _ _ _ _ _ (by decide) (by decide), mjo2, e1 34 _ (by decide), e1 49 _ (by decide)]
    by_cases hd : d = 6 * a + k
    · rw [if_neg (by omega), if_pos (show 6 * a + k ≤ d ∧ d < 6 * a + k + (n + 1) by omega), hd, wI_rd, show 6 * a + k - 6 * a = k by omega]
    · rw [wI_o _ _ _ _ _ _ _ _ (fun z => hd z.2.2), e1 46 _ (by decide)]
      by_cases h : 6 * a + k ≤ d ∧ d < 6 * a + k + (n + 1)
      · rw [if_pos (by omega), if_pos h]
      · rw [if_neg (by omega), if_neg h]
/-- the kinds judged at a place -/
def JK (X M : MS) (q p d : Nat) (st lo : Nat → Nat) : Prop := KW (X.1 17 q p) d st lo ∧ M.1 43 0 (48 * q + p) = 1 ∧ M.1 44 0 (48 * q + p) = nI d ∧ (∀ i, i < 6 → M.1 45 0 (6 * (48 * q + p) + i) = nI (st i)) ∧ ∀ l, l < 6 → M.1 46 0 (6 * (48 * q + p) + l) = nI (lo l)
theorem KR.note {X M : MS} {lc stk d q p : Nat} {st lo : Nat → Nat} (h : KR X M lc stk d st lo) (hL : M.1 34 0 q = nI lc) (hlc : lc ≤ 6) (hp : p < 48) (hX : X.1 6 0 0 = nI p) : JK (setKindsM X q (nI p) (X.1 6 0 1)) (mjoN M q (48 * q + p)) q p d st lo := by
  obtain ⟨a1, a2, a3, a4, a5, a6, a7, a8⟩ := h
  have hd6 := a1.2.1
  have g := nI_guard (N := 48) (M := 48) rfl hp (by decide)
  refine ⟨?_, ?_, ?_, fun i hi => ?_, fun l hl => ?_⟩
  · rw [setKindsM, if_pos g, nI_c (by omega), wI_rd]; exact a1
  · rw [mjoN, mjoGo_o _ _ _ _ _ (by decide) (by decide), wI_o _ _ _ _ _ _ _ _ (fun z => absurd z.1 (by decide)), wI_rd]
  · rw [mjoN, mjoGo_o _ _ _ _ _ (by decide) (by decide), wI_rd]; exact a2
  · rw [mjoN, mjoGo_45, if_pos (by omega), show 6 * (48 * q + p) + i - 6 * (48 * q + p) = i by omega, wI_o _ _ _ _ _ _ _ _ (fun z => absurd z.1 (by decide)), wI_o _ _ _ _ _ _ _ _ (fun z => absurd z.1 (by decide)), wI_o _ _ _ _ _ _ _ _ (fun z => absurd z.1 (by decide)), wI_o _ _ _ _ _ _ _ _ (fun z => absurd z.1 (by decide)), a2]
    have i1 : nI d ≤ nI i ↔ d ≤ i := nI_leI (by omega) (by omega)
    by_cases hid : d ≤ i
    · rw [if_pos (i1.mpr hid), a1.2.2.2.1 i hid]; rfl
    · rw [if_neg (fun z => hid (i1.mp z))]; exact a3 i (by omega)
  · rw [mjoN, mjoGo_46, if_pos (by omega), show 6 * (48 * q + p) + l - 6 * (48 * q + p) = l by omega, wI_o _ _ _ _ _ _ _ _ (fun z => absurd z.1 (by decide)), wI_o _ _ _ _ _ _ _ _ (fun z => absurd z.1 (by decide)), wI_o _ _ _ _ _ _ _ _ (fun z => absurd z.1 (by decide)), wI_o _ _ _ _ _ _ _ _ (fun z => absurd z.1 (by decide)), hL]
    have i1 : nI lc ≤ nI l ↔ lc ≤ l := nI_leI (by omega) (by omega)
    by_cases hid : lc ≤ l
    · rw [if_pos (i1.mpr hid), a5 l hid]; rfl
    · rw [if_neg (fun z => hid (i1.mp z))]; exact a4 l hl
/-- the MAP at a place is met -/
theorem meet_N {X M : MS} {k en q lc stk L mp gq p d : Nat} {pl st lo : Nat → Nat} {h : Bool} (hC : Ctx X M k en q lc stk L mp gq pl) (hK : KR X M lc stk d st lo) (hp : p < L) (hX : X.1 6 0 0 = nI p) (hx : X.1 6 0 2 = bI h) (hm : M.1 8 0 32 = bI h) :
    (meetV X q = 0 ∧ mjBad M q (nI p) = true) ∨ (¬ meetV X q = 0 ∧ mjBad M q (nI p) = false ∧ ∃ d1 s1 l1, KR (meetS X q) (mjMap M q (nI p)) lc stk d1 s1 l1 ∧ (h = true → FitK d st lo d1 s1 l1) ∧ ((∃ j, j < mp ∧ pl j = p ∧ MK X M q lc stk j d1 s1 l1) ∨ ((∀ j, j < mp → pl j ≠ p) ∧ h = true ∧ d1 = d ∧ s1 = st ∧ l1 = lo))) := by
  have hH := hC.2.2.1
  have hMp := hC.2.2.2.1
  have hlc := hH.1
  have hL48 := hH.2.2.2.2.1
  have h34 := hH.2.2.2.2.2.2.1
  have bz : ∀ b : Bool, bI b = 0 ↔ b = false := fun b => by cases b <;> decide
  rcases hMp.at hL48 (show p < 256 by omega) with ⟨j, c1, c2, c3, c4⟩ | ⟨c1, c2, c3⟩
  · obtain ⟨d1, s1, l1, hk⟩ := (hMp.2.2.2.1 j c1).mk
    obtain ⟨f1, f2⟩ := hK.fit hk hlc h34
    have hne : ¬ X.1 16 q j = -1 := hk.2.2.1.nm1
    have hne2 : ¬ nI (8 * q + j) = -1 := nI_nm1 (by have := hMp.2.2.1; have := hC.2.1; have := hC.1.2.1; omega)
    have hc : (nI (8 * q + j)).toNatClampNeg = 8 * q + j := nI_c (by have := hMp.2.2.1; have := hC.2.1; have := hC.1.2.1; omega)
    have eV : meetV X q = bI (decide (X.1 6 0 2 = 0) || fitsK (X.1 6 0 1) (X.1 16 q j)) := by rw [meetV, hX, c3, if_neg hne]
    have eB : mjBad M q (nI p) = (!decide (M.1 8 0 32 = 0) && !fitV M q (8 * q + j)) := by rw [mjBad, c4, if_neg hne2, hc]
    by_cases hb : h = true ∧ ¬ FitK d st lo d1 s1 l1
    · left
      have g1 : fitsK (X.1 6 0 1) (X.1 16 q j) = false := by
        cases hz : fitsK (X.1 6 0 1) (X.1 16 q j) with
        | false => rfl
        | true => exact absurd (f1.mp hz) hb.2
      have g2 : fitV M q (8 * q + j) = false := by
        cases hz : fitV M q (8 * q + j) with
        | false => rfl
        | true => exact absurd (f2.mp hz) hb.2
      rw [eV, eB, hx, hm, g1, g2, hb.1]
      decide
    · right
      refine ⟨?_, ?_, d1, s1, l1, ?_, fun z => ?_, Or.inl ⟨j, c1, c2, hk⟩⟩
      · rw [eV, bz, hx]
        cases hh : h with
        | false => simp [bI]
        | true =>
          have : FitK d st lo d1 s1 l1 := Classical.byContradiction (fun z => hb ⟨hh, z⟩)
          rw [f1.mpr this]; simp
      · rw [eB, hm]
        cases hh : h with
        | false => rfl
        | true =>
          have : FitK d st lo d1 s1 l1 := Classical.byContradiction (fun z => hb ⟨hh, z⟩)
          rw [f2.mpr this]; rfl
      · have e1 : meetS X q = wI X 6 0 1 (X.1 16 q j) := by rw [meetS, hX, c3, if_neg hne]
        have e2 : mjMap M q (nI p) = becS M q (8 * q + j) := by rw [mjMap, c4, if_neg hne2, hc]
        rw [e1, e2]
        exact hK.bec hk hlc h34
      · exact Classical.byContradiction (fun y => hb ⟨z, y⟩)
  · have eV : meetV X q = bI h := by rw [meetV, hX, c2, if_pos rfl, hx]
    have eB : mjBad M q (nI p) = decide (bI h = 0) := by rw [mjBad, c3, if_pos rfl, hm]
    cases hh : h with
    | false => left; rw [eV, eB, hh]; decide
    | true =>
      right
      refine ⟨by rw [eV, hh]; decide, by rw [eB, hh]; decide, d, st, lo, ?_, fun _ => ⟨rfl, fun _ _ => rfl, fun _ _ => Or.inr rfl⟩, Or.inr ⟨c1, rfl, rfl, rfl, rfl⟩⟩
      have e1 : meetS X q = X := by rw [meetS, hX, c2, if_pos rfl]
      have e2 : mjMap M q (nI p) = M := by rw [mjMap, c3, if_pos rfl]
      rw [e1, e2]
      exact hK
