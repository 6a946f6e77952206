/-! the two sides judge alike: the model's kinds behind an OP -/
/-- the model's kinds are d, st, lo -/
def MKn (M : MS) (d : Nat) (st lo : Nat → Nat) : Prop := M.1 8 0 33 = nI d ∧ (∀ i, i < d → M.1 48 0 i = nI (st i)) ∧ ∀ l, l < 6 → M.1 49 0 l = nI (lo l)
theorem jkTop_N {M : MS} {d : Nat} {st lo : Nat → Nat} (h : MKn M d st lo) (hd : 0 < d) (h6 : d ≤ 6) : jkTop M = nI (st (d - 1)) := by
  obtain ⟨e, rfl⟩ : ∃ e, d = e + 1 := ⟨d - 1, by omega⟩
  rw [jkTop, h.1, if_neg (nI_nle (by omega) (by omega)), nI_m1, nI_c (by omega), Nat.add_sub_cancel]
  exact h.2.1 e (by omega)
theorem jk2_2 (S : MS) (o : Int32) (g : Nat) (top : Int32) : (jk2 S o g top).2 = S.2 := by
  unfold jk2
  split
  · rw [wI_2, jk1, wI_2]
  · rw [jk1, wI_2]
theorem jk3_2 (S : MS) (o : Int32) (g : Nat) (top : Int32) : (jk3 S o g top).2 = S.2 := by rw [jk3, wI_2, wI_2, jk2_2]
theorem opN_pos : tab 0 4 = 1 ∧ tab 0 5 = 1 := by decide +kernel
theorem mk_N {M : MS} {q o g t gg gq stk d : Nat} {st lo : Nat → Nat} {pl : Int32} (hM : MKn M d st lo) (hd : d ≤ stk) (hs6 : stk ≤ 6) (hs : M.1 35 0 q = nI stk) (ho : o < 25) (h34 : o = 3 ∨ o = 4 → g < 6) (h21 : o = 21 → M.1 31 0 g = nI t ∧ t ≤ 3 ∧ (∀ l, l < t → M.1 32 0 (3 * g + l) = nI (tkk M g l) ∧ tkk M g l ≤ 2) ∧ M.1 33 0 g = nI gg ∧ 1 ≤ gg ∧ gg ≤ 2) (hq3 : M.1 33 0 q = nI gq) (hgq : gq ≤ 2) (hst : ∀ i, i < d → 1 ≤ st i ∧ st i ≤ 2) (hlo : ∀ l, lo l ≤ 2) :
    (d < opN M o g → jkS M q (nI o) g pl = mFaultS M 15 pl) ∧ (opN M o g ≤ d → ¬ opOk M q o g d st lo → jkS M q (nI o) g pl = mFaultS M 16 pl) ∧
    (opN M o g ≤ d → opOk M q o g d st lo → opP M o g d st lo ≠ 0 → stk ≤ d - afN M o g → ∃ M1, (∀ b c x, NJ b x → M1.1 b c x = M.1 b c x) ∧ M1.1 8 0 28 = M.1 8 0 28 ∧ M1.2 = M.2 ∧ jkS M q (nI o) g pl = mFaultS M1 17 pl) ∧
    (opN M o g ≤ d → opOk M q o g d st lo → (opP M o g d st lo = 0 ∨ d - afN M o g < stk) → ∃ M1, (∀ b c x, NJ b x → M1.1 b c x = M.1 b c x) ∧ M1.1 8 0 28 = M.1 8 0 28 ∧ M1.2 = M.2 ∧ jkS M q (nI o) g pl = jkE M1 q (nI o) g pl ∧ MKn M1 (afD M o g d st lo) (afS M o g d st lo) (afL o g d st lo)) := by
  obtain ⟨m1, m2, m3⟩ := hM
  obtain ⟨n1, n2⟩ := mPops_N (M := M) (g := g) (t := t) ho (fun z => ⟨(h21 z).1, (h21 z).2.1⟩)
  have hle : mPops M (nI o) g ≤ M.1 8 0 33 ↔ opN M o g ≤ d := by rw [n1, m1, nI_leI (by omega) (by omega)]
  have i3 : nI o = (3 : Int32) ↔ o = 3 := nI_o ho (v := 3) (by decide)
  have i4 : nI o = (4 : Int32) ↔ o = 4 := nI_o ho (v := 4) (by decide)
  have i5 : nI o = (5 : Int32) ↔ o = 5 := nI_o ho (v := 5) (by decide)
  have hok : opN M o g ≤ d → (jkOk M q (nI o) g = true ↔ opOk M q o g d st lo) := fun hn => by
    rw [jkOk, m1, n1, nI_c (by omega), nI_c (by omega), jkGo_iff, Bool.or_eq_true, decide_eq_true_eq, decide_eq_true_eq, opOk, i3]
    constructor
    · rintro ⟨h1, h2⟩
      refine ⟨fun z => ?_, fun k hk => ?_⟩
      · have := h1.resolve_left (fun y => y z)
        rw [m3 g (h34 (Or.inl z)), nI_eq0 (by have := hlo g; omega)] at this
        exact this
      · obtain ⟨w1, w2⟩ := jkW_N (M := M) (q := q) (t := t) (gq := gq) ho (fun z => ⟨(h21 z).1, (h21 z).2.1, (h21 z).2.2.1⟩) hq3 hgq hk
        have hs1 := (hst (d - 1 - k) (by omega)).2
        have := h2 k (Nat.zero_le _) (by omega)
        rw [w1, m2 _ (by omega)] at this
        rcases this with z | z
        · rw [nI_eq0 (by omega)] at z; exact Or.inl z
        · rw [nI_eq (by omega) (by omega)] at z; exact Or.inr z
    · rintro ⟨h1, h2⟩
      refine ⟨?_, fun k _ hk => ?_⟩
      · by_cases z : o = 3
        · refine Or.inr ?_
          rw [m3 g (h34 (Or.inl z)), nI_eq0 (by have := hlo g; omega)]
          exact h1 z
        · exact Or.inl z
      · have hk2 : k < opN M o g := by omega
        obtain ⟨w1, w2⟩ := jkW_N (M := M) (q := q) (t := t) (gq := gq) ho (fun z => ⟨(h21 z).1, (h21 z).2.1, (h21 z).2.2.1⟩) hq3 hgq hk2
        rw [w1, m2 _ (by omega)]
        rcases h2 k hk2 with z | z
        · exact Or.inl (by rw [z]; rfl)
        · exact Or.inr (by rw [z])
  have htop : opN M o g ≤ d → (o = 4 ∨ o = 5) → 0 < d ∧ jkTop M = nI (st (d - 1)) := fun hn h45 => by
    have hn1 : opN M o g = 1 := by
      rcases h45 with rfl | rfl
      · exact opN_pos.1
      · exact opN_pos.2
    exact ⟨by omega, jkTop_N ⟨m1, m2, m3⟩ (by omega) (by omega)⟩
  have hP : opN M o g ≤ d → mPsh M (nI o) g (jkTop M) = nI (opP M o g d st lo) := fun hn => mPsh_N (gg := gg) ho (fun z => m3 g (h34 (Or.inl z))) (fun z => (htop hn (Or.inr z)).2) (fun z => ⟨(h21 z).2.2.2.1, (h21 z).2.2.2.2.2⟩)
  have hP3 : opN M o g ≤ d → opP M o g d st lo < 4 := fun hn => by
    unfold opP
    split
    · have := hlo g; omega
    · split
      · rename_i h5
        have := hst (d - 1) (by have := (htop hn (Or.inr h5)).1; omega); omega
      · split
        · rename_i h21'
          rw [gvN, (h21 h21').2.2.2.1, nI_c (by have := (h21 h21').2.2.2.2.2; omega)]
          have := (h21 h21').2.2.2.2.2; omega
        · have := (tab_ok 2 (by decide) o ho).2; omega
  have hA : afN M o g ≤ opN M o g := by unfold afN; split <;> omega
  have j1d : opN M o g ≤ d → (jk1 M (nI o) g).1 8 0 33 = nI (d - afN M o g) := fun hn => by
    rw [jk1, wI_rd, m1, n1]
    unfold afN
    by_cases h5 : o = 5
    · rw [if_pos (i5.mpr h5), if_pos h5, Int32.sub_zero, Nat.sub_zero]
    · rw [if_neg (fun z => h5 (i5.mp z)), if_neg h5, nI_sub hn]
  have j2d : opN M o g ≤ d → (jk2 M (nI o) g (jkTop M)).1 8 0 33 = nI (d - afN M o g) := fun hn => by
    unfold jk2
    split
    · rw [wI_o _ _ _ _ _ _ _ _ (fun z => absurd z.1 (by decide))]; exact j1d hn
    · exact j1d hn
  have j2s : ∀ i, (jk2 M (nI o) g (jkTop M)).1 48 0 i = M.1 48 0 i := fun i => jk2_o _ _ _ _ _ _ _ (fun z => absurd z.1 (by decide)) (by decide)
  have j2l : opN M o g ≤ d → ∀ l, l < 6 → (jk2 M (nI o) g (jkTop M)).1 49 0 l = nI (afL o g d st lo l) := fun hn l hl => by
    unfold jk2 afL
    by_cases h4 : o = 4
    · rw [if_pos (i4.mpr h4), if_pos h4]
      by_cases hlg : l = g
      · rw [hlg, wI_rd, up_at]; exact (htop hn (Or.inl h4)).2
      · rw [wI_o _ _ _ _ _ _ _ _ (fun z => hlg z.2.2), up_ne _ _ hlg, jk1, wI_o _ _ _ _ _ _ _ _ (fun z => absurd z.1 (by decide))]
        exact m3 l hl
    · rw [if_neg (fun z => h4 (i4.mp z)), if_neg h4, jk1, wI_o _ _ _ _ _ _ _ _ (fun z => absurd z.1 (by decide))]
      exact m3 l hl
  have j2f : (jk2 M (nI o) g (jkTop M)).1 8 0 28 = M.1 8 0 28 := jk2_o _ _ _ _ _ _ _ (by decide) (by decide)
  have j235 : (jk2 M (nI o) g (jkTop M)).1 35 0 q = nI stk := (jk2_o _ _ _ _ _ _ _ (fun z => absurd z.1 (by decide)) (by decide)).trans hs
  refine ⟨fun h => ?_, fun h h2 => ?_, fun h h2 h3 h4 => ?_, fun h h2 h3 => ?_⟩
  · rw [jkS, if_neg (fun z => by have := hle.mp z; omega)]
  · rw [jkS, if_pos (hle.mpr h), if_neg (fun z => h2 ((hok h).mp z))]
  · have hq : d - afN M o g = stk := by omega
    refine ⟨jk2 M (nI o) g (jkTop M), fun b c x hx => jk2_n _ _ _ _ hx, j2f, jk2_2 _ _ _ _, ?_⟩
    rw [jkS, if_pos (hle.mpr h), if_pos ((hok h).mpr h2), jkP, hP h, if_neg (by rw [nI_eq0 (by have := hP3 h; omega)]; exact h3), j2d h, j235, if_pos (by rw [hq])]
  · by_cases hp : opP M o g d st lo = 0
    · refine ⟨jk2 M (nI o) g (jkTop M), fun b c x hx => jk2_n _ _ _ _ hx, j2f, jk2_2 _ _ _ _, ?_, ?_, fun i hi => ?_, j2l h⟩
      · rw [jkS, if_pos (hle.mpr h), if_pos ((hok h).mpr h2), jkP, hP h, if_pos (by rw [hp]; rfl)]
      · rw [afD, if_pos hp]; exact j2d h
      · rw [afD, if_pos hp] at hi
        rw [afS, if_pos hp, j2s, cut_at hi]
        exact m2 i (by omega)
    · have hlt := h3.resolve_left hp
      refine ⟨jk3 M (nI o) g (jkTop M), fun b c x hx => jk3_n _ _ _ _ hx, ?_, jk3_2 _ _ _ _, ?_, ?_, fun i hi => ?_, fun l hl => ?_⟩
      · rw [jk3_o _ _ _ _ _ _ _ (by decide) (by decide) (by decide)]
      · rw [jkS, if_pos (hle.mpr h), if_pos ((hok h).mpr h2), jkP, hP h, if_neg (by rw [nI_eq0 (by have := hP3 h; omega)]; exact hp), j2d h, j235, if_neg (by rw [nI_eq (by omega) (by omega)]; omega)]
      · rw [jk3, wI_rd, j2d h, nI_1, afD, if_neg hp]
      · rw [afD, if_neg hp] at hi
        rw [afS, if_neg hp, jk3, wI_o _ _ _ _ _ _ _ _ (fun z => absurd z.1 (by decide)), j2d h, nI_c (by omega)]
        by_cases hie : i = d - afN M o g
        · rw [hie, wI_rd, up_at]; exact hP h
        · rw [wI_o _ _ _ _ _ _ _ _ (fun z => hie z.2.2), up_ne _ _ hie, j2s, cut_at (by omega)]
          exact m2 i (by omega)
      · rw [jk3, wI_o _ _ _ _ _ _ _ _ (fun z => absurd z.1 (by decide)), wI_o _ _ _ _ _ _ _ _ (fun z => absurd z.1 (by decide))]
        exact j2l h l hl
