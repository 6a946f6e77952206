/-! the two sides judge alike: MAPs -/
/-- the kinds at hand, alike -/
def KR (X M : MS) (lc stk d : Nat) (st lo : Nat → Nat) : Prop := KW (X.1 6 0 1) d st lo ∧ M.1 8 0 33 = nI d ∧ (∀ i, i < d → M.1 48 0 i = nI (st i)) ∧ (∀ l, l < 6 → M.1 49 0 l = nI (lo l)) ∧ (∀ l, lc ≤ l → lo l = 0) ∧ d ≤ stk ∧ (∀ i, i < d → 1 ≤ st i ∧ st i ≤ 2) ∧ ∀ l, lo l ≤ 2
theorem KR.same {X M X' M' : MS} {lc stk d : Nat} {st lo : Nat → Nat} (h : KR X M lc stk d st lo) (x : X'.1 6 0 1 = X.1 6 0 1) (m1 : M'.1 8 0 33 = M.1 8 0 33) (m2 : ∀ i, M'.1 48 0 i = M.1 48 0 i) (m3 : ∀ i, M'.1 49 0 i = M.1 49 0 i) : KR X' M' lc stk d st lo := by
  obtain ⟨a1, a2, a3, a4, a5, a6, a7, a8⟩ := h
  exact ⟨by rw [x]; exact a1, m1.trans a2, fun i hi => (m2 i).trans (a3 i hi), fun l hl => (m3 l).trans (a4 l hl), a5, a6, a7, a8⟩
def Maps (X M : MS) (q L lc st mp : Nat) (pl : Nat → Nat) : Prop := X.1 4 q 6 = nI mp ∧ M.1 38 0 q = nI mp ∧ mp ≤ 8 ∧ (∀ j, j < mp → MO X M q L lc st j (pl j)) ∧ ∀ j j', j < j' → j' < mp → pl j < pl j'
theorem mapGo_N {X : MS} {q mp p : Nat} {pl : Nat → Nat} (h6 : X.1 4 q 6 = nI mp) (hmp : mp ≤ 8) (hp : p < 256) (hpl : ∀ j, j < mp → pl j < 48 ∧ X.1 15 q j = nI (pl j)) : ∀ n i, i + n = 8 → ((∃ j, i ≤ j ∧ j < mp ∧ pl j = p ∧ mapGo X q (nI p) n i = X.1 16 q j) ∨ ((∀ j, i ≤ j → j < mp → pl j ≠ p) ∧ mapGo X q (nI p) n i = -1))
  | 0, i, hi => Or.inr ⟨fun j h1 h2 => by omega, rfl⟩
  | n + 1, i, hi => by
    rw [mapGo, h6]
    by_cases h1 : nI mp ≤ nI i
    · rw [if_pos h1]
      rw [nI_leI (by omega) (by omega)] at h1
      exact Or.inr ⟨fun j a b => by omega, rfl⟩
    · rw [if_neg h1]
      rw [nI_leI (by omega) (by omega)] at h1
      obtain ⟨b1, b2⟩ := hpl i (by omega)
      by_cases h2 : X.1 15 q i = nI p
      · rw [if_pos h2]
        rw [b2, nI_eq (by omega) (by omega)] at h2
        exact Or.inl ⟨i, Nat.le_refl _, by omega, h2, rfl⟩
      · rw [if_neg h2]
        rw [b2, nI_eq (by omega) (by omega)] at h2
        rcases mapGo_N h6 hmp hp hpl n (i + 1) (by omega) with ⟨j, c1, c2, c3, c4⟩ | ⟨c1, c2⟩
        · exact Or.inl ⟨j, by omega, c2, c3, c4⟩
        · refine Or.inr ⟨fun j d1 d2 => ?_, c2⟩
          by_cases hji : j = i
          · rw [hji]; exact h2
          · exact c1 j (by omega) d2
theorem mpfGo_N {M : MS} {q mp p : Nat} {pl : Nat → Nat} (hmp : mp ≤ 8) (hp : p < 256) (hpl : ∀ j, j < mp → pl j < 48 ∧ M.1 39 0 (8 * q + j) = nI (pl j)) : ∀ n i f, i + n = mp → ((∀ j, i ≤ j → j < mp → pl j ≠ p) → mpfGo M q (nI p) n i f = f) ∧ (∀ j, i ≤ j → j < mp → pl j = p → (∀ j', j < j' → j' < mp → pl j' ≠ p) → mpfGo M q (nI p) n i f = nI (8 * q + j))
  | 0, i, f, hi => ⟨fun _ => rfl, fun j h1 h2 => by omega⟩
  | n + 1, i, f, hi => by
    obtain ⟨b1, b2⟩ := hpl i (by omega)
    rw [mpfGo]
    by_cases h2 : M.1 39 0 (8 * q + i) = nI p
    · rw [if_pos h2]
      rw [b2, nI_eq (by omega) (by omega)] at h2
      obtain ⟨c1, c2⟩ := mpfGo_N hmp hp hpl n (i + 1) (nI (8 * q + i)) (by omega)
      refine ⟨fun z => absurd h2 (z i (Nat.le_refl _) (by omega)), fun j d1 d2 d3 d4 => ?_⟩
      by_cases hji : j = i
      · subst hji
        exact c1 (fun j' e1 e2 => d4 j' (by omega) e2)
      · exact c2 j (by omega) d2 d3 d4
    · rw [if_neg h2]
      rw [b2, nI_eq (by omega) (by omega)] at h2
      obtain ⟨c1, c2⟩ := mpfGo_N hmp hp hpl n (i + 1) f (by omega)
      refine ⟨fun z => c1 (fun j e1 e2 => z j (by omega) e2), fun j d1 d2 d3 d4 => ?_⟩
      by_cases hji : j = i
      · rw [hji] at d3; exact absurd d3 h2
      · exact c2 j (by omega) d2 d3 d4
/-- which MAP a place has -/
theorem Maps.at {X M : MS} {q L lc st mp : Nat} {pl : Nat → Nat} (h : Maps X M q L lc st mp pl) (hL : L ≤ 48) {p : Nat} (hp : p < 256) : (∃ j, j < mp ∧ pl j = p ∧ mapAtX X q (nI p) = X.1 16 q j ∧ mpfV M q (nI p) = nI (8 * q + j)) ∨ ((∀ j, j < mp → pl j ≠ p) ∧ mapAtX X q (nI p) = -1 ∧ mpfV M q (nI p) = -1) := by
  obtain ⟨h1, h2, h3, h4, h5⟩ := h
  have g1 := mapGo_N (pl := pl) h1 h3 hp (fun j hj => ⟨by have := (h4 j hj).1; omega, (h4 j hj).2.1⟩) 8 0 rfl
  obtain ⟨g2, g3⟩ := mpfGo_N (pl := pl) (M := M) (q := q) h3 hp (fun j hj => ⟨by have := (h4 j hj).1; omega, (h4 j hj).2.2.1⟩) mp 0 (-1) (by omega)
  have e : mpfV M q (nI p) = mpfGo M q (nI p) mp 0 (-1) := by rw [mpfV, h2, nI_c (by omega)]
  rcases g1 with ⟨j, c1, c2, c3, c4⟩ | ⟨c1, c2⟩
  · refine Or.inl ⟨j, c2, c3, c4, ?_⟩
    rw [e]
    exact g3 j (Nat.zero_le _) c2 c3 (fun j' e1 e2 => by have := h5 j j' e1 e2; omega)
  · refine Or.inr ⟨fun j hj => c1 j (Nat.zero_le _) hj, c2, ?_⟩
    rw [e]
    exact g2 (fun j _ hj => c1 j (Nat.zero_le _) hj)
theorem fitGo_iff (S : MS) (a : Nat) : ∀ (n k : Nat) (b : Bool), fitGo S a n k b = true ↔ b = true ∧ ∀ i, k ≤ i → i < k + n → S.1 48 0 i = S.1 42 0 (6 * a + i)
  | 0, k, b => ⟨fun h => ⟨h, fun i h1 h2 => by omega⟩, fun h => h.1⟩
  | n + 1, k, b => by
    cases b with
    | false => rw [fitGo_f]; exact ⟨fun h => absurd h (by decide), fun h => absurd h.1 (by decide)⟩
    | true =>
      rw [fitGo, if_pos rfl, fitGo_iff S a n (k + 1), decide_eq_true_eq]
      constructor
      · rintro ⟨h1, h2⟩
        refine ⟨rfl, fun i hi hi2 => ?_⟩
        by_cases hik : i = k
        · rw [hik]; exact h1
        · exact h2 i (by omega) (by omega)
      · rintro ⟨-, h2⟩
        exact ⟨h2 k (by omega) (by omega), fun i hi hi2 => h2 i (by omega) (by omega)⟩
theorem fitLo_iff (S : MS) (a : Nat) : ∀ (n k : Nat) (b : Bool), fitLo S a n k b = true ↔ b = true ∧ ∀ i, k ≤ i → i < k + n → S.1 40 0 (6 * a + i) = 0 ∨ S.1 40 0 (6 * a + i) = S.1 49 0 i
  | 0, k, b => ⟨fun h => ⟨h, fun i h1 h2 => by omega⟩, fun h => h.1⟩
  | n + 1, k, b => by
    cases b with
    | false => rw [fitLo_f]; exact ⟨fun h => absurd h (by decide), fun h => absurd h.1 (by decide)⟩
    | true =>
      rw [fitLo, if_pos rfl, fitLo_iff S a n (k + 1), Bool.or_eq_true, decide_eq_true_eq, decide_eq_true_eq]
      constructor
      · rintro ⟨h1, h2⟩
        refine ⟨rfl, fun i hi hi2 => ?_⟩
        by_cases hik : i = k
        · rw [hik]; exact h1
        · exact h2 i (by omega) (by omega)
      · rintro ⟨-, h2⟩
        exact ⟨h2 k (by omega) (by omega), fun i hi hi2 => h2 i (by omega) (by omega)⟩
/-- the kinds of MAP j -/
def MK (X M : MS) (q lc st j d : Nat) (ms ml : Nat → Nat) : Prop := d ≤ st ∧ M.1 41 0 (8 * q + j) = nI d ∧ KW (X.1 16 q j) d ms ml ∧ (∀ i, i < d → M.1 42 0 (6 * (8 * q + j) + i) = nI (ms i) ∧ 1 ≤ ms i ∧ ms i ≤ 2) ∧ (∀ l, l < lc → M.1 40 0 (6 * (8 * q + j) + l) = nI (ml l) ∧ ml l ≤ 2) ∧ ∀ l, lc ≤ l → ml l = 0
theorem KR.fit {X M : MS} {lc stk d q j d' : Nat} {st lo ms ml : Nat → Nat} (h : KR X M lc stk d st lo) (hk : MK X M q lc stk j d' ms ml) (hlc : lc ≤ 6) (hL : M.1 34 0 q = nI lc) : (fitsK (X.1 6 0 1) (X.1 16 q j) = true ↔ FitK d st lo d' ms ml) ∧ (fitV M q (8 * q + j) = true ↔ FitK d st lo d' ms ml) := by
  obtain ⟨a1, a2, a3, a4, a5, a6, a7, a8⟩ := h
  obtain ⟨b1, b2, b3, b4, b5, b6⟩ := hk
  have hd6 := a1.2.1
  have hd6' := b3.2.1
  refine ⟨a1.fits b3, ?_⟩
  rw [fitV, hL, a2, nI_c (by omega), nI_c (by omega), fitLo_iff, fitGo_iff, decide_eq_true_eq, b2, nI_eq (by omega) (by omega)]
  constructor
  · rintro ⟨⟨e1, e2⟩, e3⟩
    subst e1
    refine ⟨rfl, fun i hi => ?_, fun l hl => ?_⟩
    · by_cases hid : i < d'
      · have e4 := e2 i (by omega) (by omega)
        have := a7 i hid
        have := (b4 i hid).2.2
        rw [a3 i hid, (b4 i hid).1, nI_eq (by omega) (by omega)] at e4
        exact e4
      · rw [a1.2.2.2.1 i (by omega), b3.2.2.2.1 i (by omega)]
    · by_cases hlc2 : l < lc
      · have e4 := e3 l (by omega) (by omega)
        have := a8 l
        have := (b5 l hlc2).2
        rw [(b5 l hlc2).1, a4 l (by omega), nI_eq0 (by omega), nI_eq (by omega) (by omega)] at e4
        exact e4
      · exact Or.inl (b6 l (by omega))
  · rintro ⟨e1, e2, e3⟩
    subst e1
    refine ⟨⟨rfl, fun i _ hi => ?_⟩, fun l _ hl => ?_⟩
    · rw [a3 i (by omega), (b4 i (by omega)).1, e2 i (by omega)]
    · rw [(b5 l (by omega)).1, a4 l (by omega)]
      rcases e3 l (by omega) with e4 | e4
      · exact Or.inl (by rw [e4]; rfl)
      · exact Or.inr (by rw [e4])
theorem cpGo_at (kd sr a : Nat) (hne : sr ≠ kd) (j : Nat) : ∀ (n i : Nat) (S : MS), (cpGo kd sr a n i S).1 kd 0 j = if i ≤ j ∧ j < i + n then S.1 sr 0 (6 * a + j) else S.1 kd 0 j
  | 0, i, S => by rw [if_neg (by omega)]; rfl
  | n + 1, i, S => by
    rw [cpGo, cpGo_at kd sr a hne j n (i + 1)]
    by_cases hji : j = i
    · subst hji
      rw [if_neg (by omega), if_pos (by omega), wI_rd]
    · by_cases h : i ≤ j ∧ j < i + (n + 1)
      · rw [if_pos (by omega), if_pos h, wI_o _ _ _ _ _ _ _ _ (fun z => hne z.1)]
      · rw [if_neg (by omega), if_neg h, wI_o _ _ _ _ _ _ _ _ (fun z => hji z.2.2)]
/-- the kinds become those of a MAP -/
theorem KR.bec {X M : MS} {lc stk d q j d' : Nat} {st lo ms ml : Nat → Nat} (h : KR X M lc stk d st lo) (hk : MK X M q lc stk j d' ms ml) (hlc : lc ≤ 6) (hL : M.1 34 0 q = nI lc) : KR (wI X 6 0 1 (X.1 16 q j)) (becS M q (8 * q + j)) lc stk d' ms ml := by
  obtain ⟨a1, a2, a3, a4, a5, a6, a7, a8⟩ := h
  obtain ⟨b1, b2, b3, b4, b5, b6⟩ := hk
  have hd6' := b3.2.1
  refine ⟨by rw [wI_rd]; exact b3, (becS_33 _ _ _).trans b2, fun i hi => ?_, fun l hl => ?_, b6, b1, fun i hi => (b4 i hi).2, fun l => ?_⟩
  · rw [becS, wI_o _ _ _ _ _ _ _ _ (fun z => absurd z.1 (by decide)), bec3, cpGo_o _ _ _ _ _ _ (by decide), bec2, b2, nI_c (by omega), cpGo_at _ _ _ (by decide), if_pos (by omega), wI_o _ _ _ _ _ _ _ _ (fun z => absurd z.1 (by decide))]
    exact (b4 i hi).1
  · rw [becS, wI_o _ _ _ _ _ _ _ _ (fun z => absurd z.1 (by decide)), bec3, hL, nI_c (by omega), cpGo_at _ _ _ (by decide)]
    by_cases hll : l < lc
    · rw [if_pos (by omega), bec2, cpGo_o _ _ _ _ _ _ (by decide), wI_o _ _ _ _ _ _ _ _ (fun z => absurd z.1 (by decide))]
      exact (b5 l hll).1
    · rw [if_neg (by omega), bec2, cpGo_o _ _ _ _ _ _ (by decide), wI_o _ _ _ _ _ _ _ _ (fun z => absurd z.1 (by decide)), a4 l hl, a5 l (by omega), b6 l (by omega)]
  · by_cases hll : l < lc
    · exact (b5 l hll).2
    · rw [b6 l (by omega)]; decide
