/-! the two sides read alike: MAPs -/
theorem mkGo_2 : ∀ (n i : Nat) (k : Int32) (S : MS), (mkGo n i k S).2.2 = S.2
  | 0, _, _, _ => rfl
  | n + 1, i, k, S => by rw [mkGo, mkGo_2 n, takeS_2]
theorem mkGo_o (a b d : Nat) (h : a ≠ 5) : ∀ (n i : Nat) (k : Int32) (S : MS), (mkGo n i k S).2.1 a b d = S.1 a b d
  | 0, _, _, _ => rfl
  | n + 1, i, k, S => by rw [mkGo, mkGo_o a b d h n, takeS_o _ _ _ _ _ _ _ h]
theorem mdGo_2 : ∀ (n : Nat) (k : Int32) (S : MS), (mdGo n k S).2.2 = S.2
  | 0, _, _ => rfl
  | n + 1, k, S => by rw [mdGo, mdGo_2 n, takeS_2]
theorem mdGo_o (a b d : Nat) (h : a ≠ 5) : ∀ (n : Nat) (k : Int32) (S : MS), (mdGo n k S).2.1 a b d = S.1 a b d
  | 0, _, _ => rfl
  | n + 1, k, S => by rw [mdGo, mdGo_o a b d h n, takeS_o _ _ _ _ _ _ _ h]
theorem mapK_o (S : MS) (q a b d : Nat) (h : a ≠ 5) : (mapK S q).2.1 a b d = S.1 a b d := by
  rw [mapK, mdGo_o _ _ _ h, mapK2, takeS_o _ _ _ _ _ _ _ h, mapK1, mkGo_o _ _ _ h]
theorem mapK_2 (S : MS) (q : Nat) : (mapK S q).2.2 = S.2 := by
  rw [mapK, mdGo_2, mapK2, takeS_2, mapK1, mkGo_2]
/-- MAP j, at place p -/
def MO (X M : MS) (q L lc st j p : Nat) : Prop := p < L ∧ X.1 15 q j = nI p ∧ M.1 39 0 (8 * q + j) = nI p ∧ ∃ d ms ml, d ≤ st ∧ M.1 41 0 (8 * q + j) = nI d ∧ KW (X.1 16 q j) d ms ml ∧ (∀ i, i < d → M.1 42 0 (6 * (8 * q + j) + i) = nI (ms i) ∧ 1 ≤ ms i ∧ ms i ≤ 2) ∧ (∀ l, l < lc → M.1 40 0 (6 * (8 * q + j) + l) = nI (ml l) ∧ ml l ≤ 2) ∧ ∀ l, lc ≤ l → ml l = 0
theorem MO.same {X M X' M' : MS} {q L lc st j p : Nat} (h : MO X M q L lc st j p) (hlc : lc ≤ 6) (hst : st ≤ 6) (x1 : X'.1 15 q j = X.1 15 q j) (x2 : X'.1 16 q j = X.1 16 q j) (m1 : M'.1 39 0 (8 * q + j) = M.1 39 0 (8 * q + j)) (m2 : M'.1 41 0 (8 * q + j) = M.1 41 0 (8 * q + j)) (m3 : ∀ i, i < 6 → M'.1 42 0 (6 * (8 * q + j) + i) = M.1 42 0 (6 * (8 * q + j) + i)) (m4 : ∀ i, i < 6 → M'.1 40 0 (6 * (8 * q + j) + i) = M.1 40 0 (6 * (8 * q + j) + i)) : MO X' M' q L lc st j p := by
  obtain ⟨a1, a2, a3, d, ms, ml, b1, b2, b3, b4, b5, b6⟩ := h
  exact ⟨a1, x1.trans a2, m1.trans a3, d, ms, ml, b1, m2.trans b2, by rw [x2]; exact b3, fun i hi => by rw [m3 i (by omega)]; exact b4 i hi, fun l hl => by rw [m4 l (by omega)]; exact b5 l hl, b6⟩
/-- the head of METHOD q -/
def HF (X M : MS) (q lc st L : Nat) : Prop := lc ≤ 6 ∧ 1 ≤ st ∧ st ≤ 6 ∧ 1 ≤ L ∧ L ≤ 48 ∧ X.1 4 q 3 = nI lc ∧ M.1 34 0 q = nI lc ∧ X.1 4 q 4 = nI st ∧ M.1 35 0 q = nI st ∧ X.1 4 q 5 = nI L ∧ M.1 36 0 q = nI L
/-- MAPs so far -/
def MF (X M : MS) (q L lc st i lw : Nat) : Prop := X.1 4 q 6 = nI i ∧ (i = 0 → lw = 0) ∧ (0 < i → 0 < lw ∧ M.1 39 0 (8 * q + i - 1) = nI (lw - 1)) ∧ lw ≤ L ∧ ∃ pl : Nat → Nat, (∀ j, j < i → MO X M q L lc st j (pl j) ∧ pl j < lw) ∧ ∀ j j', j < j' → j' < i → pl j < pl j'
theorem rmS'_at (M : MS) {q k j : Nat} (hj : j ≠ k) (hL : (M.1 34 0 q).toNatClampNeg ≤ 6) (hS : (mTknV (rm2 M q k) 0 (M.1 35 0 q) 3).toNatClampNeg ≤ 6) : (rmS' M q k).1 39 0 (8 * q + j) = M.1 39 0 (8 * q + j) ∧ (rmS' M q k).1 41 0 (8 * q + j) = M.1 41 0 (8 * q + j) ∧ (∀ i, i < 6 → (rmS' M q k).1 42 0 (6 * (8 * q + j) + i) = M.1 42 0 (6 * (8 * q + j) + i)) ∧ (∀ i, i < 6 → (rmS' M q k).1 40 0 (6 * (8 * q + j) + i) = M.1 40 0 (6 * (8 * q + j) + i)) := by
  have nz : ∀ {b c d x y : Nat}, b ≠ 8 → ¬ (b = 8 ∧ c = x ∧ d = y) := fun h z => h z.1
  have r1 : ∀ b d, b ≠ 8 → ¬ (b = 39 ∧ d = 8 * q + k) → (rm1 M q k).1 b 0 d = M.1 b 0 d := fun b d hb h => by
    unfold rm1
    rw [wI_o _ _ _ _ _ _ _ _ (fun z => h ⟨z.1, z.2.2⟩)]
    split
    · rw [mFaultS_o _ _ _ _ _ _ (nz hb) (nz hb), mTakeS_o _ _ _ _ (nz hb) (nz hb) (nz hb)]
    · rw [mTakeS_o _ _ _ _ (nz hb) (nz hb) (nz hb)]
  refine ⟨?_, ?_, fun i hi => ?_, fun i hi => ?_⟩
  · rw [rmS', fillGo_o _ _ _ _ _ _ _ (nz (by decide)) (nz (by decide)) (nz (by decide)) (by decide), rm3, setT_o _ _ _ _ _ _ _ _ _ (nz (by decide)) (nz (by decide)) (nz (by decide)) (fun z => absurd z.1 (by decide)), rm2, fillGo_o _ _ _ _ _ _ _ (nz (by decide)) (nz (by decide)) (nz (by decide)) (by decide), r1 _ _ (by decide) (fun z => hj (by omega))]
  · rw [rmS', fillGo_o _ _ _ _ _ _ _ (nz (by decide)) (nz (by decide)) (nz (by decide)) (by decide), rm3, setT_o _ _ _ _ _ _ _ _ _ (nz (by decide)) (nz (by decide)) (nz (by decide)) (fun z => hj (by omega)), rm2, fillGo_o _ _ _ _ _ _ _ (nz (by decide)) (nz (by decide)) (nz (by decide)) (by decide), r1 _ _ (by decide) (fun z => absurd z.1 (by decide))]
  · rw [rmS', fillGo_at _ _ _ _ (by decide) _ _ _ _ (by omega), rm3, setT_o _ _ _ _ _ _ _ _ _ (nz (by decide)) (nz (by decide)) (nz (by decide)) (fun z => absurd z.1 (by decide)), rm2, fillGo_o _ _ _ _ _ _ _ (nz (by decide)) (nz (by decide)) (nz (by decide)) (by decide), r1 _ _ (by decide) (fun z => absurd z.1 (by decide))]
  · rw [rmS', fillGo_o _ _ _ _ _ _ _ (nz (by decide)) (nz (by decide)) (nz (by decide)) (by decide), rm3, setT_o _ _ _ _ _ _ _ _ _ (nz (by decide)) (nz (by decide)) (nz (by decide)) (fun z => absurd z.1 (by decide)), rm2, fillGo_at _ _ _ _ (by decide) _ _ _ _ (by omega), r1 _ _ (by decide) (fun z => absurd z.1 (by decide))]
theorem HF.same {X M X' M' : MS} {q lc st L : Nat} (h : HF X M q lc st L) (x : ∀ d, d = 3 ∨ d = 4 ∨ d = 5 → X'.1 4 q d = X.1 4 q d) (m : ∀ b, b = 34 ∨ b = 35 ∨ b = 36 → M'.1 b 0 q = M.1 b 0 q) : HF X' M' q lc st L := by
  obtain ⟨a1, a2, a3, a4, a5, a6, a7, a8, a9, b1, b2⟩ := h
  exact ⟨a1, a2, a3, a4, a5, (x 3 (Or.inl rfl)).trans a6, (m 34 (Or.inl rfl)).trans a7, (x 4 (Or.inr (Or.inl rfl))).trans a8, (m 35 (Or.inr (Or.inl rfl))).trans a9, (x 5 (Or.inr (Or.inr rfl))).trans b1, (m 36 (Or.inr (Or.inr rfl))).trans b2⟩
def rmX (X : MS) (q : Nat) (low : Int32) : MS := appMapM (mapK (takeS X low (X.1 4 q 5 - 1) 8) q).2 q (takeV X low (X.1 4 q 5 - 1)) (mapK (takeS X low (X.1 4 q 5 - 1) 8) q).1
theorem appMapM_at {X : MS} {q i : Nat} (hi : i < 8) (h : X.1 4 q 6 = nI i) (p k : Int32) : appMapM X q p k = wI (wI (wI X 15 q i p) 16 q i k) 4 q 6 (nI (i + 1)) := by
  rw [appMapM, h, if_pos (nI_guard (N := 8) (M := 8) rfl hi (by decide)), nI_c (by omega), nI_1]
theorem QR.map {X M : MS} {n q lc st L i lw : Nat} (h : QR X M n) (hf : M.1 8 0 28 = 0) (hH : HF X M q lc st L) (hM : MF X M q L lc st i lw) (hi : i < 8) : QR (rmX X q (nI lw)) (rmS' M q i) n ∧ HF (rmX X q (nI lw)) (rmS' M q i) q lc st L ∧ ((rmS' M q i).1 8 0 28 = 0 → ∃ p, takeV X (nI lw) (X.1 4 q 5 - 1) + 1 = nI (p + 1) ∧ MF (rmX X q (nI lw)) (rmS' M q i) q L lc st (i + 1) (p + 1)) := by
  obtain ⟨y1, y2, y3, y4, pl, y5, y6⟩ := hM
  obtain ⟨a1, a2, a3, a4, a5, a6, a7, a8, a9, b1, b2⟩ := hH
  have nz : ∀ {b c d x y : Nat}, b ≠ 8 → ¬ (b = 8 ∧ c = x ∧ d = y) := fun h z => h z.1
  obtain ⟨h1, h2⟩ := QR.place (k := i) (L := L) (lw := lw) (low := nI lw) h (fun _ => ⟨rfl, a4, a5, y4, b1, b2, y2, y3⟩) (by omega)
  generalize hX1 : takeS X (nI lw) (X.1 4 q 5 - 1) 8 = X1 at h1
  have o1 : ∀ a b d, a ≠ 5 → X1.1 a b d = X.1 a b d := fun a b d ha => by rw [← hX1, takeS_o _ _ _ _ _ _ _ ha]
  have e2 : rm2 M q i = fillGo 40 (6 * (8 * q + i)) 0 2 lc 0 (rm1 M q i) := by rw [rm2, a7, nI_c (by omega)]
  have eK : mapK1 X1 q = mkGo lc 0 0 X1 := by rw [mapK1, o1 4 q 3 (by decide), a6, nI_c (by omega)]
  obtain ⟨h3, h4⟩ := QR.mk lc 0 0 X1 (rm1 M q i) h1 (show 0 + lc ≤ 6 by omega) (fun _ => (⟨fun _ => 0, KW.zero, fun l hl => absurd hl (Nat.not_lt_zero _), fun _ _ => rfl⟩ : LK (rm1 M q i) 40 (6 * (8 * q + i)) 0 0 0))
  rw [← eK, ← e2] at h3
  rw [← eK, ← e2, Nat.zero_add] at h4
  have o2 : (mapK1 X1 q).2.1 4 q 4 = nI st := by rw [mapK1, mkGo_o _ _ _ (by decide), o1 4 q 4 (by decide), a8]
  obtain ⟨e5, h5⟩ := h3.tk 0 (nI st) 3 (by decide)
  obtain ⟨dp, hdp, hD⟩ := mTknV_rng (rm2 M q i) (lo := 0) (M := nI st) (w := 3) (n := st) (nI_toInt (by omega)) (by decide) (by decide)
  have e6 : rm3 M q i = setT (rm2 M q i) 41 (8 * q + i) 0 (nI st) 3 := by rw [rm3, a9]
  have e7 : rmS' M q i = fillGo 42 (6 * (8 * q + i)) 1 2 dp 0 (rm3 M q i) := by rw [rmS', a9, hD, nI_c (by omega)]
  have eKd : mapKd X1 q = nI dp := by rw [mapKd, o2, e5, hD]
  have h6 : QR (mapK2 X1 q) (rm3 M q i) n := by rw [mapK2, o2, e6]; exact h5.setM (by decide) (by decide)
  have eK2 : mapK X1 q = mdGo dp (mapK1 X1 q).1 (mapK2 X1 q) := by rw [mapK, eKd, nI_c (by omega)]
  have key : ∀ lo, ((rm3 M q i).1 8 0 28 = 0 → SK (rm3 M q i) (6 * (8 * q + i)) 0 lo (mapK1 X1 q).1) → QR (mapK X1 q).2 (rmS' M q i) n ∧ ((rmS' M q i).1 8 0 28 = 0 → SK (rmS' M q i) (6 * (8 * q + i)) dp lo (mapK X1 q).1) := fun lo hlo => by
    have := QR.md (lo := lo) dp 0 (mapK1 X1 q).1 (mapK2 X1 q) (rm3 M q i) h6 (show 0 + dp ≤ 6 by omega) hlo
    rw [← eK2, ← e7, Nat.zero_add] at this
    exact this
  have hK6 : (mapK X1 q).2.1 4 q 6 = nI i := by rw [mapK_o _ _ _ _ _ (by decide), o1 _ _ _ (by decide)]; exact y1
  have eX : rmX X q (nI lw) = wI (wI (wI (mapK X1 q).2 15 q i (takeV X (nI lw) (X.1 4 q 5 - 1))) 16 q i (mapK X1 q).1) 4 q 6 (nI (i + 1)) := by
    rw [rmX, hX1]; exact appMapM_at hi hK6 _ _
  have oX : ∀ b d, ¬ (b = 4 ∧ d = 6) → ¬ (b = 15 ∧ d = i) → ¬ (b = 16 ∧ d = i) → b ≠ 5 → (rmX X q (nI lw)).1 b q d = X.1 b q d := fun b d g1 g2 g3 g4 => by
    rw [eX, wI_o _ _ _ _ _ _ _ _ (fun z => g1 ⟨z.1, z.2.2⟩), wI_o _ _ _ _ _ _ _ _ (fun z => g3 ⟨z.1, z.2.2⟩), wI_o _ _ _ _ _ _ _ _ (fun z => g2 ⟨z.1, z.2.2⟩), mapK_o _ _ _ _ _ g4, o1 _ _ _ g4]
  have hQ : QR (mapK X1 q).2 (rmS' M q i) n := by
    by_cases hz : (rm3 M q i).1 8 0 28 = 0
    · have hz2 := setT_f (kd := 41) (by decide) (by rw [e6] at hz; exact hz)
      obtain ⟨lo, k1, -, -⟩ := h4 hz2
      exact (key lo (fun _ => ⟨fun _ => 0, k1, fun j hj => absurd hj (Nat.not_lt_zero _)⟩)).1
    · exact (key (fun _ => 0) (fun z => absurd z hz)).1
  have hO := fun j (hj : j ≠ i) => rmS'_at M (q := q) hj (by rw [a7, nI_c (by omega)]; exact a1) (by rw [a9, hD, nI_c (by omega)]; omega)
  refine ⟨by rw [eX]; exact ((hQ.wX (by decide)).wX (by decide)).wX (by decide), HF.same ⟨a1, a2, a3, a4, a5, a6, a7, a8, a9, b1, b2⟩ (fun d hd => oX 4 d (by omega) (by omega) (by omega) (by decide)) (fun b hb => rmS'_o _ _ _ _ _ _ (nz (by omega)) (nz (by omega)) (nz (by omega)) (by omega) (by omega) (by omega) (by omega)), fun hz => ?_⟩
  have hz3 : (rm3 M q i).1 8 0 28 = 0 := by rw [e7] at hz; exact fillGo_f (by decide) _ _ _ hz
  have hz2 : (rm2 M q i).1 8 0 28 = 0 := setT_f (kd := 41) (by decide) (by rw [e6] at hz3; exact hz3)
  have hz1 : (rm1 M q i).1 8 0 28 = 0 := by rw [e2] at hz2; exact fillGo_f (by decide) _ _ _ hz2
  obtain ⟨p, p1, p2, p3, p4⟩ := h2 hz1
  obtain ⟨ml, k1, k2, k3⟩ := h4 hz2
  obtain ⟨ms, m1, m2⟩ := (key ml (fun _ => ⟨fun _ => 0, k1, fun j hj => absurd hj (Nat.not_lt_zero _)⟩)).2 hz
  have n39 : (rmS' M q i).1 39 0 (8 * q + i) = nI p := by
    rw [e7, fillGo_o _ _ _ _ _ _ _ (nz (by decide)) (nz (by decide)) (nz (by decide)) (by decide), e6, setT_o _ _ _ _ _ _ _ _ _ (nz (by decide)) (nz (by decide)) (nz (by decide)) (fun z => absurd z.1 (by decide)), e2, fillGo_o _ _ _ _ _ _ _ (nz (by decide)) (nz (by decide)) (nz (by decide)) (by decide)]; exact p4
  have n41 : (rmS' M q i).1 41 0 (8 * q + i) = nI dp := by
    rw [e7, fillGo_o _ _ _ _ _ _ _ (nz (by decide)) (nz (by decide)) (nz (by decide)) (by decide), e6, setT_rd]; exact hD
  have n40 : ∀ l, (rmS' M q i).1 40 0 (6 * (8 * q + i) + l) = (rm2 M q i).1 40 0 (6 * (8 * q + i) + l) := fun l => by
    rw [e7, fillGo_o _ _ _ _ _ _ _ (nz (by decide)) (nz (by decide)) (nz (by decide)) (by decide), e6, setT_o _ _ _ _ _ _ _ _ _ (nz (by decide)) (nz (by decide)) (nz (by decide)) (fun z => absurd z.1 (by decide))]
  refine ⟨p, by rw [p3, nI_1], by rw [eX, wI_rd], fun z => by omega, fun _ => ⟨by omega, by rw [show 8 * q + (i + 1) - 1 = 8 * q + i by omega, n39]; rfl⟩, by omega, up pl i p, fun j hj => ?_, fun j j' hjj hj' => ?_⟩
  · by_cases hji : j = i
    · subst hji
      rw [up_at]
      refine ⟨⟨p2, ?_, n39, dp, ms, ml, hdp, n41, ?_, m2, fun l hl => ?_, k3⟩, by omega⟩
      · rw [eX, wI_o _ _ _ _ _ _ _ _ (fun z => absurd z.1 (by decide)), wI_o _ _ _ _ _ _ _ _ (fun z => absurd z.1 (by decide)), wI_rd]; exact p3
      · rw [eX, wI_o _ _ _ _ _ _ _ _ (fun z => absurd z.1 (by decide)), wI_rd]; exact m1
      · rw [n40]
        obtain ⟨u1, -, u2⟩ := k2 l hl
        exact ⟨u1, u2⟩
    · rw [up_ne _ _ hji]
      obtain ⟨v1, v2⟩ := y5 j (by omega)
      obtain ⟨w1, w2, w3, w4⟩ := hO j hji
      exact ⟨v1.same a1 a3 (oX 15 j (by omega) (by omega) (by omega) (by decide)) (oX 16 j (by omega) (by omega) (by omega) (by decide)) w1 w2 w3 w4, by omega⟩
  · by_cases hji : j' = i
    · rw [hji, up_at, up_ne _ _ (by omega)]
      have := (y5 j (by omega)).2
      omega
    · rw [up_ne _ _ hji, up_ne _ _ (by omega)]
      exact y6 j j' hjj (by omega)
theorem QR.maps {n q lc st L : Nat} : ∀ (k i lw : Nat) (low : Int32) (X M : MS), QR X M n → i + k ≤ 8 → HF X M q lc st L → (M.1 8 0 28 = 0 → low = nI lw ∧ MF X M q L lc st i lw) → QR (rmGo q k low X) (qmGo q k i M) n ∧ HF (rmGo q k low X) (qmGo q k i M) q lc st L ∧ ((qmGo q k i M).1 8 0 28 = 0 → ∃ lw', MF (rmGo q k low X) (qmGo q k i M) q L lc st (i + k) lw')
  | 0, i, lw, low, X, M, h, _, hH, hL => ⟨h, hH, fun z => ⟨lw, (hL z).2⟩⟩
  | k + 1, i, lw, low, X, M, h, hi, hH, hL => by
    rw [rmGo, qmGo]
    by_cases hf : M.1 8 0 28 = 0
    · obtain ⟨el, hM⟩ := hL hf
      subst el
      rw [if_pos (h.2.1.trans hf), if_pos hf, show i + (k + 1) = i + 1 + k by omega]
      obtain ⟨h1, h2, h3⟩ := h.map hf hH hM (by omega)
      by_cases hz : (rmS' M q i).1 8 0 28 = 0
      · obtain ⟨p, p1, p2⟩ := h3 hz
        exact QR.maps k (i + 1) (p + 1) _ _ _ h1 (by omega) h2 (fun _ => ⟨p1, p2⟩)
      · exact QR.maps k (i + 1) 0 _ _ _ h1 (by omega) h2 (fun z => absurd z hz)
    · rw [if_neg (by rw [h.2.1]; exact hf), if_neg hf]
      exact ⟨h, hH, fun z => absurd z hf⟩
