/-! the two sides read alike: names -/
theorem pL_pos {f : Nat → Nat} {n : Nat} (h : ∀ j, j < n + 1 → 97 ≤ f j) : 0 < pL f (n + 1) := by
  have := h n (by omega)
  rw [pL]; omega
theorem pL_inj {f g : Nat → Nat} : ∀ (n m : Nat), (∀ j, j < n → 97 ≤ f j ∧ f j ≤ 122) → (∀ j, j < m → 97 ≤ g j ∧ g j ≤ 122) → pL f n = pL g m → n = m ∧ ∀ j, j < n → f j = g j
  | 0, 0, _, _, _ => ⟨rfl, fun j hj => absurd hj (Nat.not_lt_zero _)⟩
  | 0, m + 1, _, hg, h => by
    have := pL_pos (f := g) (n := m) (fun j hj => (hg j hj).1)
    rw [← h, pL] at this; omega
  | n + 1, 0, hf, _, h => by
    have := pL_pos (f := f) (n := n) (fun j hj => (hf j hj).1)
    rw [h, pL] at this; omega
  | n + 1, m + 1, hf, hg, h => by
    rw [pL, pL] at h
    have h1 := hf n (by omega)
    have h2 := hg m (by omega)
    have h3 : f n = g m := by omega
    have h4 : pL f n = pL g m := by omega
    obtain ⟨e1, e2⟩ := pL_inj n m (fun j hj => hf j (by omega)) (fun j hj => hg j (by omega)) h4
    refine ⟨by omega, fun j hj => ?_⟩
    by_cases hjn : j = n
    · rw [hjn, h3, e1]
    · exact e2 j (by omega)
theorem swGo_iff (S : MS) (e f : Nat) : ∀ (n k : Nat) (b : Bool), swGo S e f n k b = true ↔ b = true ∧ (0 < n → ∀ i, k ≤ i → i < k + n → S.1 29 0 (8 * e + i) = S.1 29 0 (8 * f + i))
  | 0, _, b => ⟨fun h => ⟨h, fun z => absurd z (by decide)⟩, fun h => h.1⟩
  | n + 1, k, b => by
    cases b with
    | false => rw [swGo_f]; exact ⟨fun h => absurd h (by decide), fun h => absurd h.1 (by decide)⟩
    | true =>
      rw [swGo, if_pos rfl, swGo_iff S e f n (k + 1), decide_eq_true_eq]
      constructor
      · rintro ⟨h1, h2⟩
        refine ⟨rfl, fun _ i hi hi2 => ?_⟩
        by_cases hik : i = k
        · rw [hik]; exact h1
        · exact h2 (by omega) i (by omega) (by omega)
      · rintro ⟨-, h2⟩
        exact ⟨h2 (by omega) k (by omega) (by omega), fun _ i hi hi2 => h2 (by omega) i (by omega) (by omega)⟩
/-- a WORD and its letters in one number -/
def WD (X M : MS) (e : Nat) : Prop := ∃ w f, 1 ≤ w ∧ w ≤ 8 ∧ M.1 28 0 e = nI w ∧ LT M e w f ∧ X.2.1 13 0 e = lN (pL f w)
theorem RE.wd {X M : MS} {e : Nat} (h : RE X M e) (h3 : M.1 26 0 e = 3) : WD X M e := by
  rcases h.2 with ⟨a, -⟩ | ⟨a, -⟩ | ⟨-, w, f, a1, a2, a3, a4, a5, a6⟩
  · rw [a] at h3; exact absurd h3 (by decide)
  · rw [a] at h3; exact absurd h3 (by decide)
  · exact ⟨w, f, a1, a2, a4, a5, a6⟩
theorem WD.same {X M : MS} {a e : Nat} (ha : WD X M a) (he : WD X M e) : swV M a e = true ↔ X.2.1 13 0 a = X.2.1 13 0 e := by
  obtain ⟨w, f, a1, a2, a3, a4, a5⟩ := ha
  obtain ⟨v, g, b1, b2, b3, b4, b5⟩ := he
  have l1 := pL_lt f w (fun j hj => by have := (a4 j hj).2.2; omega)
  have l2 := pL_lt g v (fun j hj => by have := (b4 j hj).2.2; omega)
  have p1 := pL_pow a2
  have p2 := pL_pow b2
  rw [swV, a3, b3, nI_c (by omega), swGo_iff, decide_eq_true_eq, nI_eq (by omega) (by omega), a5, b5, q_eq (by omega) (by omega)]
  constructor
  · rintro ⟨h1, h2⟩
    subst h1
    refine pL_congr w (fun j hj => ?_)
    have h3 := h2 (by omega) j (by omega) (by omega)
    rw [(a4 j hj).1, (b4 j hj).1, nI_eq (by have := (a4 j hj).2.2; omega) (by have := (b4 j hj).2.2; omega)] at h3
    exact h3
  · intro h
    obtain ⟨h1, h2⟩ := pL_inj w v (fun j hj => (a4 j hj).2) (fun j hj => (b4 j hj).2) h
    subst h1
    refine ⟨rfl, fun _ i _ hi => ?_⟩
    rw [(a4 i (by omega)).1, (b4 i (by omega)).1, h2 i (by omega)]
theorem rnGo_iff (S : MS) (e : Nat) : ∀ (n k : Nat) (b : Bool), rnGo S e n k b = true ↔ b = true ∧ ∀ i, k ≤ i → i < k + n → swV S (S.1 30 0 i).toNatClampNeg e = false
  | 0, k, b => ⟨fun h => ⟨h, fun i h1 h2 => by omega⟩, fun h => h.1⟩
  | n + 1, k, b => by
    cases b with
    | false => rw [rnGo_f]; exact ⟨fun h => absurd h (by decide), fun h => absurd h.1 (by decide)⟩
    | true =>
      rw [rnGo, if_pos rfl, rnGo_iff S e n (k + 1), Bool.not_eq_true']
      constructor
      · rintro ⟨h1, h2⟩
        refine ⟨rfl, fun i hi hi2 => ?_⟩
        by_cases hik : i = k
        · rw [hik]; exact h1
        · exact h2 i (by omega) (by omega)
      · rintro ⟨-, h2⟩
        exact ⟨h2 k (by omega) (by omega), fun i hi hi2 => h2 i (by omega) (by omega)⟩
theorem canTo_iff (X : MS) (e : Int32) : ∀ k, canTo X e k = true ↔ tagP X e 3 = true ∧ ∀ i, i < k → ¬ valueOfP X (X.1 4 i 0) = valueOfP X e
  | 0 => ⟨fun h => ⟨h, fun i hi => absurd hi (Nat.not_lt_zero _)⟩, fun h => h.1⟩
  | k + 1 => by
    rw [canTo, Bool.and_eq_true, canTo_iff X e k, Bool.not_eq_true', decide_eq_false_iff_not]
    constructor
    · rintro ⟨⟨h1, h2⟩, h3⟩
      refine ⟨h1, fun i hi => ?_⟩
      by_cases hik : i = k
      · rw [hik]; exact h3
      · exact h2 i (by omega)
    · rintro ⟨h1, h2⟩
      exact ⟨⟨h1, fun i hi => h2 i (by omega)⟩, h2 k (by omega)⟩
theorem hasP_n {X : MS} {en e : Nat} (h : X.1 3 0 3 = nI en) (hen : en ≤ 16) (he : e < 2 ^ 31) : hasP X (nI e) = decide (e < en) := by
  have h1 : ¬ nI e < 0 := nI_pos he
  have i1 : nI en ≤ nI e ↔ en ≤ e := nI_leI (by omega) he
  have i2 : (16 : Int32) ≤ nI e ↔ 16 ≤ e := nI_leI (a := 16) (by decide) he
  unfold hasP
  rw [h]
  by_cases hl : e < en
  · have g1 : ¬ nI en ≤ nI e := fun z => by have := i1.mp z; omega
    have g2 : ¬ (16 : Int32) ≤ nI e := fun z => by have := i2.mp z; omega
    simp [hl, h1, g1, g2]
  · have g1 : nI en ≤ nI e := i1.mpr (by omega)
    simp [hl, g1]
/-- the POOL is alike -/
def RP (X M : MS) (en : Nat) : Prop := en ≤ 16 ∧ X.1 3 0 3 = nI en ∧ M.1 8 0 4 = nI en ∧ ∀ e, e < en → RE X M e
theorem RP.tag {X M : MS} {en : Nat} (h : RP X M en) {e : Nat} (he : e < 2 ^ 31) (t : Int32) : tagP X (nI e) t = (decide (e < en) && decide (M.1 26 0 e = t)) := by
  rw [tagP, hasP_n h.2.1 h.1 he, nI_c he]
  by_cases hl : e < en
  · rw [(h.2.2.2 e hl).1]
  · rw [decide_eq_false hl]; rfl
theorem RP.val {X M : MS} {en : Nat} (h : RP X M en) {e : Nat} (he : e < en) : valueOfP X (nI e) = X.2.1 13 0 e := by
  have := h.1
  rw [valueOfP, hasP_n h.2.1 h.1 (by omega), if_pos (decide_eq_true he), nI_c (by omega)]
/-- names ahead are alike -/
def RN (X M : MS) (en q : Nat) : Prop := ∀ k, k < q → ∃ a, a < en ∧ X.1 4 k 0 = nI a ∧ M.1 30 0 k = nI a ∧ M.1 26 0 a = 3
theorem can_eq {X M : MS} {en q e : Nat} (hP : RP X M en) (hN : RN X M en q) (he : e < 256) (hf : M.1 8 0 28 = 0) : canTo X (nI e) q = rnGood M e q := by
  have key : canTo X (nI e) q = true ↔ rnGood M e q = true := by
    have hen := hP.1
    rw [canTo_iff, rnGood, rnGo_iff, hP.tag (by omega), rn0, hP.2.2.1, Bool.and_eq_true, Bool.and_eq_true, Bool.and_eq_true, decide_eq_true_eq, decide_eq_true_eq, decide_eq_true_eq, decide_eq_true_eq, nI_leI (by omega) (by omega)]
    constructor
    · rintro ⟨⟨h1, h2⟩, h3⟩
      refine ⟨⟨⟨hf, by omega⟩, h2⟩, fun i _ hi => ?_⟩
      obtain ⟨a, a1, a2, a3, a4⟩ := hN i (by omega)
      rw [a3, nI_c (by omega)]
      cases hs : swV M a e with
      | false => rfl
      | true =>
        have h4 := (WD.same ((hP.2.2.2 a a1).wd a4) ((hP.2.2.2 e h1).wd h2)).mp hs
        have h5 := h3 i (by omega)
        rw [a2, hP.val a1, hP.val h1] at h5
        exact absurd h4 h5
    · rintro ⟨⟨⟨-, h1⟩, h2⟩, h3⟩
      have h1 : e < en := by omega
      refine ⟨⟨h1, h2⟩, fun i hi h4 => ?_⟩
      obtain ⟨a, a1, a2, a3, a4⟩ := hN i hi
      rw [a2, hP.val a1, hP.val h1] at h4
      have h5 := (WD.same ((hP.2.2.2 a a1).wd a4) ((hP.2.2.2 e h1).wd h2)).mpr h4
      have h6 := h3 i (by omega) (by omega)
      rw [a3, nI_c (by omega), h5] at h6
      exact absurd h6 (by decide)
  cases h1 : canTo X (nI e) q <;> cases h2 : rnGood M e q
  · rfl
  · rw [h1, h2] at key; exact absurd (key.mpr rfl) (by decide)
  · rw [h1, h2] at key; exact absurd (key.mp rfl) (by decide)
  · rfl
theorem RP.same {X M X' M' : MS} {en : Nat} (h : RP X M en) (x : ∀ b d, b = 3 ∨ b = 11 ∨ b = 12 → X'.1 b 0 d = X.1 b 0 d) (x2 : ∀ d, X'.2.1 13 0 d = X.2.1 13 0 d) (m4 : M'.1 8 0 4 = M.1 8 0 4) (m : ∀ b d, b = 26 ∨ b = 28 ∨ b = 29 → M'.1 b 0 d = M.1 b 0 d) (m2 : ∀ d, M'.2.1 27 0 d = M.2.1 27 0 d) : RP X' M' en :=
  ⟨h.1, by rw [x 3 3 (Or.inl rfl)]; exact h.2.1, by rw [m4]; exact h.2.2.1, fun e he => (h.2.2.2 e he).same (x _ _ (Or.inr (Or.inl rfl))) (x _ _ (Or.inr (Or.inr rfl))) (x2 _) (m _ _ (Or.inl rfl)) (m _ _ (Or.inr (Or.inl rfl))) (m2 _) (fun j _ => m _ _ (Or.inr (Or.inr rfl)))⟩
theorem RN.same {X M X' M' : MS} {en q : Nat} (h : RN X M en q) (x : ∀ k, k < q → X'.1 4 k 0 = X.1 4 k 0) (m : ∀ k, k < q → M'.1 30 0 k = M.1 30 0 k) (m2 : ∀ d, M'.1 26 0 d = M.1 26 0 d) : RN X' M' en q := fun k hk => by
  rw [x k hk, m k hk]
  obtain ⟨a, a1, a2, a3, a4⟩ := h k hk
  exact ⟨a, a1, a2, a3, by rw [m2]; exact a4⟩
theorem mFault_set {S : MS} (h : S.1 8 0 28 = 0) (w a : Int32) : (mFaultS S w a).1 8 0 28 = w ∧ (mFaultS S w a).1 8 0 29 = a := by
  rw [mFaultS, if_pos h]
  exact ⟨by rw [wI_o _ _ _ _ _ _ _ _ (by decide), wI_rd], wI_rd ..⟩
/-- a NAME is taken -/
theorem QR.name {X M : MS} {n en q : Nat} (h : QR X M n) (hq : q ≤ 5) (hD : M.1 8 0 28 = 0 → X.1 2 0 3 = nI q ∧ RP X M en ∧ RN X M en q) : QR (takeS (nameS0 X) 0 255 6) (rn1 M q) n ∧ ((rn1 M q).1 8 0 28 = 0 → takeV (nameS0 X) 0 255 = mTakeV M ∧ ∃ a, a < en ∧ mTakeV M = nI a ∧ M.1 26 0 a = 3) := by
  obtain ⟨a, b, c, d⟩ := h
  have hn := a.1
  by_cases hf : M.1 8 0 28 = 0
  · obtain ⟨x3, hP, hN⟩ := hD hf
    obtain ⟨p, hp, hx, hm⟩ := c hf
    have hxf : X.1 5 0 1 = 0 := b.trans hf
    by_cases hpn : p = n
    · subst hpn
      have hb : nameBad X = false := by
        rw [nameBad, hx, byteT_e a]; simp
      have hS : nameS0 X = X := by rw [nameS0, hb]; rfl
      have h2 := (QR.raw ⟨a, b, c, d⟩ 6).2
      have hmn : M.1 8 0 31 = M.1 8 0 1 := by rw [hm, a.2.2.1]
      have e3 : mTakeS M = mFaultS M 1 (M.1 8 0 1) := by rw [mTakeS, if_pos hf, if_pos hmn]
      have e4 : (mTakeS M).1 8 0 28 = 1 := by rw [e3]; exact (mFault_set hf _ _).1
      have hr : rn1 M q = mTakeS M := by
        unfold rn1
        split
        · rfl
        · rw [mFaultS, if_neg (by rw [e4]; decide)]
      rw [hS, hr]
      exact ⟨h2, fun z => by rw [e4] at z; exact absurd z (by decide)⟩
    · have hpl : p < n := by omega
      obtain ⟨y, hy, hB, hM⟩ := byteT_n a hpl
      have hmn : ¬ M.1 8 0 31 = M.1 8 0 1 := by rw [hm, a.2.2.1, nI_eq (by omega) (by omega)]; exact hpn
      have e3 : mTakeS M = wI M 8 0 31 (nI (p + 1)) := by rw [mTakeS, if_pos hf, if_neg hmn, hm, nI_1]
      have e3f : (mTakeS M).1 8 0 28 = 0 := by rw [e3, wI_o _ _ _ _ _ _ _ _ (by decide)]; exact hf
      have e4 : mTakeV M = nI y := by rw [mTakeV, if_pos hf, if_neg hmn, hm, nI_c (by omega), hM]
      have hP' : RP X (mTakeS M) en := hP.same (fun _ _ _ => rfl) (fun _ => rfl) (mTakeS_o _ _ _ _ (by decide) (by decide) (by decide)) (fun b d hb => mTakeS_o _ _ _ _ (by omega) (by omega) (by omega)) (fun d => by rw [mTakeS_2])
      have hN' : RN X (mTakeS M) en q := hN.same (fun _ _ => rfl) (fun k _ => mTakeS_o _ _ _ _ (fun z => absurd z.1 (by decide)) (fun z => absurd z.1 (by decide)) (fun z => absurd z.1 (by decide))) (fun d => mTakeS_o _ _ _ _ (fun z => absurd z.1 (by decide)) (fun z => absurd z.1 (by decide)) (fun z => absurd z.1 (by decide)))
      have hcan := can_eq hP' hN' hy e3f
      have hnb : nameBad X = !canTo X (nI y) q := by
        rw [nameBad, hx, hB, hxf, x3, nI_c (by omega), decide_eq_false (nI_m1' hy)]; simp
      cases hg : rnGood (mTakeS M) y q with
      | true =>
        rw [hcan, hg] at hnb
        have hS : nameS0 X = X := by rw [nameS0, hnb]; rfl
        have hr : rn1 M q = mTakeS M := by rw [rn1, e4, nI_c (by omega), if_pos hg]
        obtain ⟨v1, h2⟩ := QR.raw (show QR X M n from ⟨a, b, c, d⟩) 6
        rw [hS, hr]
        refine ⟨h2, fun _ => ⟨v1, y, ?_, e4, ?_⟩⟩
        · have h0 := rnGood_0 hg
          simp only [rn0, Bool.and_eq_true, decide_eq_true_eq] at h0
          have h1 := h0.1.2
          have := hP.1
          rw [hP'.2.2.1, nI_leI (by omega) (by omega)] at h1
          omega
        · have h0 := rnGood_0 hg
          simp only [rn0, Bool.and_eq_true, decide_eq_true_eq] at h0
          rw [← h0.2]
          exact (mTakeS_o _ _ _ _ (fun z => absurd z.1 (by decide)) (fun z => absurd z.1 (by decide)) (fun z => absurd z.1 (by decide))).symm
      | false =>
        rw [hcan, hg] at hnb
        have hS : nameS0 X = wI X 5 0 1 6 := by rw [nameS0, hnb]; rfl
        have hw : (wI X 5 0 1 6).1 5 0 1 = 6 := wI_rd ..
        have hT : takeS (nameS0 X) 0 255 6 = wI X 5 0 1 6 := by rw [hS, takeS, if_neg (by rw [hw]; decide)]
        have e3p : (mTakeS M).1 8 0 31 = nI (p + 1) := by rw [e3, wI_rd]
        have hr : rn1 M q = mFaultS (mTakeS M) 6 (nI p) := by rw [rn1, e4, nI_c (by omega), if_neg (by rw [hg]; decide), e3p, nI_m1]
        obtain ⟨f1, f2⟩ := mFault_set e3f 6 (nI p)
        rw [hT, hr]
        refine ⟨⟨a.same (wI_o _ _ _ _ _ _ _ _ (by decide)) ?_ (fun j => wI_o _ _ _ _ _ _ _ _ (fun z => absurd z.1 (by decide))) (fun j => ?_), ?_, ?_, ?_⟩, fun z => by rw [f1] at z; exact absurd z (by decide)⟩
        · rw [mFaultS_o _ _ _ _ _ _ (by decide) (by decide), e3, wI_o _ _ _ _ _ _ _ _ (by decide)]
        · rw [mFaultS_o _ _ _ _ _ _ (fun z => absurd z.1 (by decide)) (fun z => absurd z.1 (by decide)), e3, wI_o _ _ _ _ _ _ _ _ (fun z => absurd z.1 (by decide))]
        · rw [hw, f1]
        · intro z; rw [f1] at z; exact absurd z (by decide)
        · intro _; rw [f2, wI_o _ _ _ _ _ _ _ _ (by decide), hx]
  · have hxf : ¬ X.1 5 0 1 = 0 := by rw [b]; exact hf
    have hb : nameBad X = false := by rw [nameBad, decide_eq_false hxf]; rfl
    have hS : nameS0 X = X := by rw [nameS0, hb]; rfl
    have eM : mTakeS M = M := by rw [mTakeS, if_neg hf]
    have hr : rn1 M q = M := by
      rw [rn1, eM]
      split
      · rfl
      · rw [mFaultS, if_neg hf]
    rw [hS, hr, takeS, if_neg hxf]
    exact ⟨⟨a, b, c, d⟩, fun z => absurd z hf⟩
