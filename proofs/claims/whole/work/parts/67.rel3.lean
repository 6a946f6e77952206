/-! the two sides read alike: entries, all of them -/
theorem mEnt_at (M : MS) {e q : Nat} (hq : q ≠ e) : (mEnt M e).1 26 0 q = M.1 26 0 q ∧ (mEnt M e).1 28 0 q = M.1 28 0 q ∧ (mEnt M e).2.1 27 0 q = M.2.1 27 0 q ∧ ∀ j, j < 8 → (mEnt M e).1 29 0 (8 * q + j) = M.1 29 0 (8 * q + j) := by
  have a26 : (mEnt1 M e).1 26 0 q = M.1 26 0 q := by rw [mEnt1, wI_o _ _ _ _ _ _ _ _ (fun z => hq z.2.2), mTknS_o _ _ _ _ _ _ _ (fun z => absurd z.1 (by decide)) (fun z => absurd z.1 (by decide)) (fun z => absurd z.1 (by decide))]
  have a28 : (mEnt1 M e).1 28 0 q = M.1 28 0 q := by rw [mEnt1, wI_o _ _ _ _ _ _ _ _ (fun z => absurd z.1 (by decide)), mTknS_o _ _ _ _ _ _ _ (fun z => absurd z.1 (by decide)) (fun z => absurd z.1 (by decide)) (fun z => absurd z.1 (by decide))]
  have a29 : ∀ d, (mEnt1 M e).1 29 0 d = M.1 29 0 d := fun d => by rw [mEnt1, wI_o _ _ _ _ _ _ _ _ (fun z => absurd z.1 (by decide)), mTknS_o _ _ _ _ _ _ _ (fun z => absurd z.1 (by decide)) (fun z => absurd z.1 (by decide)) (fun z => absurd z.1 (by decide))]
  have a2 : (mEnt1 M e).2 = M.2 := mTknS_2 _ _ _ _
  have o : ∀ k v b d, b ≠ 8 → (mLongGo k v (mEnt1 M e)).2.1 b 0 d = (mEnt1 M e).1 b 0 d := fun k v b d hb => mLongGo_o b 0 d (fun z => hb z.1) (fun z => hb z.1) (fun z => hb z.1) k v _
  unfold mEnt
  by_cases g1 : mTknV M 1 3 4 = 1
  · rw [if_pos g1, wL_1, o _ _ _ _ (by decide), o _ _ _ _ (by decide), wL_o _ _ _ _ _ _ _ _ (fun z => hq z.2.2), mLongGo_2, a2]
    exact ⟨a26, a28, rfl, fun j _ => by rw [o _ _ _ _ (by decide)]; exact a29 _⟩
  · rw [if_neg g1]
    by_cases g2 : mTknV M 1 3 4 = 2
    · rw [if_pos g2, wL_1, o _ _ _ _ (by decide), o _ _ _ _ (by decide), wL_o _ _ _ _ _ _ _ _ (fun z => hq z.2.2), mLongGo_2, a2]
      exact ⟨a26, a28, rfl, fun j _ => by rw [o _ _ _ _ (by decide)]; exact a29 _⟩
    · rw [if_neg g2]
      by_cases g3 : mTknV M 1 3 4 = 3
      · rw [if_pos g3]
        obtain ⟨w, hw, hW⟩ := mTknV_rng (mEnt1 M e) (lo := 1) (M := 8) (w := 3) (n := 8) rfl (by decide) (by decide)
        have b26 : (mEnt2 M e).1 26 0 q = M.1 26 0 q := by rw [mEnt2, wI_o _ _ _ _ _ _ _ _ (fun z => absurd z.1 (by decide)), mTknS_o _ _ _ _ _ _ _ (fun z => absurd z.1 (by decide)) (fun z => absurd z.1 (by decide)) (fun z => absurd z.1 (by decide))]; exact a26
        have b28 : (mEnt2 M e).1 28 0 q = M.1 28 0 q := by rw [mEnt2, wI_o _ _ _ _ _ _ _ _ (fun z => hq z.2.2), mTknS_o _ _ _ _ _ _ _ (fun z => absurd z.1 (by decide)) (fun z => absurd z.1 (by decide)) (fun z => absurd z.1 (by decide))]; exact a28
        have b29 : ∀ d, (mEnt2 M e).1 29 0 d = M.1 29 0 d := fun d => by rw [mEnt2, wI_o _ _ _ _ _ _ _ _ (fun z => absurd z.1 (by decide)), mTknS_o _ _ _ _ _ _ _ (fun z => absurd z.1 (by decide)) (fun z => absurd z.1 (by decide)) (fun z => absurd z.1 (by decide))]; exact a29 d
        have b2 : (mEnt2 M e).2 = M.2 := (mTknS_2 _ _ _ _).trans a2
        rw [hW, nI_c (by omega)]
        refine ⟨?_, ?_, ?_, fun j hj => ?_⟩
        · rw [letGo_o _ _ _ _ (fun z => absurd z.1 (by decide)) (fun z => absurd z.1 (by decide)) (fun z => absurd z.1 (by decide)) (by decide)]; exact b26
        · rw [letGo_o _ _ _ _ (fun z => absurd z.1 (by decide)) (fun z => absurd z.1 (by decide)) (fun z => absurd z.1 (by decide)) (by decide)]; exact b28
        · rw [letGo_2, b2]
        · rw [letGo_at _ _ _ _ _ (by omega)]; exact b29 _
      · rw [if_neg g3]
        exact ⟨a26, a28, by rw [a2], fun j _ => a29 _⟩
theorem QR.ent {X M : MS} {n e : Nat} (h : QR X M n) (he : e < 16) (hE : M.1 8 0 28 = 0 → X.1 3 0 3 = nI e) : QR (entS X) (mEnt M e) n ∧ ((mEnt M e).1 8 0 28 = 0 → (entS X).1 3 0 3 = nI (e + 1) ∧ RE (entS X) (mEnt M e) e ∧ ∀ q, q < e → RE X M q → RE (entS X) (mEnt M e) q) := by
  obtain ⟨e1, h1⟩ := h.tk 1 3 4 (by decide)
  have h2 : QR (takeS X 1 3 4) (mEnt1 M e) n := h1.same (fun _ _ _ => rfl) (fun d _ => wI_o _ _ _ _ _ _ _ _ (fun z => absurd z.1 (by decide))) (fun j => wI_o _ _ _ _ _ _ _ _ (fun z => absurd z.1 (by decide)))
  have f1 : (mEnt1 M e).1 8 0 28 = (mTknS M 1 3 4).1 8 0 28 := wI_o _ _ _ _ _ _ _ _ (fun z => absurd z.1 (by decide))
  have t1 : (mEnt1 M e).1 26 0 e = mTknV M 1 3 4 := wI_rd ..
  have happ : ∀ (Y N : MS) (t z : Int32) (v : Int64), QR Y N n → QR (appP Y t z v) N n := fun Y N t z v hY => hY.same (fun b d hb => appP_o _ _ _ _ _ _ _ (by rcases hb with rfl | rfl | rfl <;> decide) (by rcases hb with rfl | rfl | rfl <;> decide) (by rcases hb with rfl | rfl | rfl <;> decide)) (fun _ _ => rfl) (fun _ => rfl)
  have hwL : ∀ (Y N : MS) (v : Int64), QR Y N n → QR Y (wL N 27 0 e v) n := fun Y N v hY => hY.same (fun _ _ _ => rfl) (fun _ _ => rfl) (fun _ => rfl)
  have x3 : ∀ (Y : MS), (∀ a b d, a ≠ 5 → Y.1 a b d = X.1 a b d) → Y.2 = X.2 → M.1 8 0 28 = 0 → ∀ t z v, (appP Y t z v).1 3 0 3 = nI (e + 1) ∧ (appP Y t z v).1 11 0 e = t ∧ (appP Y t z v).1 12 0 e = z ∧ (appP Y t z v).2.1 13 0 e = v ∧ (∀ q, q ≠ e → (appP Y t z v).1 11 0 q = X.1 11 0 q ∧ (appP Y t z v).1 12 0 q = X.1 12 0 q ∧ (appP Y t z v).2.1 13 0 q = X.2.1 13 0 q) := by
    intro Y hY hY2 hf t z v
    obtain ⟨a1, a2, a3, a4, a5⟩ := app_all he ((hY 3 0 3 (by decide)).trans (hE hf)) t z v
    refine ⟨a1, a2, a3, a4, fun q hq => ?_⟩
    obtain ⟨c1, c2, c3⟩ := a5 q hq
    exact ⟨c1.trans (hY _ _ _ (by decide)), c2.trans (hY _ _ _ (by decide)), c3.trans (by rw [hY2])⟩
  have hk : ∀ (Y : MS), (∀ q, q ≠ e → Y.1 11 0 q = X.1 11 0 q ∧ Y.1 12 0 q = X.1 12 0 q ∧ Y.2.1 13 0 q = X.2.1 13 0 q) → ∀ q, q < e → RE X M q → RE Y (mEnt M e) q := by
    intro Y hY q hq hR
    obtain ⟨c1, c2, c3⟩ := hY q (by omega)
    obtain ⟨b1, b2, b3, b4⟩ := mEnt_at M (show q ≠ e by omega)
    exact hR.same c1 c2 c3 b1 b2 b3 b4
  by_cases g1 : mTknV M 1 3 4 = 1
  · have eX : entS X = appP (manyGo 0 255 4 0 (takeS X 1 3 4)).2 1 4 (manyGo 0 255 4 0 (takeS X 1 3 4)).1.toInt32.toInt64 := by rw [entS, e1, if_pos g1, g1]
    have eM : mEnt M e = wL (mLongGo 4 0 (mEnt1 M e)).2 27 0 e (mLongGo 4 0 (mEnt1 M e)).1.toInt32.toInt64 := by rw [mEnt, if_pos g1]
    obtain ⟨e4, h4⟩ := QR.long h2 4 0 _ _ h2
    refine ⟨by rw [eX, eM]; exact happ _ _ _ _ _ (hwL _ _ _ h4), fun hz => ?_⟩
    have hf : M.1 8 0 28 = 0 := by
      rw [eM, wL_1] at hz
      exact mTknS_f (f1 ▸ mLongGo_f _ _ _ hz)
    obtain ⟨a1, a2, a3, a4, a5⟩ := x3 (manyGo 0 255 4 0 (takeS X 1 3 4)).2 (fun a b d ha => by rw [manyGo_o _ _ _ _ _ ha, takeS_o _ _ _ _ _ _ _ ha]) (by rw [manyGo_2, takeS_2]) hf 1 4 (manyGo 0 255 4 0 (takeS X 1 3 4)).1.toInt32.toInt64
    rw [← eX] at a1 a2 a3 a4 a5
    refine ⟨a1, ?_, hk _ a5⟩
    have m26 : (mEnt M e).1 26 0 e = 1 := by rw [eM, wL_1, mLongGo_o _ _ _ (fun z => absurd z.1 (by decide)) (fun z => absurd z.1 (by decide)) (fun z => absurd z.1 (by decide)), t1]; exact g1
    have m27 : (mEnt M e).2.1 27 0 e = (mLongGo 4 0 (mEnt1 M e)).1.toInt32.toInt64 := by rw [eM, wL_rd]
    exact ⟨a2.trans m26.symm, Or.inl ⟨m26, by rw [a4, m27, e4], _, m27⟩⟩
  · by_cases g2 : mTknV M 1 3 4 = 2
    · have eX : entS X = appP (manyGo 0 255 8 0 (takeS X 1 3 4)).2 2 8 (dCanon (manyGo 0 255 8 0 (takeS X 1 3 4)).1) := by rw [entS, e1, if_neg g1, if_pos g2, g2]
      have eM : mEnt M e = wL (mLongGo 8 0 (mEnt1 M e)).2 27 0 e (mLongGo 8 0 (mEnt1 M e)).1 := by rw [mEnt, if_neg g1, if_pos g2]
      obtain ⟨e4, h4⟩ := QR.long h2 8 0 _ _ h2
      refine ⟨by rw [eX, eM]; exact happ _ _ _ _ _ (hwL _ _ _ h4), fun hz => ?_⟩
      have hf : M.1 8 0 28 = 0 := by
        rw [eM, wL_1] at hz
        exact mTknS_f (f1 ▸ mLongGo_f _ _ _ hz)
      obtain ⟨a1, a2, a3, a4, a5⟩ := x3 (manyGo 0 255 8 0 (takeS X 1 3 4)).2 (fun a b d ha => by rw [manyGo_o _ _ _ _ _ ha, takeS_o _ _ _ _ _ _ _ ha]) (by rw [manyGo_2, takeS_2]) hf 2 8 (dCanon (manyGo 0 255 8 0 (takeS X 1 3 4)).1)
      rw [← eX] at a1 a2 a3 a4 a5
      refine ⟨a1, ?_, hk _ a5⟩
      have m26 : (mEnt M e).1 26 0 e = 2 := by rw [eM, wL_1, mLongGo_o _ _ _ (fun z => absurd z.1 (by decide)) (fun z => absurd z.1 (by decide)) (fun z => absurd z.1 (by decide)), t1]; exact g2
      have m27 : (mEnt M e).2.1 27 0 e = (mLongGo 8 0 (mEnt1 M e)).1 := by rw [eM, wL_rd]
      exact ⟨a2.trans m26.symm, Or.inr (Or.inl ⟨m26, by rw [a4, m27, e4]⟩)⟩
    · by_cases g3 : mTknV M 1 3 4 = 3
      · obtain ⟨e5, h5⟩ := h2.tk 1 8 3 (by decide)
        obtain ⟨w, hw, hW⟩ := mTknV_rng (mEnt1 M e) (lo := 1) (M := 8) (w := 3) (n := 8) rfl (by decide) (by decide)
        have h6 : QR (takeS (takeS X 1 3 4) 1 8 3) (mEnt2 M e) n := h5.same (fun _ _ _ => rfl) (fun d _ => wI_o _ _ _ _ _ _ _ _ (fun z => absurd z.1 (by decide))) (fun j => wI_o _ _ _ _ _ _ _ _ (fun z => absurd z.1 (by decide)))
        have eX : entS X = appP (manyGo 97 122 w 0 (takeS (takeS X 1 3 4) 1 8 3)).2 3 (nI w) (manyGo 97 122 w 0 (takeS (takeS X 1 3 4) 1 8 3)).1 := by
          rw [entS, e1, if_neg g1, if_neg g2, g3, e5, hW, nI_c (by omega)]
        have eM : mEnt M e = letGo e w 0 (mEnt2 M e) := by rw [mEnt, if_neg g1, if_neg g2, if_pos g3, hW, nI_c (by omega)]
        obtain ⟨h7, h8⟩ := QR.let w 0 0 _ _ h6 (by omega) (fun _ => ⟨fun _ => 0, fun j hj => absurd hj (Nat.not_lt_zero _), rfl⟩)
        refine ⟨by rw [eX, eM]; exact happ _ _ _ _ _ h7, fun hz => ?_⟩
        rw [eM] at hz
        have hz2 := letGo_f _ _ _ _ hz
        rw [mEnt2, wI_o _ _ _ _ _ _ _ _ (fun z => absurd z.1 (by decide))] at hz2
        have hf : M.1 8 0 28 = 0 := mTknS_f (f1 ▸ mTknS_f hz2)
        obtain ⟨c, c1, c2, c3⟩ := mIn_N (mTkn_in (by decide) hz2) (a := 1) (b := 8) rfl rfl (by decide) (by decide)
        have hcw : c = w := by rw [hW, nI_eq (by omega) (by omega)] at c3; exact c3.symm
        obtain ⟨f, f2, f3⟩ := h8 hz
        rw [Nat.zero_add] at f2 f3
        obtain ⟨a1, a2, a3, a4, a5⟩ := x3 (manyGo 97 122 w 0 (takeS (takeS X 1 3 4) 1 8 3)).2 (fun a b d ha => by rw [manyGo_o _ _ _ _ _ ha, takeS_o _ _ _ _ _ _ _ ha, takeS_o _ _ _ _ _ _ _ ha]) (by rw [manyGo_2, takeS_2, takeS_2]) hf 3 (nI w) (manyGo 97 122 w 0 (takeS (takeS X 1 3 4) 1 8 3)).1
        rw [← eX] at a1 a2 a3 a4 a5
        refine ⟨a1, ?_, hk _ a5⟩
        have m26 : (mEnt M e).1 26 0 e = 3 := by rw [eM, letGo_o _ _ _ _ (fun z => absurd z.1 (by decide)) (fun z => absurd z.1 (by decide)) (fun z => absurd z.1 (by decide)) (by decide), mEnt2, wI_o _ _ _ _ _ _ _ _ (fun z => absurd z.1 (by decide)), mTknS_o _ _ _ _ _ _ _ (fun z => absurd z.1 (by decide)) (fun z => absurd z.1 (by decide)) (fun z => absurd z.1 (by decide)), t1]; exact g3
        have m28 : (mEnt M e).1 28 0 e = nI w := by rw [eM, letGo_o _ _ _ _ (fun z => absurd z.1 (by decide)) (fun z => absurd z.1 (by decide)) (fun z => absurd z.1 (by decide)) (by decide), mEnt2, wI_rd]; exact hW
        exact ⟨a2.trans m26.symm, Or.inr (Or.inr ⟨m26, w, f, by omega, hw, a3, m28, eM ▸ f2, by rw [a4, f3]⟩)⟩
      · have hbad : ¬ (mEnt1 M e).1 8 0 28 = 0 := fun z => by
          rw [f1] at z
          obtain ⟨c, c1, c2, c3⟩ := mIn_N (mTkn_in (by decide) z) (a := 1) (b := 3) rfl rfl (by decide) (by decide)
          rw [c3, show (1 : Int32) = nI 1 from rfl, nI_eq (by omega) (by decide)] at g1
          rw [c3, show (2 : Int32) = nI 2 from rfl, nI_eq (by omega) (by decide)] at g2
          rw [c3, show (3 : Int32) = nI 3 from rfl, nI_eq (by omega) (by decide)] at g3
          omega
        have hx : ¬ (takeS X 1 3 4).1 5 0 1 = 0 := by rw [h2.2.1]; exact hbad
        have eM : mEnt M e = mEnt1 M e := by rw [mEnt, if_neg g1, if_neg g2, if_neg g3]
        have ev : takeV (takeS X 1 3 4) 1 8 = 0 := by rw [takeV, if_neg hx]
        have es : takeS (takeS X 1 3 4) 1 8 3 = takeS X 1 3 4 := by rw [takeS, if_neg hx]
        have eX : entS X = appP (takeS X 1 3 4) (mTknV M 1 3 4) 0 0 := by
          rw [entS, e1, if_neg g1, if_neg g2, ev, es]; rfl
        refine ⟨by rw [eX, eM]; exact happ _ _ _ _ _ h2, fun hz => ?_⟩
        rw [eM] at hz
        exact absurd hz hbad
/-- the POOL so far -/
def PI (X M : MS) (n e : Nat) : Prop := QR X M n ∧ (M.1 8 0 28 = 0 → X.1 3 0 3 = nI e ∧ ∀ q, q < e → RE X M q)
theorem PI.go {n : Nat} : ∀ (k e : Nat) (X M : MS), e + k ≤ 16 → PI X M n e → PI (poolGo k X) (mPoolGo k e M) n (e + k)
  | 0, e, X, M, _, h => h
  | k + 1, e, X, M, he, h => by
    obtain ⟨h1, h2⟩ := h
    rw [poolGo, mPoolGo]
    by_cases hf : M.1 8 0 28 = 0
    · rw [if_pos (h1.2.1.trans hf), if_pos hf, show e + (k + 1) = e + 1 + k by omega]
      obtain ⟨h3, h4⟩ := h1.ent (show e < 16 by omega) (fun z => (h2 z).1)
      refine PI.go k (e + 1) _ _ (by omega) ⟨h3, fun hz => ?_⟩
      obtain ⟨a1, a2, a3⟩ := h4 hz
      refine ⟨a1, fun q hq => ?_⟩
      by_cases hqe : q = e
      · rw [hqe]; exact a2
      · exact a3 q (by omega) ((h2 hf).2 q (by omega))
    · rw [if_neg (by rw [h1.2.1]; exact hf), if_neg hf]
      exact ⟨h1, fun z => absurd z hf⟩
theorem QR.pool {X M : MS} {n : Nat} (h : QR X M n) (hX : X.1 3 0 3 = 0) : ∃ en, en ≤ 16 ∧ (mPool M).1 8 0 4 = nI en ∧ PI (poolS X) (mPool M) n en := by
  obtain ⟨e1, h1⟩ := h.tk 0 16 3 (by decide)
  obtain ⟨en, he, hE⟩ := mTknV_rng M (lo := 0) (M := 16) (w := 3) (n := 16) rfl (by decide) (by decide)
  have h2 : QR (takeS X 0 16 3) (mPool1 M) n := h1.same (fun _ _ _ => rfl) (fun d hd => wI_o _ _ _ _ _ _ _ _ (fun z => by have := z.2.2; omega)) (fun j => wI_o _ _ _ _ _ _ _ _ (fun z => absurd z.1 (by decide)))
  refine ⟨en, he, ?_, ?_⟩
  · rw [mPool, mPoolGo_o _ _ _ (by decide) (by decide) (by decide) (by decide) (by decide) (by decide), mPool1, wI_rd]; exact hE
  · rw [poolS, mPool, e1, hE, nI_c (by omega)]
    have := PI.go en 0 _ _ (by omega) (show PI (takeS X 0 16 3) (mPool1 M) n 0 from ⟨h2, fun _ => ⟨by rw [takeS_o _ _ _ _ _ _ _ (by decide)]; exact hX, fun q hq => absurd hq (Nat.not_lt_zero _)⟩⟩)
    rw [Nat.zero_add] at this
    exact this
