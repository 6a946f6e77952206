/-! the two sides read alike: METHODS, the FILE -/
def RMx (X M : MS) (q t g lc st L mp : Nat) : Prop := (X.1 4 q 1 = nI t ∧ M.1 31 0 q = nI t ∧ t ≤ 3 ∧ t ≤ lc) ∧ (X.1 4 q 2 = nI g ∧ M.1 33 0 q = nI g ∧ 1 ≤ g ∧ g ≤ 2) ∧ HF X M q lc st L ∧ (X.1 4 q 6 = nI mp ∧ M.1 38 0 q = nI mp ∧ mp ≤ 8 ∧ ∃ pl : Nat → Nat, (∀ j, j < mp → MO X M q L lc st j (pl j)) ∧ ∀ j j', j < j' → j' < mp → pl j < pl j') ∧ LK M 32 (3 * q) t 1 (X.1 4 q 8) ∧ CK X M q L
theorem LK.same {M M' : MS} {kd a i lw : Nat} {w : Int32} (h : LK M kd a i lw w) (m : ∀ l, l < i → M'.1 kd 0 (a + l) = M.1 kd 0 (a + l)) : LK M' kd a i lw w := by
  obtain ⟨lo, a1, a2, a3⟩ := h
  exact ⟨lo, a1, fun l hl => by rw [m l hl]; exact a2 l hl, a3⟩
theorem RMx.same {X M X' M' : MS} {q t g lc st L mp : Nat} (h : RMx X M q t g lc st L mp) (x : ∀ b d, b = 4 ∨ b = 14 ∨ b = 15 ∨ b = 16 → ¬ (b = 4 ∧ d = 7) → X'.1 b q d = X.1 b q d) (m : ∀ b d, 30 ≤ b → b ≤ 42 → d / sz b = q → M'.1 b 0 d = M.1 b 0 d) : RMx X' M' q t g lc st L mp := by
  obtain ⟨⟨a1, a2, a3, a4⟩, ⟨b1, b2, b3, b4⟩, hH, ⟨c1, c2, c3, pl, c4, c5⟩, d1, d2⟩ := h
  have x4 : ∀ d, d ≠ 7 → X'.1 4 q d = X.1 4 q d := fun d hd => x 4 d (Or.inl rfl) (fun z => hd z.2)
  have m1 : ∀ b, 30 ≤ b → b ≤ 42 → sz b = 1 → M'.1 b 0 q = M.1 b 0 q := fun b h1 h2 h3 => m b q h1 h2 (by rw [h3, Nat.div_one])
  have hl := hH.1
  have hs := hH.2.2.1
  refine ⟨⟨(x4 1 (by decide)).trans a1, (m1 31 (by decide) (by decide) rfl).trans a2, a3, a4⟩, ⟨(x4 2 (by decide)).trans b1, (m1 33 (by decide) (by decide) rfl).trans b2, b3, b4⟩, hH.same (fun d hd => x4 d (by omega)) (fun b hb => m1 b (by omega) (by omega) (by rcases hb with rfl | rfl | rfl <;> rfl)), ⟨(x4 6 (by decide)).trans c1, (m1 38 (by decide) (by decide) rfl).trans c2, c3, pl, fun j hj => ?_, c5⟩, ?_, fun j hj => ?_⟩
  · exact (c4 j hj).same hl hs (x 15 j (by decide) (by omega)) (x 16 j (by decide) (by omega)) (m 39 _ (by decide) (by decide) (by show (8 * q + j) / 8 = q; omega)) (m 41 _ (by decide) (by decide) (by show (8 * q + j) / 8 = q; omega)) (fun i hi => m 42 _ (by decide) (by decide) (by show (6 * (8 * q + j) + i) / 48 = q; omega)) (fun i hi => m 40 _ (by decide) (by decide) (by show (6 * (8 * q + j) + i) / 48 = q; omega))
  · rw [x4 8 (by decide)]
    exact d1.same (fun l hl => m 32 _ (by decide) (by decide) (by show (3 * q + l) / 3 = q; omega))
  · obtain ⟨b, e1, e2, e3⟩ := d2 j hj
    exact ⟨b, e1, (x 14 j (by decide) (by omega)).trans e2, (m 37 _ (by decide) (by decide) (by show (48 * q + j) / 48 = q; have := hH.2.2.2.2.1; omega)).trans e3⟩
theorem KW0 : KW 0 0 (fun _ => 0) (fun _ => 0) := KW.zero
theorem QR.meth {X M : MS} {n q en : Nat} (h : QR X M n) (hf : M.1 8 0 28 = 0) (hq : q < 5) (h3 : X.1 2 0 3 = nI q) (hP : RP X M en) (hN : RN X M en q) : QR (mtS X) (mmS M q) n ∧ ((mmS M q).1 8 0 28 = 0 → (mtS X).1 2 0 3 = nI (q + 1) ∧ RP (mtS X) (mmS M q) en ∧ RN (mtS X) (mmS M q) en (q + 1) ∧ (mtS X).1 4 q 7 = 0 ∧ ∃ t g lc st L mp, RMx (mtS X) (mmS M q) q t g lc st L mp) := by
  have hmq : mtQ X = q := by rw [mtQ, h3, nI_c (by omega)]
  obtain ⟨n1, n2⟩ := h.name (show q ≤ 5 by omega) (fun _ => ⟨h3, hP, hN⟩)
  have eX1 : mt1 X = wI (takeS (nameS0 X) 0 255 6) 4 q 0 (takeV (nameS0 X) 0 255) := by rw [mt1, hmq]
  have q1 : QR (mt1 X) (rnS M q) n := by
    rw [eX1]
    exact QR.same (n1.wX (by decide)) (fun _ _ _ => rfl) (fun d _ => wI_o _ _ _ _ _ _ _ _ (fun z => absurd z.1 (by decide))) (fun j => wI_o _ _ _ _ _ _ _ _ (fun z => absurd z.1 (by decide)))
  generalize hX1 : mt1 X = X1 at q1 eX1
  have q1b : QR (wI (wI X1 4 q 7 0) 4 q 8 0) (rnS M q) n := (q1.wX (by decide)).wX (by decide)
  obtain ⟨p1, p2, p3⟩ := q1b.put (q := q) (sl := 1) (kd := 31) (i := q) (lo := 0) (up := 3) (w := 3) (by decide) (by decide) (by decide)
  have e1 : wI (takeS (wI (wI X1 4 q 7 0) 4 q 8 0) 0 3 3) 4 q 1 (takeV (wI (wI X1 4 q 7 0) 4 q 8 0) 0 3) = hd1 X1 q := rfl
  have f1 : setT (rnS M q) 31 q 0 3 3 = mm1 M q := rfl
  rw [e1, f1] at p1 p2
  rw [f1] at p3
  obtain ⟨t, ht, hT⟩ := mmTk M q
  have tX : (hd1 X1 q).1 4 q 1 = nI t := p2.trans hT
  have z8 : (hd1 X1 q).1 4 q 8 = 0 := by rw [hd1, wI_o _ _ _ _ _ _ _ _ (fun z => absurd z.2.2 (by decide)), takeS_o _ _ _ _ _ _ _ (by decide), wI_rd]
  have z7 : (hd1 X1 q).1 4 q 7 = 0 := by rw [hd1, wI_o _ _ _ _ _ _ _ _ (fun z => absurd z.2.2 (by decide)), takeS_o _ _ _ _ _ _ _ (by decide), wI_o _ _ _ _ _ _ _ _ (fun z => absurd z.2.2 (by decide)), wI_rd]
  obtain ⟨q2, l2⟩ := QR.head t 0 (hd1 X1 q) (mm1 M q) p1 (by omega) (fun _ => by rw [z8]; exact ⟨fun _ => 0, KW.zero, fun l hl => absurd hl (Nat.not_lt_zero _), fun _ _ => rfl⟩)
  have e2 : headGo q t 0 (hd1 X1 q) = hd2 X1 q := by rw [hd2, tX, nI_c (by omega)]
  have f2 : fillGo 32 (3 * q) 1 2 t 0 (mm1 M q) = mm2 M q := by rw [mm2, hT, nI_c (by omega)]
  rw [e2, f2] at q2 l2
  rw [Nat.zero_add] at l2
  obtain ⟨p4, p5, p6⟩ := q2.put (q := q) (sl := 2) (kd := 33) (i := q) (lo := 1) (up := 2) (w := 7) (by decide) (by decide) (by decide)
  have e3 : wI (takeS (hd2 X1 q) 1 2 7) 4 q 2 (takeV (hd2 X1 q) 1 2) = hd3 X1 q := rfl
  have f3 : setT (mm2 M q) 33 q 1 2 7 = mm3 M q := rfl
  rw [e3, f3] at p4 p5
  rw [f3] at p6
  have o2 : ∀ d, d ≠ 8 → (hd2 X1 q).1 4 q d = (hd1 X1 q).1 4 q d := fun d hd => by rw [hd2, headGo_o _ _ _ _ (by decide) (fun z => hd z.2.2)]
  have o3 : ∀ d, d ≠ 2 → (hd3 X1 q).1 4 q d = (hd2 X1 q).1 4 q d := fun d hd => by rw [hd3, wI_o _ _ _ _ _ _ _ _ (fun z => hd z.2.2), takeS_o _ _ _ _ _ _ _ (by decide)]
  have t3 : (hd3 X1 q).1 4 q 1 = nI t := by rw [o3 1 (by decide), o2 1 (by decide)]; exact tX
  have tM3 : (mm3 M q).1 31 0 q = nI t := by rw [mm3, setT_any _ _ _ _ _ _ _ _ (by decide) (fun z => absurd z.1 (by decide)), mm2, fillGo_any _ _ _ _ _ _ (by decide) _ _ _ (fun z => absurd z (by decide))]; exact hT
  obtain ⟨p7, p8, p9⟩ := p4.put (q := q) (sl := 3) (kd := 34) (i := q) (lo := nI t) (up := 6) (w := 3) (by decide) (by decide) (by decide)
  have e4 : wI (takeS (hd3 X1 q) (nI t) 6 3) 4 q 3 (takeV (hd3 X1 q) (nI t) 6) = hd4 X1 q := by rw [hd4, t3]
  have f4 : setT (mm3 M q) 34 q (nI t) 6 3 = mm4 M q := by rw [mm4, tM3]
  rw [e4, f4] at p7 p8
  rw [f4] at p9
  have o4 : ∀ d, d ≠ 3 → (hd4 X1 q).1 4 q d = (hd3 X1 q).1 4 q d := fun d hd => by rw [hd4, wI_o _ _ _ _ _ _ _ _ (fun z => hd z.2.2), takeS_o _ _ _ _ _ _ _ (by decide)]
  obtain ⟨r1, r2, r3⟩ := p7.put (q := q) (sl := 4) (kd := 35) (i := q) (lo := 1) (up := 6) (w := 3) (by decide) (by decide) (by decide)
  have e5 : wI (takeS (hd4 X1 q) 1 6 3) 4 q 4 (takeV (hd4 X1 q) 1 6) = mt2 X := by rw [mt2, hmq, hX1]; rfl
  have f5 : setT (mm4 M q) 35 q 1 6 3 = mm5 M q := rfl
  rw [e5, f5] at r1 r2
  rw [f5] at r3
  have o5 : ∀ d, d ≠ 4 → (mt2 X).1 4 q d = (hd4 X1 q).1 4 q d := fun d hd => by rw [← e5, wI_o _ _ _ _ _ _ _ _ (fun z => hd z.2.2), takeS_o _ _ _ _ _ _ _ (by decide)]
  obtain ⟨r4, r5, r6⟩ := r1.put (q := q) (sl := 5) (kd := 36) (i := q) (lo := 1) (up := 48) (w := 3) (by decide) (by decide) (by decide)
  have e6 : wI (takeS (mt2 X) 1 48 3) 4 q 5 (takeV (mt2 X) 1 48) = code1 (mt2 X) q := rfl
  have f6 : setT (mm5 M q) 36 q 1 48 3 = mm6 M q := rfl
  rw [e6, f6] at r4 r5
  rw [f6] at r6
  have o6 : ∀ d, d ≠ 5 → (code1 (mt2 X) q).1 4 q d = (mt2 X).1 4 q d := fun d hd => by rw [code1, wI_o _ _ _ _ _ _ _ _ (fun z => hd z.2.2), takeS_o _ _ _ _ _ _ _ (by decide)]
  obtain ⟨L, hL, hLM⟩ := mmLn M q
  have LX : (code1 (mt2 X) q).1 4 q 5 = nI L := r5.trans hLM
  obtain ⟨q7, c7⟩ := QR.code L 0 (code1 (mt2 X) q) (mm6 M q) r4 (by omega) (fun j hj => absurd hj (Nat.not_lt_zero _))
  have e7 : codeGo q L 0 (code1 (mt2 X) q) = mt3 X := by rw [mt3, hmq, codeS, LX, nI_c (by omega)]
  have f7 : qcGo q L 0 (mm6 M q) = mm7 M q := by rw [mm7, hLM, nI_c (by omega)]
  rw [e7, f7] at q7 c7
  rw [Nat.zero_add] at c7
  have o7 : ∀ d, (mt3 X).1 4 q d = (code1 (mt2 X) q).1 4 q d := fun d => by rw [← e7, codeGo_o _ _ _ _ (by decide) (fun z => absurd z.1 (by decide))]
  have q7b : QR (wI (mt3 X) 4 q 6 0) (mm7 M q) n := q7.wX (by decide)
  obtain ⟨v8, q8⟩ := q7b.tk 0 8 3 (by decide)
  obtain ⟨mp, hmp, hMP⟩ := mmMp M q
  have vM : mTknV (mm7 M q) 0 8 3 = nI mp := by rw [← hMP, mm8, setT_rd]
  have q8b : QR (takeS (wI (mt3 X) 4 q 6 0) 0 8 3) (mm8 M q) n := by rw [mm8]; exact q8.setM (by decide) (by decide)
  have e8 : mt4 X = rmGo q mp 0 (takeS (wI (mt3 X) 4 q 6 0) 0 8 3) := by rw [mt4, hmq, mapsS, v8, vM, nI_c (by omega)]
  have f8 : mmS M q = qmGo q mp 0 (mm8 M q) := by rw [mmS, hMP, nI_c (by omega)]
  have o8 : ∀ b d, b ≠ 5 → ¬ (b = 4 ∧ d = 6) → (takeS (wI (mt3 X) 4 q 6 0) 0 8 3).1 b q d = (mt3 X).1 b q d := fun b d hb hd => by rw [takeS_o _ _ _ _ _ _ _ hb, wI_o _ _ _ _ _ _ _ _ (fun z => hd ⟨z.1, z.2.2⟩)]
  have eX : mtS X = wI (mt4 X) 2 0 3 ((mt4 X).1 2 0 3 + 1) := rfl
  have lift : ∀ Y N : MS, QR Y N n → QR (wI Y 2 0 3 (Y.1 2 0 3 + 1)) N n := fun Y N hY => hY.wX (by decide)
  by_cases hz8 : (mm8 M q).1 8 0 28 = 0
  · have hz7 : (mm7 M q).1 8 0 28 = 0 := setT_f (kd := 38) (by decide) hz8
    have hz6 : (mm6 M q).1 8 0 28 = 0 := by rw [← f7] at hz7; exact qcGo_f _ _ _ hz7
    have hz5 : (mm5 M q).1 8 0 28 = 0 := setT_f (kd := 36) (by decide) hz6
    have hz4 : (mm4 M q).1 8 0 28 = 0 := setT_f (kd := 35) (by decide) hz5
    have hz3 : (mm3 M q).1 8 0 28 = 0 := by rw [← f4] at hz4; exact setT_f (kd := 34) (by decide) hz4
    have hz2 : (mm2 M q).1 8 0 28 = 0 := setT_f (kd := 33) (by decide) hz3
    have hz1 : (mm1 M q).1 8 0 28 = 0 := by rw [← f2] at hz2; exact fillGo_f (by decide) _ _ _ hz2
    have hz0 : (rnS M q).1 8 0 28 = 0 := setT_f (kd := 31) (by decide) hz1
    have hzr : (rn1 M q).1 8 0 28 = 0 := by rw [rnS, wI_o _ _ _ _ _ _ _ _ (fun z => absurd z.1 (by decide))] at hz0; exact hz0
    obtain ⟨g, g1, g2, g3⟩ := mIn_N (p6 hz3) (a := 1) (b := 2) rfl rfl (by decide) (by decide)
    obtain ⟨lc, u1, u2, u3⟩ := mIn_N (p9 hz4) (a := t) (b := 6) rfl rfl (by decide) (by omega)
    obtain ⟨st, w1, w2, w3⟩ := mIn_N (r3 hz5) (a := 1) (b := 6) rfl rfl (by decide) (by decide)
    obtain ⟨L', x1, x2, x3⟩ := mIn_N (r6 hz6) (a := 1) (b := 48) rfl rfl (by decide) (by decide)
    have hLL : L' = L := by rw [hLM, nI_eq (by omega) (by omega)] at x3; exact x3.symm
    subst hLL
    have k8 : ∀ d, d ≠ 6 → d ≠ 5 → (takeS (wI (mt3 X) 4 q 6 0) 0 8 3).1 4 q d = (mt2 X).1 4 q d := fun d h6 h5 => by rw [o8 4 d (by decide) (fun z => h6 z.2), o7, o6 d h5]
    have n34 : (mm8 M q).1 34 0 q = nI lc := by rw [mm8_45 M q 34 q (Or.inl rfl), mm5, setT_any _ _ _ _ _ _ _ _ (by decide) (fun z => absurd z.1 (by decide))]; exact u3
    have n35 : (mm8 M q).1 35 0 q = nI st := by rw [mm8_45 M q 35 q (Or.inr rfl)]; exact w3
    have n36 : (mm8 M q).1 36 0 q = nI L' := by rw [mm8, setT_any _ _ _ _ _ _ _ _ (by decide) (fun z => absurd z.1 (by decide)), ← f7, qcGo_any _ _ _ (by decide) _ _ _ (fun z => absurd z (by decide))]; exact hLM
    have hH : HF (takeS (wI (mt3 X) 4 q 6 0) 0 8 3) (mm8 M q) q lc st L' := ⟨u2, w1, w2, x1, x2, by rw [k8 3 (by decide) (by decide), o5 3 (by decide), p8]; exact u3, n34, by rw [k8 4 (by decide) (by decide), r2]; exact w3, n35, by rw [o8 4 5 (by decide) (by omega), o7]; exact LX, n36⟩
    have hMF : MF (takeS (wI (mt3 X) 4 q 6 0) 0 8 3) (mm8 M q) q L' lc st 0 0 := ⟨by rw [takeS_o _ _ _ _ _ _ _ (by decide), wI_rd]; rfl, fun _ => rfl, fun z => absurd z (by decide), Nat.zero_le _, fun _ => 0, fun j hj => absurd hj (Nat.not_lt_zero _), fun j j' _ hj => absurd hj (Nat.not_lt_zero _)⟩
    obtain ⟨q9, h9, m9⟩ := QR.maps mp 0 0 0 _ _ q8b (by omega) hH (fun _ => ⟨rfl, hMF⟩)
    rw [← e8, ← f8] at q9 h9 m9
    rw [Nat.zero_add] at m9
    refine ⟨by rw [eX]; exact lift _ _ q9, fun hz => ?_⟩
    obtain ⟨lw, y1, -, -, -, pl, y5, y6⟩ := m9 hz
    have o9 : ∀ b d, b ≠ 5 → ¬ (b = 15 ∨ b = 16 ∨ b = 4 ∧ d = 6) → (mt4 X).1 b q d = (mt3 X).1 b q d := fun b d hb hd => by rw [e8, rmGo_o _ _ _ _ hb (fun z => hd z.2), o8 b d hb (fun z => hd (Or.inr (Or.inr z)))]
    have xS : ∀ b d, b ≠ 2 → (mtS X).1 b q d = (mt4 X).1 b q d := fun b d hb => by rw [eX, wI_o _ _ _ _ _ _ _ _ (fun z => hb z.1)]
    have oM : ∀ b d, b ≠ 8 → b < 39 → (mmS M q).1 b 0 d = (mm8 M q).1 b 0 d := fun b d hb h39 => by rw [f8, qmGo_any u2 w2 hb (fun z => by omega) (fun z => by omega) _ _ _ (by omega) n34 n35]
    have oM8 : ∀ b d, b ≠ 8 → b ≠ 38 → b ≠ 37 → b < 39 → (mmS M q).1 b 0 d = (mm6 M q).1 b 0 d := fun b d hb h38 h37 h39 => by rw [oM b d hb h39, mm8, setT_any _ _ _ _ _ _ _ _ hb (fun z => h38 z.1), ← f7, qcGo_any _ _ _ hb _ _ _ (fun z => absurd z h37)]
    have oM5 : ∀ b d, b ≠ 8 → b < 34 → (mmS M q).1 b 0 d = (mm3 M q).1 b 0 d := fun b d hb h34 => by rw [oM8 b d hb (by omega) (by omega) (by omega), mm6, setT_any _ _ _ _ _ _ _ _ hb (fun z => by omega), mm5, setT_any _ _ _ _ _ _ _ _ hb (fun z => by omega), mm4, setT_any _ _ _ _ _ _ _ _ hb (fun z => by omega)]
    obtain ⟨na, a, na1, na2, na3⟩ := n2 hzr
    have hx4 : ∀ d, d ≠ 6 → d ≠ 5 → d ≠ 4 → (mtS X).1 4 q d = (hd4 X1 q).1 4 q d := fun d h6 h5 h4 => by rw [xS 4 d (by decide), o9 4 d (by decide) (by omega), o7, o6 d h5, o5 d h4]
    have hx1 : ∀ d, d ≠ 6 → d ≠ 5 → d ≠ 4 → d ≠ 3 → d ≠ 2 → d ≠ 8 → (mtS X).1 4 q d = (hd1 X1 q).1 4 q d := fun d h6 h5 h4 h3 h2 h8 => by rw [hx4 d h6 h5 h4, o4 d h3, o3 d h2, o2 d h8]
    have x23 : (mtS X).1 2 0 3 = nI (q + 1) := by
      have g : ∀ x, ¬ (2 = 4 ∧ (0 : Nat) = q ∧ (3 : Nat) = x) := fun x z => absurd z.1 (by decide)
      have hm23 : (mt4 X).1 2 0 3 = nI q := by
        rw [e8, rmGo_o _ _ _ _ (by decide) (fun z => by have := z.2; omega), takeS_o _ _ _ _ _ _ _ (by decide), wI_o _ _ _ _ _ _ _ _ (fun z => absurd z.1 (by decide)), ← e7, codeGo_o _ _ _ _ (by decide) (fun z => absurd z.1 (by decide)), code1, wI_o _ _ _ _ _ _ _ _ (fun z => absurd z.1 (by decide)), takeS_o _ _ _ _ _ _ _ (by decide), mt2, hd5_o _ _ _ _ _ (by decide) (fun z => absurd z.1 (by decide)), hX1, eX1, wI_o _ _ _ _ _ _ _ _ (fun z => absurd z.1 (by decide)), takeS_o _ _ _ _ _ _ _ (by decide), nameS0_o _ _ _ _ (by decide)]; exact h3
      rw [eX, wI_rd, hm23, nI_1]
    refine ⟨x23, ?_, fun k hk => ?_, ?_, t, g, lc, st, L', mp, ?_⟩
    · exact hP.same (fun b d hb => mtS_o X b 0 d (by omega) (by omega) (by omega)) (fun d => by rw [mtS_2]) (by rw [mmS_o _ _ _ _ _ (by decide) (by decide) (by decide) (fun z => absurd z.1 (by decide)) (by decide)]) (fun b d hb => mmS_any M (by omega) (by omega)) (fun d => by rw [mmS_2])
    · by_cases hkq : k = q
      · subst hkq
        refine ⟨a, na1, ?_, ?_, ?_⟩
        · rw [hx1 0 (by decide) (by decide) (by decide) (by decide) (by decide) (by decide), hd1, wI_o _ _ _ _ _ _ _ _ (fun z => absurd z.2.2 (by decide)), takeS_o _ _ _ _ _ _ _ (by decide), wI_o _ _ _ _ _ _ _ _ (fun z => absurd z.2.2 (by decide)), wI_o _ _ _ _ _ _ _ _ (fun z => absurd z.2.2 (by decide)), eX1, wI_rd, na, na2]
        · rw [mmS_nm]; exact na2
        · rw [mmS_any M (by decide) (by omega)]; exact na3
      · obtain ⟨a, a1, a2, a3, a4⟩ := hN k (by omega)
        refine ⟨a, a1, ?_, ?_, ?_⟩
        · rw [mtS_o X 4 k 0 (by decide) (fun z => absurd z.1 (by decide)) (fun z => hkq (z.1.trans hmq))]; exact a2
        · rw [mmS_any M (by decide) (fun z => hkq (by have := z.2.2; rw [show sz 30 = 1 from rfl, Nat.div_one] at this; exact this))]; exact a3
        · rw [mmS_any M (by decide) (by omega)]; exact a4
    · rw [hx1 7 (by decide) (by decide) (by decide) (by decide) (by decide) (by decide)]; exact z7
    · refine ⟨⟨?_, ?_, ht, u1⟩, ⟨?_, ?_, g1, g2⟩, ?_, ⟨?_, ?_, hmp, pl, fun j hj => ?_, y6⟩, ?_, fun j hj => ?_⟩
      · rw [hx1 1 (by decide) (by decide) (by decide) (by decide) (by decide) (by decide)]; exact tX
      · rw [oM5 31 q (by decide) (by decide)]; exact tM3
      · rw [hx4 2 (by decide) (by decide) (by decide), o4 2 (by decide), p5]; exact g3
      · rw [oM5 33 q (by decide) (by decide)]; exact g3
      · exact h9.same (fun d _ => xS 4 d (by decide)) (fun _ _ => rfl)
      · rw [xS 4 6 (by decide)]; exact y1
      · rw [oM 38 q (by decide) (by decide)]; exact hMP
      · obtain ⟨v1, -⟩ := y5 j hj
        exact v1.same u2 w2 (xS 15 j (by decide)) (xS 16 j (by decide)) rfl rfl (fun _ _ => rfl) (fun _ _ => rfl)
      · have l3 := l2 hz2
        rw [hx4 8 (by decide) (by decide) (by decide), o4 8 (by decide), o3 8 (by decide)]
        exact l3.same (fun l hl => by rw [oM5 32 _ (by decide) (by decide), mm3, setT_any _ _ _ _ _ _ _ _ (by decide) (fun z => absurd z.1 (by decide))])
      · obtain ⟨b, b1, b2, b3⟩ := c7 j hj
        refine ⟨b, b1, ?_, ?_⟩
        · rw [xS 14 j (by decide), o9 14 j (by decide) (by omega)]; exact b2
        · rw [oM 37 _ (by decide) (by decide), mm8, setT_any _ _ _ _ _ _ _ _ (by decide) (fun z => absurd z.1 (by decide))]; exact b3
  · have hs : ∀ (k : Nat) (low : Int32), rmGo q k low (takeS (wI (mt3 X) 4 q 6 0) 0 8 3) = takeS (wI (mt3 X) 4 q 6 0) 0 8 3 := fun k low => by
      cases k with
      | zero => rfl
      | succ k => rw [rmGo, if_neg (by rw [q8b.2.1]; exact hz8)]
    have hsM : ∀ (k : Nat), qmGo q k 0 (mm8 M q) = mm8 M q := fun k => by
      cases k with
      | zero => rfl
      | succ k => rw [qmGo, if_neg hz8]
    refine ⟨by rw [eX, f8, hsM, e8, hs]; exact lift _ _ q8b, fun hz => ?_⟩
    rw [f8, hsM] at hz
    exact absurd hz hz8
