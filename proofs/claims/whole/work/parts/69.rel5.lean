/-! the two sides read alike: heads, CODE, kinds of a MAP -/
theorem fillGo_at (kd a : Nat) (lo up : Int32) (h8 : kd ≠ 8) (d : Nat) : ∀ (n l : Nat) (S : MS), (d < a + l ∨ a + l + n ≤ d) → (fillGo kd a lo up n l S).1 kd 0 d = S.1 kd 0 d
  | 0, _, _, _ => rfl
  | n + 1, l, S, h => by
    rw [fillGo, fillGo_at kd a lo up h8 d n (l + 1) _ (by omega), setT_o _ _ _ _ _ _ _ _ _ (fun z => h8 z.1) (fun z => h8 z.1) (fun z => h8 z.1) (fun z => by have := z.2.2; omega)]
theorem setT_2 (S : MS) (kd i : Nat) (lo up w : Int32) : (setT S kd i lo up w).2 = S.2 := mTknS_2 _ _ _ _
theorem fillGo_2 (kd a : Nat) (lo up : Int32) : ∀ (n l : Nat) (S : MS), (fillGo kd a lo up n l S).2 = S.2
  | 0, _, _ => rfl
  | n + 1, l, S => by rw [fillGo, fillGo_2 kd a lo up n, setT_2]
theorem setT_8 {S : MS} {kd i : Nat} {lo up w : Int32} (h8 : kd ≠ 8) (d : Nat) : (setT S kd i lo up w).1 8 0 d = (mTknS S lo up w).1 8 0 d := wI_o _ _ _ _ _ _ _ _ (fun z => h8 z.1.symm)
/-- the model's side of a byte that is put away -/
theorem QR.setM {X M : MS} {n : Nat} {kd i : Nat} {lo up w : Int32} (h : QR X (mTknS M lo up w) n) (h8 : kd ≠ 8) (h24 : kd ≠ 24) : QR X (setT M kd i lo up w) n :=
  h.same (fun _ _ _ => rfl) (fun d _ => setT_8 h8 d) (fun j => wI_o _ _ _ _ _ _ _ _ (fun z => h24 z.1.symm))
theorem QR.wX {X M : MS} {n : Nat} (h : QR X M n) {k i j : Nat} {v : Int32} (hk : k ≠ 1 ∧ k ≠ 5 ∧ k ≠ 9) : QR (wI X k i j v) M n :=
  h.same (fun b d hb => wI_o _ _ _ _ _ _ _ _ (fun z => by have := z.1; rcases hb with rfl | rfl | rfl <;> omega)) (fun _ _ => rfl) (fun _ => rfl)
/-- a byte within bounds is put into a METHOD's row -/
theorem QR.put {X M : MS} {n : Nat} (h : QR X M n) {q sl kd i : Nat} {lo up w : Int32} (hw : ¬ w = 0) (h8 : kd ≠ 8) (h24 : kd ≠ 24) : QR (wI (takeS X lo up w) 4 q sl (takeV X lo up)) (setT M kd i lo up w) n ∧ (wI (takeS X lo up w) 4 q sl (takeV X lo up)).1 4 q sl = (setT M kd i lo up w).1 kd 0 i ∧ ((setT M kd i lo up w).1 8 0 28 = 0 → mIn ((setT M kd i lo up w).1 kd 0 i) lo up = true) := by
  obtain ⟨e, h1⟩ := h.tk lo up w hw
  refine ⟨(h1.setM h8 h24).wX (by decide), ?_, fun z => ?_⟩
  · rw [wI_rd, setT_rd, e]
  · rw [setT_8 h8] at z
    rw [setT_rd]
    exact mTkn_in hw z
/-- kinds of LOCALS so far: those from i on are 0 -/
def LK (M : MS) (kd a i lw : Nat) (w : Int32) : Prop := ∃ lo, KW w 0 (fun _ => 0) lo ∧ (∀ l, l < i → M.1 kd 0 (a + l) = nI (lo l) ∧ lw ≤ lo l ∧ lo l ≤ 2) ∧ ∀ l, i ≤ l → lo l = 0
theorem LK.step {M : MS} {kd a i lw : Nat} {w c : Int32} (h8 : kd ≠ 8) (h : LK M kd a i lw w) (hi : i < 6) (hz : (setT M kd (a + i) (nI lw) 2 7).1 8 0 28 = 0) (hl : lw ≤ 2) (hc : c = mTknV M (nI lw) 2 7) : LK (setT M kd (a + i) (nI lw) 2 7) kd a (i + 1) lw (kWith w (nI i) c) := by
  obtain ⟨lo, a1, a2, a3⟩ := h
  rw [setT_8 h8] at hz
  obtain ⟨j, j1, j2, j3⟩ := mIn_N (mTkn_in (by decide) hz) (a := lw) (b := 2) rfl rfl (by decide) (by omega)
  refine ⟨up lo i j, ?_, fun l hl2 => ?_, fun l hl2 => ?_⟩
  · rw [hc, j3]; exact a1.wth hi (by omega)
  · by_cases hli : l = i
    · rw [hli, up_at, setT_rd]; exact ⟨j3, j1, j2⟩
    · rw [up_ne _ _ hli, setT_o _ _ _ _ _ _ _ _ _ (fun z => h8 z.1) (fun z => h8 z.1) (fun z => h8 z.1) (fun z => by have := z.2.2; omega)]
      exact a2 l (by omega)
  · rw [up_ne _ _ (by omega)]; exact a3 l (by omega)
theorem QR.head {n q : Nat} : ∀ (k i : Nat) (X M : MS), QR X M n → i + k ≤ 3 → (M.1 8 0 28 = 0 → LK M 32 (3 * q) i 1 (X.1 4 q 8)) → QR (headGo q k i X) (fillGo 32 (3 * q) 1 2 k i M) n ∧ ((fillGo 32 (3 * q) 1 2 k i M).1 8 0 28 = 0 → LK (fillGo 32 (3 * q) 1 2 k i M) 32 (3 * q) (i + k) 1 ((headGo q k i X).1 4 q 8))
  | 0, i, X, M, h, _, hL => ⟨h, hL⟩
  | k + 1, i, X, M, h, hi, hL => by
    obtain ⟨e, h1⟩ := h.tk 1 2 7 (by decide)
    rw [headGo, fillGo, show i + (k + 1) = i + 1 + k by omega]
    refine QR.head k (i + 1) _ _ ((h1.setM (by decide) (by decide)).wX (by decide)) (by omega) (fun hz => ?_)
    have hf := setT_f (by decide) hz
    rw [wI_rd]
    exact LK.step (lw := 1) (by decide) (hL hf) (by omega) hz (by decide) e
theorem QR.mk {n a : Nat} : ∀ (k i : Nat) (w : Int32) (X M : MS), QR X M n → i + k ≤ 6 → (M.1 8 0 28 = 0 → LK M 40 a i 0 w) → QR (mkGo k i w X).2 (fillGo 40 a 0 2 k i M) n ∧ ((fillGo 40 a 0 2 k i M).1 8 0 28 = 0 → LK (fillGo 40 a 0 2 k i M) 40 a (i + k) 0 (mkGo k i w X).1)
  | 0, i, w, X, M, h, _, hL => ⟨h, hL⟩
  | k + 1, i, w, X, M, h, hi, hL => by
    obtain ⟨e, h1⟩ := h.tk 0 2 7 (by decide)
    rw [mkGo, fillGo, show i + (k + 1) = i + 1 + k by omega]
    refine QR.mk k (i + 1) _ _ _ (h1.setM (by decide) (by decide)) (by omega) (fun hz => ?_)
    have hf := setT_f (by decide) hz
    exact LK.step (lw := 0) (by decide) (hL hf) (by omega) hz (by decide) e
/-- a MAP's STACK so far -/
def SK (M : MS) (a i : Nat) (lo : Nat → Nat) (w : Int32) : Prop := ∃ st, KW w i st lo ∧ ∀ j, j < i → M.1 42 0 (a + j) = nI (st j) ∧ 1 ≤ st j ∧ st j ≤ 2
theorem QR.md {n a : Nat} {lo : Nat → Nat} : ∀ (k i : Nat) (w : Int32) (X M : MS), QR X M n → i + k ≤ 6 → (M.1 8 0 28 = 0 → SK M a i lo w) → QR (mdGo k w X).2 (fillGo 42 a 1 2 k i M) n ∧ ((fillGo 42 a 1 2 k i M).1 8 0 28 = 0 → SK (fillGo 42 a 1 2 k i M) a (i + k) lo (mdGo k w X).1)
  | 0, i, w, X, M, h, _, hL => ⟨h, hL⟩
  | k + 1, i, w, X, M, h, hi, hL => by
    obtain ⟨e, h1⟩ := h.tk 1 2 7 (by decide)
    rw [mdGo, fillGo, show i + (k + 1) = i + 1 + k by omega]
    refine QR.md k (i + 1) _ _ _ (h1.setM (by decide) (by decide)) (by omega) (fun hz => ?_)
    have hf := setT_f (by decide) hz
    obtain ⟨st, a1, a2⟩ := hL hf
    rw [setT_8 (by decide)] at hz
    obtain ⟨j, j1, j2, j3⟩ := mIn_N (mTkn_in (by decide) hz) (a := 1) (b := 2) rfl rfl (by decide) (by decide)
    refine ⟨up st i j, ?_, fun l hl => ?_⟩
    · rw [e, j3]; exact a1.push (by omega) (by omega)
    · by_cases hli : l = i
      · rw [hli, up_at, setT_rd]; exact ⟨j3, j1, j2⟩
      · rw [up_ne _ _ hli, setT_o _ _ _ _ _ _ _ _ _ (fun z => absurd z.1 (by decide)) (fun z => absurd z.1 (by decide)) (fun z => absurd z.1 (by decide)) (fun z => by have := z.2.2; omega)]
        exact a2 l (by omega)
/-- the CODE so far -/
def CK (X M : MS) (q i : Nat) : Prop := ∀ j, j < i → ∃ b, b < 256 ∧ X.1 14 q j = nI b ∧ M.1 37 0 (48 * q + j) = nI b
theorem mTakeV_b {X M : MS} {n : Nat} (h : QR X M n) : ∃ b, b < 256 ∧ mTakeV M = nI b := by
  by_cases hf : M.1 8 0 28 = 0
  · obtain ⟨p, hp, hx, hm⟩ := h.2.2.1 hf
    have hn := h.1.1
    by_cases hpn : M.1 8 0 31 = M.1 8 0 1
    · exact ⟨0, by decide, by rw [mTakeV, if_pos hf, if_pos hpn]; rfl⟩
    · have : p ≠ n := fun z => hpn (by rw [hm, h.1.2.2.1, z])
      obtain ⟨y, hy, -, hM⟩ := byteT_n h.1 (show p < n by omega)
      exact ⟨y, hy, by rw [mTakeV, if_pos hf, if_neg hpn, hm, nI_c (by omega), hM]⟩
  · exact ⟨0, by decide, by rw [mTakeV, if_neg hf]; rfl⟩
theorem QR.code {n q : Nat} : ∀ (k i : Nat) (X M : MS), QR X M n → i + k ≤ 48 → CK X M q i → QR (codeGo q k i X) (qcGo q k i M) n ∧ CK (codeGo q k i X) (qcGo q k i M) q (i + k)
  | 0, i, X, M, h, _, hL => ⟨h, hL⟩
  | k + 1, i, X, M, h, hi, hL => by
    obtain ⟨e, h1⟩ := h.raw 1
    obtain ⟨b, hb, hB⟩ := mTakeV_b h
    have hg := nI_guard (N := 48) (M := 48) rfl (show i < 48 by omega) (by decide)
    have eX : setCodeM (takeS X 0 255 1) q (nI i) (takeV X 0 255) = wI (takeS X 0 255 1) 14 q i (nI b) := by rw [setCodeM, if_pos hg, nI_c (by omega), e, hB]
    rw [codeGo, qcGo, show i + (k + 1) = i + 1 + k by omega, eX, hB]
    refine QR.code k (i + 1) _ _ (QR.same (h1.wX (by decide)) (fun _ _ _ => rfl) (fun d _ => wI_o _ _ _ _ _ _ _ _ (fun z => absurd z.1 (by decide))) (fun j => wI_o _ _ _ _ _ _ _ _ (fun z => absurd z.1 (by decide)))) (by omega) (fun j hj => ?_)
    by_cases hji : j = i
    · rw [hji]; exact ⟨b, hb, wI_rd .., wI_rd ..⟩
    · obtain ⟨c, c1, c2, c3⟩ := hL j (by omega)
      refine ⟨c, c1, ?_, ?_⟩
      · rw [wI_o _ _ _ _ _ _ _ _ (fun z => hji z.2.2), takeS_o _ _ _ _ _ _ _ (by decide)]; exact c2
      · rw [wI_o _ _ _ _ _ _ _ _ (fun z => by have := z.2.2; omega), mTakeS_o _ _ _ _ (fun z => absurd z.1 (by decide)) (fun z => absurd z.1 (by decide)) (fun z => absurd z.1 (by decide))]; exact c3
/-- a MAP's PLACE -/
theorem QR.place {X M : MS} {n q k L lw : Nat} {low : Int32} (h : QR X M n) (hD : M.1 8 0 28 = 0 → low = nI lw ∧ 1 ≤ L ∧ L ≤ 48 ∧ lw ≤ L ∧ X.1 4 q 5 = nI L ∧ M.1 36 0 q = nI L ∧ (k = 0 → lw = 0) ∧ (0 < k → 0 < lw ∧ M.1 39 0 (8 * q + k - 1) = nI (lw - 1))) (hk : k < 2 ^ 31) : QR (takeS X low (X.1 4 q 5 - 1) 8) (rm1 M q k) n ∧ ((rm1 M q k).1 8 0 28 = 0 → ∃ p, lw ≤ p ∧ p < L ∧ takeV X low (X.1 4 q 5 - 1) = nI p ∧ (rm1 M q k).1 39 0 (8 * q + k) = nI p) := by
  have h39 : ∀ (N : MS), QR (takeS X low (X.1 4 q 5 - 1) 8) N n → QR (takeS X low (X.1 4 q 5 - 1) 8) (wI N 39 0 (8 * q + k) (mTakeV M)) n := fun N hN => hN.same (fun _ _ _ => rfl) (fun d _ => wI_o _ _ _ _ _ _ _ _ (fun z => absurd z.1 (by decide))) (fun j => wI_o _ _ _ _ _ _ _ _ (fun z => absurd z.1 (by decide)))
  have hf39 : (rm1 M q k).1 8 0 28 = (if rmBad (mTakeS M) q k (mTakeV M) = true then mFaultS (mTakeS M) 8 ((mTakeS M).1 8 0 31 - 1) else mTakeS M).1 8 0 28 := wI_o _ _ _ _ _ _ _ _ (fun z => absurd z.1 (by decide))
  obtain ⟨a, b, c, d⟩ := h
  have hn := a.1
  by_cases hf : M.1 8 0 28 = 0
  · obtain ⟨p, hp, hx, hm⟩ := c hf
    obtain ⟨y1, y2, y3, y4, y5, y6, y7, y8⟩ := hD hf
    have hxf : X.1 5 0 1 = 0 := b.trans hf
    have hL1 : (nI L - 1 : Int32) = nI (L - 1) := by
      obtain ⟨z, rfl⟩ : ∃ z, L = z + 1 := ⟨L - 1, by omega⟩
      rw [nI_m1, Nat.add_sub_cancel]
    by_cases hpn : p = n
    · subst hpn
      have e2 : takeS X low (X.1 4 q 5 - 1) 8 = wI X 5 0 1 1 := by rw [takeS, if_pos hxf, hx, byteT_e a, if_pos rfl]
      have e0 : takeS X 0 255 1 = wI X 5 0 1 1 := by rw [takeS, if_pos hxf, hx, byteT_e a, if_pos rfl]
      have h2 := (QR.raw ⟨a, b, c, d⟩ 1).2
      have hmn : M.1 8 0 31 = M.1 8 0 1 := by rw [hm, a.2.2.1]
      have e4 : (mTakeS M).1 8 0 28 = 1 := by rw [mTakeS, if_pos hf, if_pos hmn]; exact (mFault_set hf _ _).1
      have hr : (if rmBad (mTakeS M) q k (mTakeV M) = true then mFaultS (mTakeS M) 8 ((mTakeS M).1 8 0 31 - 1) else mTakeS M) = mTakeS M := by
        split
        · rw [mFaultS, if_neg (by rw [e4]; decide)]
        · rfl
      refine ⟨?_, fun z => ?_⟩
      · rw [rm1, hr]
        exact h39 _ (by rw [e2, ← e0]; exact h2)
      · rw [hf39, hr, e4] at z; exact absurd z (by decide)
    · have hpl : p < n := by omega
      obtain ⟨y, hy, hB, hM⟩ := byteT_n a hpl
      have hmn : ¬ M.1 8 0 31 = M.1 8 0 1 := by rw [hm, a.2.2.1, nI_eq (by omega) (by omega)]; exact hpn
      have e3 : mTakeS M = wI M 8 0 31 (nI (p + 1)) := by rw [mTakeS, if_pos hf, if_neg hmn, hm, nI_1]
      have e3f : (mTakeS M).1 8 0 28 = 0 := by rw [e3, wI_o _ _ _ _ _ _ _ _ (by decide)]; exact hf
      have e3p : (mTakeS M).1 8 0 31 = nI (p + 1) := by rw [e3, wI_rd]
      have e4 : mTakeV M = nI y := by rw [mTakeV, if_pos hf, if_neg hmn, hm, nI_c (by omega), hM]
      have eL : (mTakeS M).1 36 0 q = nI L := by rw [e3, wI_o _ _ _ _ _ _ _ _ (fun z => absurd z.1 (by decide))]; exact y6
      have e39 : (mTakeS M).1 39 0 (8 * q + k - 1) = M.1 39 0 (8 * q + k - 1) := by rw [e3, wI_o _ _ _ _ _ _ _ _ (fun z => absurd z.1 (by decide))]
      have hbad : rmBad (mTakeS M) q k (mTakeV M) = true ↔ (y < lw ∨ L ≤ y) := by
        rw [rmBad, e4, eL, e39, Bool.or_eq_true, Bool.and_eq_true, decide_eq_true_eq, decide_eq_true_eq, decide_eq_true_eq, nI_leI (by omega) (by omega)]
        by_cases hk0 : k = 0
        · have hl0 := y7 hk0
          have hkk : nI k ≤ 0 := by rw [hk0]; decide
          constructor
          · rintro (z | ⟨z, -⟩)
            · exact Or.inr z
            · exact absurd hkk z
          · rintro (z | z)
            · omega
            · exact Or.inl z
        · obtain ⟨z1, z2⟩ := y8 (by omega)
          have hkk : ¬ nI k ≤ 0 := nI_nle (by omega) hk
          rw [z2, nI_ltI (by omega) (by omega)]
          constructor
          · rintro (z | ⟨-, z⟩)
            · exact Or.inr z
            · exact Or.inl (by omega)
          · rintro (z | z)
            · exact Or.inr ⟨hkk, by omega⟩
            · exact Or.inl z
      have i1 : nI y < low ↔ y < lw := by rw [y1, nI_ltI (by omega) (by omega)]
      have i2 : nI y ≤ X.1 4 q 5 - 1 ↔ y < L := by rw [y5, hL1, nI_leI (by omega) (by omega)]; omega
      by_cases hok : y < lw ∨ L ≤ y
      · have e2 : takeS X low (X.1 4 q 5 - 1) 8 = wI X 5 0 1 8 := by
          rw [takeS, if_pos hxf, hx, hB, if_neg (nI_m1' hy)]
          by_cases z : y < lw
          · rw [if_pos (i1.mpr z)]
          · rw [if_neg (fun t => z (i1.mp t)), if_neg (fun t => by have := i2.mp t; omega)]
        have hr : (if rmBad (mTakeS M) q k (mTakeV M) = true then mFaultS (mTakeS M) 8 ((mTakeS M).1 8 0 31 - 1) else mTakeS M) = mFaultS (mTakeS M) 8 (nI p) := by rw [if_pos (hbad.mpr hok), e3p, nI_m1]
        obtain ⟨f1, f2⟩ := mFault_set e3f 8 (nI p)
        refine ⟨?_, fun z => by rw [hf39, hr, f1] at z; exact absurd z (by decide)⟩
        rw [rm1, hr]
        apply h39
        rw [e2]
        refine ⟨a.same (wI_o _ _ _ _ _ _ _ _ (by decide)) ?_ (fun j => wI_o _ _ _ _ _ _ _ _ (fun z => absurd z.1 (by decide))) (fun j => ?_), ?_, ?_, ?_⟩
        · rw [mFaultS_o _ _ _ _ _ _ (by decide) (by decide), e3, wI_o _ _ _ _ _ _ _ _ (by decide)]
        · rw [mFaultS_o _ _ _ _ _ _ (fun z => absurd z.1 (by decide)) (fun z => absurd z.1 (by decide)), e3, wI_o _ _ _ _ _ _ _ _ (fun z => absurd z.1 (by decide))]
        · rw [wI_rd, f1]
        · intro z; rw [f1] at z; exact absurd z (by decide)
        · intro _; rw [f2, wI_o _ _ _ _ _ _ _ _ (by decide), hx]
      · have z1 : ¬ nI y < low := fun t => hok (Or.inl (i1.mp t))
        have z2 : nI y ≤ X.1 4 q 5 - 1 := i2.mpr (by omega)
        have e1 : takeV X low (X.1 4 q 5 - 1) = nI y := by rw [takeV, if_pos hxf, hx, hB, if_neg (nI_m1' hy), if_neg z1, if_pos z2]
        have e2 : takeS X low (X.1 4 q 5 - 1) 8 = wI X 5 0 0 (nI (p + 1)) := by rw [takeS, if_pos hxf, hx, hB, if_neg (nI_m1' hy), if_neg z1, if_pos z2, nI_1]
        have hr : (if rmBad (mTakeS M) q k (mTakeV M) = true then mFaultS (mTakeS M) 8 ((mTakeS M).1 8 0 31 - 1) else mTakeS M) = mTakeS M := if_neg (fun t => hok (hbad.mp t))
        refine ⟨?_, fun _ => ⟨y, by omega, by omega, e1, ?_⟩⟩
        · rw [rm1, hr]
          apply h39
          rw [e2, e3]
          refine ⟨a.same (wI_o _ _ _ _ _ _ _ _ (by decide)) (wI_o _ _ _ _ _ _ _ _ (by decide)) (fun j => wI_o _ _ _ _ _ _ _ _ (fun z => absurd z.1 (by decide))) (fun j => wI_o _ _ _ _ _ _ _ _ (fun z => absurd z.1 (by decide))), ?_, ?_, ?_⟩
          · rw [wI_o _ _ _ _ _ _ _ _ (by decide), wI_o _ _ _ _ _ _ _ _ (by decide)]; exact b
          · intro _; exact ⟨p + 1, by omega, wI_rd .., wI_rd ..⟩
          · intro z; rw [wI_o _ _ _ _ _ _ _ _ (by decide)] at z; exact absurd hf z
        · rw [rm1, wI_rd, e4]
  · have hxf : ¬ X.1 5 0 1 = 0 := by rw [b]; exact hf
    have eM : mTakeS M = M := by rw [mTakeS, if_neg hf]
    have hr : (if rmBad (mTakeS M) q k (mTakeV M) = true then mFaultS (mTakeS M) 8 ((mTakeS M).1 8 0 31 - 1) else mTakeS M) = M := by
      rw [eM]
      split
      · rw [mFaultS, if_neg hf]
      · rfl
    have eX : takeS X low (X.1 4 q 5 - 1) 8 = X := by rw [takeS, if_neg hxf]
    refine ⟨?_, fun z => by rw [hf39, hr] at z; exact absurd z hf⟩
    rw [rm1, hr]
    apply h39
    rw [eX]
    exact ⟨a, b, c, d⟩
