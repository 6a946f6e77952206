/-! KINDS as one number: push, pop, with, fits -/
theorem KW.mk {w : Int32} {d : Nat} {st lo : Nat → Nat} {e : Nat} (hw : w = nI e) (he : e = enK d st lo) (hd : d ≤ 6) (h1 : ∀ i, st i < 4) (h2 : ∀ i, d ≤ i → st i = 0) (h3 : ∀ l, lo l < 4) : KW w d st lo := ⟨by rw [hw, he], hd, h1, h2, h3⟩
theorem nI_sub {a b : Nat} (h : b ≤ a) : nI a - nI b = nI (a - b) := by
  obtain ⟨c, rfl⟩ : ∃ c, a = c + b := ⟨a - b, by omega⟩
  rw [← nI_add, Int32.add_sub_cancel, Nat.add_sub_cancel]
theorem KW.zero : KW 0 0 (fun _ => 0) (fun _ => 0) := KW.mk (e := 0) rfl rfl (by decide) (fun _ => by decide) (fun _ _ => rfl) (fun _ => by decide)
theorem KW.push {w : Int32} {d : Nat} {st lo : Nat → Nat} (h : KW w d st lo) {c : Nat} (hd : d < 6) (hc : c < 4) : KW (kPush w (nI c)) (d + 1) (up st d c) lo := by
  have hl := h.lt
  have hf := enK_st h d hd
  rw [h.2.2.2.1 d (Nat.le_refl _)] at hf
  have hg : ¬ (6 : Int32) ≤ nI d := (nI_guard (N := 6) (M := 6) rfl hd (by decide)).2
  have h4 : c * 4 ^ d ≤ 3 * 4 ^ 5 := Nat.mul_le_mul (by omega) (Nat.pow_le_pow_right (by decide) (by omega))
  have e1 := en6_up (f := st) (j := d) (c := c) hd h.2.2.1
  rw [h.2.2.2.1 d (Nat.le_refl _)] at e1
  refine KW.mk (e := enK d st lo + c * 4 ^ d + 16777216) ?_ ?_ (by omega) (up_lt h.2.2.1 hc) (fun i hi => ?_) h.2.2.2.2
  · rw [kPush, h.depth, if_pos hg, two_nI, w_shlc c hc d (by omega), h.1, w_or (by omega) (by omega) (bt_or hc hf), show (16777216 : Int32) = nI 16777216 from rfl, nI_add]
  · unfold enK; omega
  · rw [up_ne _ _ (by omega)]; exact h.2.2.2.1 i (by omega)
theorem KW.pop {w : Int32} {d : Nat} {st lo : Nat → Nat} (h : KW w (d + 1) st lo) : KW (kPop w) d (up st d 0) lo := by
  have hl := h.lt
  have hd : d < 6 := by have := h.2.1; omega
  have hf := enK_st h d hd
  have e1 := en6_up (f := st) (j := d) (c := 0) hd h.2.2.1
  have hm : (nI (d + 1) - 1 : Int32) = nI d := nI_m1 d
  have hb : enK (d + 1) st lo = enK d (up st d 0) lo + st d * 4 ^ d + 16777216 := by unfold enK; omega
  have h4 : st d * 4 ^ d ≤ 3 * 4 ^ 5 := Nat.mul_le_mul (by have := h.2.2.1 d; omega) (Nat.pow_le_pow_right (by decide) (by omega))
  have hM : (4294967295 - 3 * 4 ^ d : Nat) < 2 ^ 32 := by omega
  refine KW.mk (e := enK d (up st d 0) lo) ?_ rfl (by omega) (up_lt h.2.2.1 (by decide)) (fun i hi => ?_) h.2.2.2.2
  · rw [kPop, h.depth, hm, if_pos (nI_pos (by omega)), two_nI, w_shl3 d (by omega), h.1, w_and (by omega) hM (bt_clr (by omega) (by omega)), hf, show (16777216 : Int32) = nI 16777216 from rfl, nI_sub (by omega)]
    exact congrArg nI (by omega)
  · by_cases hi2 : i = d
    · rw [hi2, up_at]
    · rw [up_ne _ _ hi2]; exact h.2.2.2.1 i (by omega)
theorem KW.wth {w : Int32} {d : Nat} {st lo : Nat → Nat} (h : KW w d st lo) {l c : Nat} (hl6 : l < 6) (hc : c < 4) : KW (kWith w (nI l) (nI c)) d st (up lo l c) := by
  have hl := h.lt
  have hf := enK_lo h l hl6
  have e1 := en6_up (f := lo) (j := l) (c := c) hl6 h.2.2.2.2
  have h46 : (4 : Nat) ^ (6 + l) = 4096 * 4 ^ l := by rw [Nat.pow_add]
  have h4 : c * 4 ^ l ≤ 3 * 4 ^ 5 := Nat.mul_le_mul (by omega) (Nat.pow_le_pow_right (by decide) (by omega))
  have h5 : lo l * 4 ^ l ≤ 3 * 4 ^ 5 := Nat.mul_le_mul (by have := h.2.2.2.2 l; omega) (Nat.pow_le_pow_right (by decide) (by omega))
  have h6 : (4 : Nat) ^ l ≤ 4 ^ 5 := Nat.pow_le_pow_right (by decide) (by omega)
  have hM : (4294967295 - 3 * 4 ^ (6 + l) : Nat) < 2 ^ 32 := by omega
  have hx : (12 : Int32) + 2 * nI l = nI (2 * (6 + l)) := by rw [two_nI, show (12 : Int32) = nI 12 from rfl, nI_add]; congr 1; omega
  have hE : enK d st lo - lo l * 4 ^ (6 + l) = enK d st (up lo l 0) := by
    have e2 := en6_up (f := lo) (j := l) (c := 0) hl6 h.2.2.2.2
    rw [h46, Nat.mul_left_comm]
    unfold enK; omega
  have h0 : KW (nI (enK d st (up lo l 0))) d st (up lo l 0) := ⟨rfl, h.2.1, h.2.2.1, h.2.2.2.1, up_lt h.2.2.2.2 (by decide)⟩
  have hf0 := enK_lo h0 l hl6
  rw [up_at] at hf0
  have hl0 := h0.lt
  refine KW.mk (e := enK d st (up lo l 0) + c * 4 ^ (6 + l)) ?_ ?_ h.2.1 h.2.2.1 h.2.2.2.1 (up_lt h.2.2.2.2 hc)
  · rw [kWith, if_pos (nI_guard (N := 6) (M := 6) rfl hl6 (by decide)), hx, w_shl3 _ (by omega), w_shlc c hc _ (by omega), h.1, w_and (by omega) hM (bt_clr (by omega) (by omega)), hf, hE, w_or (by omega) (by rw [h46, Nat.mul_left_comm]; omega) (bt_or hc hf0)]
  · have e2 := en6_up (f := lo) (j := l) (c := 0) hl6 h.2.2.2.2
    rw [h46, Nat.mul_left_comm]
    unfold enK; omega
theorem and_split (i a b c d : Nat) (hb : b < 2 ^ i) (hd : d < 2 ^ i) : (2 ^ i * a + b) &&& (2 ^ i * c + d) = 2 ^ i * (a &&& c) + (b &&& d) := by
  apply Nat.eq_of_testBit_eq
  intro j
  rw [Nat.testBit_and, Nat.testBit_two_pow_mul_add _ hb, Nat.testBit_two_pow_mul_add _ hd, Nat.testBit_two_pow_mul_add _ (Nat.and_lt_two_pow _ hd)]
  by_cases hj : j < i
  · rw [if_pos hj, if_pos hj, if_pos hj, Nat.testBit_and]
  · rw [if_neg hj, if_neg hj, if_neg hj, Nat.testBit_and]
theorem KW.mask {w : Int32} {d : Nat} {st lo : Nat → Nat} (h : KW w d st lo) : w &&& 117444607 = nI (16777216 * d + en6 st) := by
  have hl := h.lt
  have h1 := en6_lt h.2.2.1
  have h2 := en6_lt h.2.2.2.2
  have h3 := h.2.1
  rw [h.1, show (117444607 : Int32) = nI (2 ^ 24 * 7 + 4095) from rfl]
  refine w_and (by omega) (by decide) ?_
  have hE : enK d st lo = 2 ^ 24 * d + (4096 * en6 lo + en6 st) := by unfold enK; omega
  rw [hE, and_split 24 _ _ _ _ (by omega) (by decide)]
  have e7 : d &&& 7 = d := by
    rw [show 7 = 2 ^ 3 - 1 from rfl, Nat.and_two_pow_sub_one_eq_mod]; omega
  have e4 : (4096 * en6 lo + en6 st) &&& 4095 = en6 st := by
    rw [show 4095 = 2 ^ 12 - 1 from rfl, Nat.and_two_pow_sub_one_eq_mod]; omega
  rw [e7, e4]
theorem en6_inj {f g : Nat → Nat} (hf : ∀ i, f i < 4) (hg : ∀ i, g i < 4) : en6 f = en6 g ↔ ∀ i, i < 6 → f i = g i := by
  constructor
  · intro h i hi
    rw [← en6_at hf i hi, ← en6_at hg i hi, h]
  · intro h
    unfold en6
    rw [h 0 (by decide), h 1 (by decide), h 2 (by decide), h 3 (by decide), h 4 (by decide), h 5 (by decide)]
theorem nI_eq0 {a : Nat} (h : a < 2 ^ 31) : nI a = 0 ↔ a = 0 := nI_eq (b := 0) h (by decide)
/-- kinds K fit those of a map -/
def FitK (d : Nat) (st lo : Nat → Nat) (d' : Nat) (st' lo' : Nat → Nat) : Prop := d = d' ∧ (∀ i, i < 6 → st i = st' i) ∧ ∀ l, l < 6 → lo' l = 0 ∨ lo' l = lo l
theorem fitTo_iff {k m : Int32} {d d' : Nat} {st lo st' lo' : Nat → Nat} (h : KW k d st lo) (h' : KW m d' st' lo') : ∀ n, n ≤ 6 → (fitTo k m n = true ↔ (d = d' ∧ (∀ i, i < 6 → st i = st' i) ∧ ∀ l, l < n → lo' l = 0 ∨ lo' l = lo l))
  | 0, _ => by
    have h1 := en6_lt h.2.2.1
    have h2 := en6_lt h'.2.2.1
    have h3 := h.2.1
    have h4 := h'.2.1
    rw [fitTo, decide_eq_true_eq, h.mask, h'.mask, nI_eq (by omega) (by omega)]
    constructor
    · intro e
      exact ⟨by omega, (en6_inj h.2.2.1 h'.2.2.1).mp (by omega), fun l hl => absurd hl (Nat.not_lt_zero _)⟩
    · rintro ⟨e1, e2, -⟩
      have := (en6_inj h.2.2.1 h'.2.2.1).mpr e2
      omega
  | n + 1, hn => by
    have ih := fitTo_iff h h' n (by omega)
    have b1 := h.2.2.2.2 n
    have b2 := h'.2.2.2.2 n
    rw [fitTo, Bool.and_eq_true, Bool.or_eq_true, decide_eq_true_eq, decide_eq_true_eq, h'.loc (by omega), h.loc (by omega), nI_eq0 (by omega), nI_eq (by omega) (by omega), ih]
    constructor
    · rintro ⟨⟨e1, e2, e3⟩, e4⟩
      refine ⟨e1, e2, fun l hl => ?_⟩
      by_cases hl2 : l = n
      · rw [hl2]; exact e4
      · exact e3 l (by omega)
    · rintro ⟨e1, e2, e3⟩
      exact ⟨⟨e1, e2, fun l hl => e3 l (by omega)⟩, e3 n (by omega)⟩
theorem KW.fits {k m : Int32} {d d' : Nat} {st lo st' lo' : Nat → Nat} (h : KW k d st lo) (h' : KW m d' st' lo') : fitsK k m = true ↔ FitK d st lo d' st' lo' := fitTo_iff h h' 6 (Nat.le_refl _)
theorem KW.nm1 {w : Int32} {d : Nat} {st lo : Nat → Nat} (h : KW w d st lo) : ¬ w = -1 := by
  have hl := h.lt
  rw [h.1]
  exact nI_nm1 hl
