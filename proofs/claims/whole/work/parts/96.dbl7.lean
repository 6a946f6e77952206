/-! DOUBLEs: as INTs, floors, alike -/
theorem dWhole_N {X : Nat} (h : X < 2 ^ 64) : dWhole (lN X) = iI (((X % 2 ^ 63 / 2 ^ 52 : Nat) : Int) - 1023) := by
  rw [dWhole, dAbs_N h, show (52 : Int32) = nI 52 from rfl, q_ushr (by omega) (by decide), lN_i, ← iI_n, show (1023 : Int32) = iI 1023 from rfl, iI_sub]
theorem w_ge {E : Nat} {w : Int} (hE : E < 2048) (hw : -2000 ≤ w ∧ w ≤ 2000) : (iI w ≤ iI ((E : Int) - 1023) ↔ w ≤ (E : Int) - 1023) ∧ (iI ((E : Int) - 1023) ≤ iI w ↔ (E : Int) - 1023 ≤ w) ∧ (iI ((E : Int) - 1023) < iI w ↔ (E : Int) - 1023 < w) := ⟨iI_le (by omega) (by omega), iI_le (by omega) (by omega), iI_lt (by omega) (by omega)⟩
theorem w_sub {E k : Nat} (h : E + k = 1075) : (52 : Int32) - iI ((E : Int) - 1023) = nI k := by
  rw [show (52 : Int32) = iI 52 from rfl, iI_sub, ← iI_n]
  congr 1
  omega
theorem eN_E {m : Nat} (h : 2 ^ 52 ≤ m) : eN m = m / 2 ^ 52 ∧ dgN m = m % 2 ^ 52 + 2 ^ 52 := by
  unfold eN dgN
  rw [if_neg (by omega), if_neg (by omega)]
  exact ⟨rfl, rfl⟩
theorem eN_s {m : Nat} (h : m / 2 ^ 52 < 1023) : eN m < 1023 := by unfold eN; split <;> omega
theorem trunc_0 {s : Bool} {c : Nat} {q : Int} (hc : c < 2 ^ 53) (hq : q ≤ -53) : FP.Core.truncate s c q = 0 := by
  have h1 : 2 ^ 53 ≤ 2 ^ (-q).toNat := Nat.pow_le_pow_right (by decide) (by omega)
  rw [FP.Core.truncate, show q.toNat = 0 by omega, Nat.pow_zero, Nat.mul_one, Nat.div_eq_of_lt (by omega)]
  cases s <;> rfl
theorem trunc_k {s : Bool} {c k : Nat} {q : Int} (hq : q = -(k : Int)) : FP.Core.truncate s c q = FP.Core.signed s (c / 2 ^ k) := by
  rw [FP.Core.truncate, show q.toNat = 0 by omega, show (-q).toNat = k by omega, Nat.pow_zero, Nat.mul_one]
theorem trunc_big {s : Bool} {c : Nat} {q : Int} (hc : 2 ^ 52 ≤ c) (hq : -21 ≤ q) : ∃ m, 2 ^ 31 ≤ m ∧ FP.Core.truncate s c q = FP.Core.signed s m := by
  refine ⟨_, ?_, rfl⟩
  rw [Nat.le_div_iff_mul_le (Nat.two_pow_pos _)]
  have h1 : 2 ^ (-q).toNat ≤ 2 ^ 21 := Nat.pow_le_pow_right (by decide) (by omega)
  have h2 : c ≤ c * 2 ^ q.toNat := Nat.le_mul_of_pos_right _ (Nat.two_pow_pos _)
  have h3 : 2 ^ 31 * 2 ^ (-q).toNat ≤ 2 ^ 31 * 2 ^ 21 := Nat.mul_le_mul_left _ h1
  omega
theorem D_toInt : DB_toInt := fun a ha => by
  have hX := uN_lt a
  rw [a_lN a]
  generalize uN a = X at *
  clear ha
  have hE : X % 2 ^ 63 / 2 ^ 52 < 2048 := by omega
  have hnn := lN_nn hX
  have hd : FP.d2i (lN X).toUInt64 = Int32.ofInt (FP.Core.toInt (-2 ^ 31) (2 ^ 31 - 1) (FP.Core.decode FP.Core.b64 X)) := by
    show FP.Core.toI (FP.Core.decode FP.Core.b64 _) = _
    rw [u_N hX, FP.Core.toI]
  rw [hd, dToInt, dWhole_N hX, dDig_N hX]
  obtain ⟨w1, -, -⟩ := w_ge (w := 0) hE (by omega)
  obtain ⟨-, w2, -⟩ := w_ge (w := 30) hE (by omega)
  have hn : dNan (lN X) = true ↔ 2047 * 2 ^ 52 < X % 2 ^ 63 := by rw [dNan_N hX, decide_eq_true_eq]
  have w1' : (0 : Int32) ≤ iI (((X % 2 ^ 63 / 2 ^ 52 : Nat) : Int) - 1023) ↔ 1023 ≤ X % 2 ^ 63 / 2 ^ 52 := w1.trans (by omega)
  have w2' : iI (((X % 2 ^ 63 / 2 ^ 52 : Nat) : Int) - 1023) ≤ 30 ↔ X % 2 ^ 63 / 2 ^ 52 ≤ 1053 := w2.trans (by omega)
  simp only [w1', w2', hn, hnn]
  by_cases n : 2047 * 2 ^ 52 < X % 2 ^ 63
  · rw [if_pos (Or.inl n), val_Q hX n]; rfl
  by_cases e1 : X % 2 ^ 63 / 2 ^ 52 < 1023
  · rw [if_pos (Or.inr (by omega)), val_N hX (by omega), FP.Core.toInt, trunc_0 dgN_b (by have := eN_s e1; omega)]
    decide
  rw [if_neg (by omega)]
  by_cases i : X % 2 ^ 63 = 2047 * 2 ^ 52
  · rw [if_neg (by omega), val_I hX i, FP.Core.toInt, sB]
    by_cases s : X < 2 ^ 63
    · rw [if_pos s, decide_eq_false (by omega)]; decide
    · rw [if_neg s, decide_eq_true (by omega)]; decide
  obtain ⟨g1, g2⟩ := eN_E (m := X % 2 ^ 63) (by omega)
  have hc := dgN_b (m := X % 2 ^ 63)
  rw [val_N hX (by omega), FP.Core.toInt]
  by_cases b : X % 2 ^ 63 / 2 ^ 52 ≤ 1053
  · obtain ⟨k, hk⟩ : ∃ k, X % 2 ^ 63 / 2 ^ 52 + k = 1075 := ⟨1075 - X % 2 ^ 63 / 2 ^ 52, by omega⟩
    have hs : dgN (X % 2 ^ 63) / 2 ^ k < 2 ^ 31 := by
      rw [Nat.div_lt_iff_lt_mul (Nat.two_pow_pos k)]
      have h1 : 2 ^ 22 ≤ 2 ^ k := Nat.pow_le_pow_right (by decide) (by omega)
      have h2 : 2 ^ 31 * 2 ^ 22 ≤ 2 ^ 31 * 2 ^ k := Nat.mul_le_mul_left _ h1
      omega
    rw [if_pos b, trunc_k (k := k) (by rw [g1]; omega), w_sub hk, q_ushr (by omega) (by omega), lN_i, sB]
    generalize dgN (X % 2 ^ 63) / 2 ^ k = m at *
    by_cases s : X < 2 ^ 63
    · rw [if_pos s, decide_eq_false (by omega), show FP.Core.signed false m = (m : Int) from rfl, show max (-2 ^ 31) (min (2 ^ 31 - 1) (m : Int)) = (m : Int) by omega]
      exact (iI_n m).symm
    · rw [if_neg s, decide_eq_true (by omega), show FP.Core.signed true m = -(m : Int) from rfl, show max (-2 ^ 31) (min (2 ^ 31 - 1) (-(m : Int))) = -(m : Int) by omega, ← iI_n, iI_neg]
      rfl
  · rw [if_neg b]
    obtain ⟨m, m1, m2⟩ := trunc_big (s := sB X) (c := dgN (X % 2 ^ 63)) (q := (eN (X % 2 ^ 63) : Int) - 1075) (by omega) (by omega)
    rw [m2, sB]
    by_cases s : X < 2 ^ 63
    · rw [if_pos s, decide_eq_false (by omega), show FP.Core.signed false m = (m : Int) from rfl, show max (-2 ^ 31) (min (2 ^ 31 - 1) (m : Int)) = (2 ^ 31 - 1 : Int) by omega]
      decide
    · rw [if_neg s, decide_eq_true (by omega), show FP.Core.signed true m = -(m : Int) from rfl, show max (-2 ^ 31) (min (2 ^ 31 - 1) (-(m : Int))) = (-2 ^ 31 : Int) by omega]
      decide
/-! floors -/
theorem n_mask {Z k : Nat} (hZ : Z < 2 ^ 64) : Z &&& ((2 ^ k - 1) ^^^ (2 ^ 64 - 1)) = Z / 2 ^ k * 2 ^ k := by
  apply Nat.eq_of_testBit_eq
  intro i
  rw [Nat.testBit_and, Nat.testBit_xor, Nat.testBit_two_pow_sub_one, Nat.testBit_two_pow_sub_one, Nat.testBit_mul_two_pow, Nat.testBit_div_two_pow]
  by_cases h : i < 64
  · by_cases h2 : i < k
    · rw [decide_eq_true h, decide_eq_true h2, decide_eq_false (show ¬ k ≤ i by omega)]; simp
    · rw [decide_eq_true h, decide_eq_false h2, decide_eq_true (show k ≤ i by omega), show i - k + k = i by omega]; simp
  · have : Z.testBit i = false := Nat.testBit_lt_two_pow (Nat.lt_of_lt_of_le hZ (Nat.pow_le_pow_right (by decide) (by omega)))
    rw [this, Bool.false_and]
    by_cases h2 : k ≤ i
    · rw [show i - k + k = i by omega, this, Bool.and_false]
    · rw [decide_eq_false h2, Bool.false_and]
theorem q_nmask {Z k : Nat} (hZ : Z < 2 ^ 64) (hk : k < 63) : lN Z &&& ((shl64 1 (nI k) - 1) ^^^ (-1)) = lN (Z / 2 ^ k * 2 ^ k) := by
  have hp := Nat.two_pow_pos k
  have hk2 : 2 ^ k < 2 ^ 63 := Nat.pow_lt_pow_right (by decide) hk
  rw [show (-1 : Int64) = lN (2 ^ 64 - 1) from by decide +kernel, show (1 : Int64) = lN 1 from rfl, q_shl _ (by omega), lN_sub (by omega), q_xor, Nat.one_mul]
  have hx : (2 ^ k - 1) ^^^ (2 ^ 64 - 1) < 2 ^ 64 := Nat.xor_lt_two_pow (by omega) (by decide)
  exact q_and hZ hx (n_mask hZ)
theorem q_part {k : Nat} (hk : k < 63) : shl64 1 (nI k) - 1 = lN (2 ^ k - 1) := by
  have hp := Nat.two_pow_pos k
  rw [show (1 : Int64) = lN 1 from rfl, q_shl _ (by omega), lN_sub (by omega), Nat.one_mul]
theorem near_8m (m : Nat) : FP.Core.nearest (m * 8) 8 = m := FP.Core.nearest_exact m (by decide)
/-- the bits of a whole number below 2 to the 52nd -/
theorem whole_bits {s : Bool} {j k : Nat} (h0 : 1 ≤ k) (hk : k ≤ 52) (h1 : 2 ^ 52 ≤ j * 2 ^ k) (h2 : j * 2 ^ k ≤ 2 ^ 53) : FP.Core.encode FP.Core.b64 (FP.Core.roundRatio FP.Core.b64 s j 1 0) = s.toNat * 2 ^ 63 + ((1074 - k) * 2 ^ 52 + j * 2 ^ k) := by
  have hj : 0 < j := Nat.pos_of_ne_zero (fun z => by rw [z, Nat.zero_mul] at h1; omega)
  by_cases c : j * 2 ^ k < 2 ^ 53
  · have e : j * 2 ^ (k + 3) = j * 2 ^ k * 8 := by rw [Nat.pow_add, Nat.mul_assoc]
    rw [rr_up (u := k + 3) (n := 1074 - k) (by decide) hj (Sy.rf j) (Or.inl (Nat.mul_one j).symm) (by omega) (by rw [e]; omega) (Or.inr (by rw [e]; omega)), e, near_8m, enc_set h2 (Or.inr h1), if_pos (by omega)]
  · have e : j * 2 ^ (k + 2) = 2 ^ 52 * 8 := by rw [Nat.pow_add, ← Nat.mul_assoc, show j * 2 ^ k = 2 ^ 53 by omega]
    rw [rr_up (u := k + 2) (n := 1075 - k) (by decide) hj (Sy.rf j) (Or.inl (Nat.mul_one j).symm) (by omega) (by rw [e]; decide) (Or.inr (by rw [e]; decide)), e, near_8m, enc_set (by decide) (Or.inr (by decide)), if_pos (by omega)]
    omega
theorem l2d_bits {i : Int64} {s : Bool} {j k : Nat} (hi : i.toInt = FP.Core.signed s j) (h0 : 1 ≤ k) (hk : k ≤ 52) (h1 : 2 ^ 52 ≤ j * 2 ^ k) (h2 : j * 2 ^ k ≤ 2 ^ 53) : (FP.l2d i).toNat = s.toNat * 2 ^ 63 + ((1074 - k) * 2 ^ 52 + j * 2 ^ k) := by
  have hj : 0 < j := Nat.pos_of_ne_zero (fun z => by rw [z, Nat.zero_mul] at h1; omega)
  have hf : FP.Core.fits FP.Core.b64 (FP.Core.round FP.Core.b64 (FP.Core.ofInt i.toInt)) := FP.Core.round_fits FP.Core.good_b64 _
  show (UInt64.ofNat (FP.Core.encode FP.Core.b64 (FP.Core.round FP.Core.b64 (FP.Core.ofInt i.toInt)))).toNat = _
  rw [enc_N hf, ← whole_bits h0 hk h1 h2, hi, FP.Core.ofInt]
  have e1 : decide (FP.Core.signed s j < 0) = s := by
    cases s
    · exact decide_eq_false (by show ¬ (j : Int) < 0; omega)
    · exact decide_eq_true (by show -(j : Int) < 0; omega)
  have e2 : (FP.Core.signed s j).natAbs = j := by
    cases s
    · show ((j : Int)).natAbs = j; omega
    · show (-(j : Int)).natAbs = j; omega
  rw [e1, e2]; rfl
theorem d2l_fin {X : Nat} (hX : X < 2 ^ 64) (hm : X % 2 ^ 63 < 2047 * 2 ^ 52) : FP.Core.d2l (lN X).toUInt64 = Int64.ofInt (max (-2 ^ 63) (min (2 ^ 63 - 1) (FP.Core.truncate (sB X) (dgN (X % 2 ^ 63)) ((eN (X % 2 ^ 63) : Int) - 1075)))) := by
  show FP.Core.toL (FP.Core.decode FP.Core.b64 _) = _
  rw [u_N hX, FP.Core.toL, val_N hX hm, FP.Core.toInt]
theorem flr_div {s : Nat} {k n r : Nat} (hk : k ≤ 52) (hr : r < 2 ^ k) : (s * 2 ^ 63 + ((1074 - k) * 2 ^ 52 + n * 2 ^ k) + r) / 2 ^ k * 2 ^ k = s * 2 ^ 63 + ((1074 - k) * 2 ^ 52 + n * 2 ^ k) ∧ (s * 2 ^ 63 + ((1074 - k) * 2 ^ 52 + n * 2 ^ k) + r) % 2 ^ k = r := by
  have e63 : (2 : Nat) ^ 63 = 2 ^ (63 - k) * 2 ^ k := by rw [← Nat.pow_add]; congr 1; omega
  have e52 : (2 : Nat) ^ 52 = 2 ^ (52 - k) * 2 ^ k := by rw [← Nat.pow_add]; congr 1; omega
  have e : s * 2 ^ 63 + ((1074 - k) * 2 ^ 52 + n * 2 ^ k) = (s * 2 ^ (63 - k) + ((1074 - k) * 2 ^ (52 - k) + n)) * 2 ^ k := by
    rw [e63, e52, Nat.add_mul, Nat.add_mul]
    congr 1
    · ac_rfl
    · congr 1
      ac_rfl
  rw [e]
  generalize s * 2 ^ (63 - k) + ((1074 - k) * 2 ^ (52 - k) + n) = M
  have hp := Nat.two_pow_pos k
  refine ⟨?_, ?_⟩
  · rw [Nat.mul_comm M, Nat.mul_add_div hp, Nat.div_eq_of_lt hr, Nat.add_zero, Nat.mul_comm]
  · rw [Nat.mul_comm M, Nat.mul_add_mod, Nat.mod_eq_of_lt hr]
theorem l2d_b2 {i : Int64} {s : Bool} {j k A B : Nat} (hA : (1074 - k) * 2 ^ 52 = A) (hB : j * 2 ^ k = B) (hi : i.toInt = FP.Core.signed s j) (h0 : 1 ≤ k) (hk : k ≤ 52) (h1 : 2 ^ 52 ≤ B) (h2 : B ≤ 2 ^ 53) : (FP.l2d i).toNat = s.toNat * 2 ^ 63 + (A + B) := by
  subst hA hB
  exact l2d_bits hi h0 hk h1 h2
theorem flr_d2 {s k n r A B : Nat} (hA : (1074 - k) * 2 ^ 52 = A) (hB : n * 2 ^ k = B) (hk : k ≤ 52) (hr : r < 2 ^ k) : (s * 2 ^ 63 + (A + B) + r) / 2 ^ k * 2 ^ k = s * 2 ^ 63 + (A + B) ∧ (s * 2 ^ 63 + (A + B) + r) % 2 ^ k = r := by
  subst hA hB
  exact flr_div hk hr
theorem flr_h4 {m k : Nat} (h : m / 2 ^ 52 + k = 1075) (h1 : 1023 ≤ m / 2 ^ 52) : (1074 - k) * 2 ^ 52 + (m % 2 ^ 52 + 2 ^ 52) = m := by omega
theorem flr_X {X k A B : Nat} (hX : X < 2 ^ 64) (h : X % 2 ^ 63 / 2 ^ 52 + k = 1075) (h1 : 1023 ≤ X % 2 ^ 63 / 2 ^ 52) (hA : (1074 - k) * 2 ^ 52 = A) (hB : dgN (X % 2 ^ 63) / 2 ^ k * 2 ^ k = B) : X = (sB X).toNat * 2 ^ 63 + (A + B) + dgN (X % 2 ^ 63) % 2 ^ k := by
  have g2 := (eN_E (m := X % 2 ^ 63) (by omega)).2
  have h2 : B + dgN (X % 2 ^ 63) % 2 ^ k = dgN (X % 2 ^ 63) := by rw [← hB, Nat.mul_comm]; exact Nat.div_add_mod _ _
  clear hB
  have h3 := sB_n hX
  have h4 : A + dgN (X % 2 ^ 63) = X % 2 ^ 63 := by
    rw [← hA, g2]
    exact flr_h4 h h1
  clear g2 hA h h1
  have h5 : X = (sB X).toNat * 2 ^ 63 + (A + (B + dgN (X % 2 ^ 63) % 2 ^ k)) := by rw [h2, h4]; exact h3
  rw [Nat.add_assoc, Nat.add_assoc]
  exact h5
theorem flr_C {X k n r A B : Nat} {sx : Bool} {T : Int64} (hA : (1074 - k) * 2 ^ 52 = A) (hB : n * 2 ^ k = B) (hX : X < 2 ^ 64) (hk0 : 1 ≤ k) (hk : k ≤ 52) (hXd : X = sx.toNat * 2 ^ 63 + (A + B) + r) (hr : r < 2 ^ k) (n1 : 2 ^ 52 ≤ B) (n2 : B + 2 ^ k ≤ 2 ^ 53) (hTi : T.toInt = FP.Core.signed sx n) : (if X < 2 ^ 63 then lN X &&& ((shl64 1 (nI k) - 1) ^^^ (-1)) else if (lN X &&& (shl64 1 (nI k) - 1)) = 0 then lN X &&& ((shl64 1 (nI k) - 1) ^^^ (-1)) else (lN X + (shl64 1 (nI k) - 1)) &&& ((shl64 1 (nI k) - 1) ^^^ (-1))).toUInt64 = (if Op.cmpValue (FP.dcmp (FP.l2d T) (lN X).toUInt64) .l ≤ 0 then FP.l2d T else FP.dsub (FP.l2d T) FP.dconst1) ∧ CN (if Op.cmpValue (FP.dcmp (FP.l2d T) (lN X).toUInt64) .l ≤ 0 then FP.l2d T else FP.dsub (FP.l2d T) FP.dconst1) := by
  have hsn : (n + 1) * 2 ^ k = B + 2 ^ k := by rw [← hB]; exact Nat.succ_mul _ _
  have hP1 := Nat.two_pow_pos k
  have hP2 : 2 ^ k ≤ 2 ^ 52 := Nat.pow_le_pow_right (by decide) hk
  have hnn : n ≤ B := by rw [← hB]; exact Nat.le_mul_of_pos_right _ hP1
  have hb := l2d_b2 hA hB hTi hk0 hk n1 (by omega)
  obtain ⟨q1, q2⟩ := flr_d2 (s := sx.toNat) hA hB hk hr
  rw [← hXd] at q1 q2
  have hA2 : A ≤ 1074 * 2 ^ 52 := by rw [← hA]; exact Nat.mul_le_mul_right _ (by omega)
  have hk' := dkey_N (a := (lN X).toUInt64)
  rw [u_N hX] at hk'
  have hn : X % 2 ^ 63 ≤ 9218868437227405312 → (lN X).toUInt64.toNat % 2 ^ 63 ≤ 9218868437227405312 := fun z => by rw [u_N hX]; exact z
  have hq1 := q_nmask hX (show k < 63 by omega)
  have hpart : lN X &&& (shl64 1 (nI k) - 1) = 0 ↔ r = 0 := by
    rw [q_part (by omega), q_mask (by omega) hX, q2, show (0 : Int64) = lN 0 from rfl, q_eq (by omega) (by decide)]
  rw [hq1, q1]
  cases sx with
  | false =>
    clear hpart q1 q2 hq1 hA hB hsn
    rw [show (false).toNat = 0 from rfl, Nat.zero_mul, Nat.zero_add] at hXd hb
    rw [show (false).toNat = 0 from rfl, Nat.zero_mul, Nat.zero_add]
    have tn : (FP.l2d T).toNat % 2 ^ 63 ≤ 9218868437227405312 := by rw [hb]; clear hTi hb hk'; omega
    have l4 := cmp_le (op := .l) tn (hn (by clear hTi hb hk' tn; omega))
    have g1 : ¬ 2 ^ 63 ≤ X := by clear hTi hb hk' tn l4; omega
    have g2 : ¬ 2 ^ 63 ≤ A + B := by clear hTi hb hk' tn l4; omega
    rw [hk', dkey_N, hb, if_neg g1, if_neg g2] at l4
    have g3 : ((A + B : Nat) : Int) ≤ (X : Int) := by clear hTi hb hk' tn l4; omega
    rw [if_pos (Nat.not_le.mp g1), if_pos (l4.mpr g3)]
    exact ⟨eq_N (by rw [q_uN (by clear hTi hb hk' tn l4; omega), hb]), CN_nn tn⟩
  | true =>
    rw [show (true).toNat = 1 from rfl, Nat.one_mul] at hXd hb
    rw [show (true).toNat = 1 from rfl, Nat.one_mul]
    have hTi' : T.toInt = -(n : Int) := hTi
    have tn : (FP.l2d T).toNat % 2 ^ 63 ≤ 9218868437227405312 := by rw [hb]; clear hTi hTi' hb hk' hpart q1 q2 hq1 hA hB hsn; omega
    have l4 := cmp_le (op := .l) tn (hn (by clear hTi hTi' hb hk' hpart q1 q2 hq1 hA hB hsn tn; omega))
    have g1 : 2 ^ 63 ≤ X := by clear hTi hTi' hb hk' hpart q1 q2 hq1 hA hB hsn tn l4; omega
    have g2 : 2 ^ 63 ≤ 2 ^ 63 + (A + B) := Nat.le_add_right _ _
    rw [hk', dkey_N, hb, if_pos g1, if_pos g2] at l4
    rw [if_neg (Nat.not_lt.mpr g1)]
    by_cases r0 : r = 0
    · rw [if_pos (hpart.mpr r0), if_pos (l4.mpr (by clear hTi hTi' hb hk' hpart q1 q2 hq1 hA hB hsn tn l4; omega))]
      exact ⟨eq_N (by rw [q_uN (by clear hTi hTi' hb hk' hpart q1 q2 hq1 hA hB hsn tn l4; omega), hb]), CN_nn tn⟩
    · rw [if_neg (fun z => r0 (hpart.mp z)), if_neg (fun z => by have := l4.mp z; clear hTi hTi' hb hk' hpart q1 q2 hq1 hA hB hsn tn l4; omega)]
      have h1 : FP.dconst1 = FP.Core.l2d 1 := by decide +kernel
      have sm1 : FP.Core.Small53 T := by
        unfold FP.Core.Small53
        rw [hTi']
        clear hTi hTi' hb hk' hpart q1 q2 hq1 hA hB hsn tn l4
        omega
      have hsub : FP.dsub (FP.l2d T) FP.dconst1 = FP.Core.l2d (T - 1) := by
        rw [h1]
        exact FP.Core.dsub_l2d sm1 (by unfold FP.Core.Small53; decide)
      have h1i : (1 : Int64).toInt = 1 := rfl
      have hni : (n : Int) ≤ 2 ^ 53 := by clear hTi hTi' hb hk' hpart q1 q2 hq1 hA hB hsn tn l4; omega
      have hTi2 : (T - 1).toInt = FP.Core.signed true (n + 1) := by
        rw [Jvm.Kit.i64_sub (by rw [hTi', h1i]; clear hXd g1 g2 n1 n2; omega) (by rw [hTi', h1i]; clear hXd g1 g2 n1 n2; omega), hTi', h1i]
        show -(n : Int) - 1 = -((n + 1 : Nat) : Int)
        omega
      have hb2 := l2d_b2 hA hsn hTi2 hk0 hk (by clear hTi hTi' hb hk' hpart q1 q2 hq1 hA hB hsn tn l4; omega) n2
      rw [show (true).toNat = 1 from rfl, Nat.one_mul] at hb2
      obtain ⟨q3, -⟩ := flr_d2 (s := 1) (n := n + 1) (r := r - 1) hA hsn hk (by omega)
      rw [Nat.one_mul] at q3
      have hlt : 2 ^ 63 + (A + (B + 2 ^ k)) + (r - 1) < 2 ^ 64 := by clear hTi hTi' hb hk' hpart q1 q2 hq1 hA hB hsn tn l4 hb2 q3; omega
      have eZ : lN X + (shl64 1 (nI k) - 1) = lN (2 ^ 63 + (A + (B + 2 ^ k)) + (r - 1)) := by
        have e : X + (2 ^ k - 1) = 2 ^ 63 + (A + (B + 2 ^ k)) + (r - 1) := by clear hTi hTi' hb hk' hpart q1 q2 hq1 hA hB hsn tn l4 hb2 q3; omega
        rw [q_part (by omega), lN_add, e]
      rw [eZ, q_nmask hlt (by omega), q3, hsub]
      refine ⟨eq_N ?_, CN_nn ?_⟩
      · rw [q_uN (by clear hTi hTi' hb hk' hpart q1 q2 hq1 hA hB hsn tn l4 hb2 q3; omega)]; exact hb2.symm
      · rw [show (FP.Core.l2d (T - 1)).toNat = _ from hb2]
        clear hTi hTi' hb hk' hpart q1 q2 hq1 hA hB hsn tn l4 hb2 q3
        omega
set_option maxRecDepth 100000 in
theorem D_floor : DB_floor := fun a ha => by
  have hX := uN_lt a
  have hc : CN (lN (uN a)).toUInt64 := by rw [← a_lN a]; exact ha
  rw [a_lN a]
  generalize uN a = X at *
  have hE : X % 2 ^ 63 / 2 ^ 52 < 2048 := by omega
  have hnn := lN_nn hX
  have hk := dkey_N (a := (lN X).toUInt64)
  rw [u_N hX] at hk
  obtain ⟨w1, -, -⟩ := w_ge (w := 0) hE (by omega)
  obtain ⟨-, -, w2⟩ := w_ge (w := 52) hE (by omega)
  have w1' : (0 : Int32) ≤ iI (((X % 2 ^ 63 / 2 ^ 52 : Nat) : Int) - 1023) ↔ 1023 ≤ X % 2 ^ 63 / 2 ^ 52 := w1.trans (by omega)
  have w2' : iI (((X % 2 ^ 63 / 2 ^ 52 : Nat) : Int) - 1023) < 52 ↔ X % 2 ^ 63 / 2 ^ 52 < 1075 := w2.trans (by omega)
  have ha0 : dAbs (lN X) = 0 ↔ X % 2 ^ 63 = 0 := by rw [dAbs_N hX, show (0 : Int64) = lN 0 from rfl, q_eq (by omega) (by decide)]
  rw [dFloor, dWhole_N hX]
  simp only [w1', w2', ha0, hnn]
  rw [mFlr]
  by_cases c1 : 2047 * 2 ^ 52 < X % 2 ^ 63
  · have hn : 9218868437227405312 < (lN X).toUInt64.toNat % 2 ^ 63 := by rw [u_N hX]; omega
    rw [if_pos (Or.inr (by omega)), if_pos (Or.inr (Or.inl (by rw [cmp_nan (Or.inl hn)]; decide)))]
    exact ⟨rfl, hc⟩
  have hn : (lN X).toUInt64.toNat % 2 ^ 63 ≤ 9218868437227405312 := by rw [u_N hX]; omega
  have l1 := cmp_eq (op := .l) hn nn_0
  have l2 := cmp_le (op := .l) hn (show (14064741636278059008 : UInt64).toNat % 2 ^ 63 ≤ 9218868437227405312 by decide)
  have l3 := cmp_lt (op := .g) hn (show (4841369599423283200 : UInt64).toNat % 2 ^ 63 ≤ 9218868437227405312 by decide)
  rw [dk_0, hk] at l1
  rw [hk, show FP.Core.dkey 14064741636278059008 = -4841369599423283200 from by decide] at l2
  rw [hk, show FP.Core.dkey 4841369599423283200 = 4841369599423283200 from by decide] at l3
  by_cases c2 : X % 2 ^ 63 = 0 ∨ ¬ X % 2 ^ 63 / 2 ^ 52 < 1075
  · rw [if_pos c2, if_pos]
    · exact ⟨rfl, hc⟩
    · rw [l1, l2, l3]
      split <;> omega
  have nm : ¬ (Op.cmpValue (FP.dcmp (lN X).toUInt64 FP.dconst0) .l = 0 ∨ Op.cmpValue (FP.dcmp (lN X).toUInt64 14064741636278059008) .l ≤ 0 ∨ ¬ Op.cmpValue (FP.dcmp (lN X).toUInt64 4841369599423283200) .g < 0) := by
    rw [l1, l2, l3]
    split <;> omega
  rw [if_neg c2, if_neg nm]
  have hfin : X % 2 ^ 63 < 2047 * 2 ^ 52 := by omega
  by_cases c3 : X % 2 ^ 63 / 2 ^ 52 < 1023
  · have e0 : mFlr0 (lN X).toUInt64 = 0 := by
      rw [mFlr0, show FP.d2l (lN X).toUInt64 = 0 from by
        show FP.Core.d2l _ = _
        rw [d2l_fin hX hfin, trunc_0 dgN_b (by have := eN_s c3; omega)]; decide]
      exact FP.Core.l2d_zero
    have l4 := cmp_le (op := .l) (show (0 : UInt64).toNat % 2 ^ 63 ≤ 9218868437227405312 by decide) hn
    rw [show FP.Core.dkey 0 = 0 from by decide, hk] at l4
    rw [if_neg (by omega), e0]
    by_cases s : X < 2 ^ 63
    · rw [if_pos s, if_pos (l4.mpr (by rw [if_neg (by omega)]; omega))]
      exact ⟨rfl, CN_nn (by decide)⟩
    · rw [if_neg s, if_neg (fun z => by have := l4.mp z; rw [if_pos (by omega)] at this; omega)]
      exact ⟨by decide +kernel, CN_nn (by decide +kernel)⟩
  · rw [if_pos (by omega)]
    obtain ⟨k, hkk⟩ : ∃ k, X % 2 ^ 63 / 2 ^ 52 + k = 1075 := ⟨1075 - X % 2 ^ 63 / 2 ^ 52, by omega⟩
    obtain ⟨g1, g2⟩ := eN_E (m := X % 2 ^ 63) (by omega)
    have hc53 := dgN_b (m := X % 2 ^ 63)
    have hp := Nat.two_pow_pos k
    have hr := Nat.mod_lt (dgN (X % 2 ^ 63)) hp
    have e52 : (2 : Nat) ^ 52 = 2 ^ (52 - k) * 2 ^ k := by rw [← Nat.pow_add]; congr 1; omega
    have e53 : (2 : Nat) ^ 53 = 2 ^ (53 - k) * 2 ^ k := by rw [← Nat.pow_add]; congr 1; omega
    have n1 : 2 ^ 52 ≤ dgN (X % 2 ^ 63) / 2 ^ k * 2 ^ k := by
      have : 2 ^ (52 - k) ≤ dgN (X % 2 ^ 63) / 2 ^ k := by rw [Nat.le_div_iff_mul_le hp, ← e52]; omega
      rw [e52]; exact Nat.mul_le_mul_right _ this
    have n2 : (dgN (X % 2 ^ 63) / 2 ^ k + 1) * 2 ^ k ≤ 2 ^ 53 := by
      have : dgN (X % 2 ^ 63) / 2 ^ k < 2 ^ (53 - k) := by rw [Nat.div_lt_iff_lt_mul hp, ← e53]; exact hc53
      rw [e53]; exact Nat.mul_le_mul_right _ this
    have hT : FP.Core.truncate (sB X) (dgN (X % 2 ^ 63)) ((eN (X % 2 ^ 63) : Int) - 1075) = FP.Core.signed (sB X) (dgN (X % 2 ^ 63) / 2 ^ k) := trunc_k (by rw [g1]; omega)
    have hd := d2l_fin hX hfin
    rw [hT] at hd
    have hnb : dgN (X % 2 ^ 63) / 2 ^ k ≤ dgN (X % 2 ^ 63) := Nat.div_le_self _ _
    have hTi : (FP.Core.d2l (lN X).toUInt64).toInt = FP.Core.signed (sB X) (dgN (X % 2 ^ 63) / 2 ^ k) := by
      rw [hd]
      generalize dgN (X % 2 ^ 63) / 2 ^ k = n at *
      have : max (-2 ^ 63) (min (2 ^ 63 - 1) (FP.Core.signed (sB X) n)) = FP.Core.signed (sB X) n := by
        cases sB X
        · show max (-2 ^ 63) (min (2 ^ 63 - 1) (n : Int)) = n; omega
        · show max (-2 ^ 63) (min (2 ^ 63 - 1) (-(n : Int))) = -(n : Int); omega
      rw [this, Int64.toInt_ofInt_of_le]
      · cases sB X
        · show -2 ^ 63 ≤ (n : Int); omega
        · show -2 ^ 63 ≤ -(n : Int); omega
      · cases sB X
        · show (n : Int) < 2 ^ 63; omega
        · show -(n : Int) < 2 ^ 63; omega
    rw [w_sub hkk]
    exact flr_C rfl rfl hX (by omega) (by omega) (flr_X hX hkk (by omega) rfl rfl) hr n1 (by rw [← Nat.succ_mul]; exact n2) hTi
