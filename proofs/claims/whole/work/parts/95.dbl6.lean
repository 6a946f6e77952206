/-! DOUBLEs: sums, differences, alike -/
theorem cz_key {a b : UInt64} (ha : a.toNat % 2 ^ 63 ≤ 9218868437227405312) (hb : b.toNat % 2 ^ 63 ≤ 9218868437227405312) : cz a b = decide (FP.Core.dkey a = FP.Core.dkey b) := by
  rw [cz, decide_eq_decide]; exact cmp_eq ha hb
theorem sB_n {U : Nat} (h : U < 2 ^ 64) : U = (sB U).toNat * 2 ^ 63 + U % 2 ^ 63 := by
  unfold sB
  by_cases c : 2 ^ 63 ≤ U
  · rw [decide_eq_true c, show (true).toNat = 1 from rfl]; omega
  · rw [decide_eq_false c, show (false).toNat = 0 from rfl]; omega
theorem addX_N {a b : Int64} {U V : Nat} (hU : U < 2 ^ 64) (hV : V < 2 ^ 64) (nU : U % 2 ^ 63 ≤ 2047 * 2 ^ 52) (hle : V % 2 ^ 63 ≤ U % 2 ^ 63) (opp : (a ^^^ b) < 0 ↔ (sB U != sB V) = true) : (U % 2 ^ 63 = 2047 * 2 ^ 52 ∧ V % 2 ^ 63 = 2047 * 2 ^ 52 ∧ (sB U != sB V) = true → dAddX a b (lN U) (lN V) = 9221120237041090560) ∧ (¬ (U % 2 ^ 63 = 2047 * 2 ^ 52 ∧ V % 2 ^ 63 = 2047 * 2 ^ 52 ∧ (sB U != sB V) = true) → uN (dAddX a b (lN U) (lN V)) = FP.Core.encode FP.Core.b64 (FP.Core.round FP.Core.b64 (FP.Core.exactSum (FP.Core.decode FP.Core.b64 U) (FP.Core.decode FP.Core.b64 V)))) := by
  have cI : (9218868437227405312 : Int64) = lN (2047 * 2 ^ 52) := by decide +kernel
  have l3 : lN (U % 2 ^ 63) = (9218868437227405312 : Int64) ↔ U % 2 ^ 63 = 2047 * 2 ^ 52 := by rw [cI, q_eq (by omega) (by decide)]
  have l4 : lN (V % 2 ^ 63) = (9218868437227405312 : Int64) ↔ V % 2 ^ 63 = 2047 * 2 ^ 52 := by rw [cI, q_eq (by omega) (by decide)]
  rw [dAddX, dAbs_N hU, dAbs_N hV]
  simp only [l3, l4, opp]
  have hsU := sB_n hU
  constructor
  · intro ⟨z1, z2, z3⟩
    rw [if_pos z1, if_pos z2, if_pos z3]
  · intro z
    by_cases i : U % 2 ^ 63 = 2047 * 2 ^ 52
    · rw [if_pos i]
      by_cases j : V % 2 ^ 63 = 2047 * 2 ^ 52
      · have hs : ¬ (sB U != sB V) = true := fun y => z ⟨i, j, y⟩
        have hs2 : sB U = sB V := by revert hs; cases sB U <;> cases sB V <;> decide
        rw [if_pos j, if_neg hs, q_uN hU, val_I hU i, val_I hV j, FP.Core.exactSum, if_pos hs2]
        show U = FP.Core.encode FP.Core.b64 (.inf _)
        rw [infN]; omega
      · rw [if_neg j, q_uN hU, val_I hU i, val_N hV (by omega)]
        show U = FP.Core.encode FP.Core.b64 (.inf _)
        rw [infN]; omega
    · rw [if_neg i]
      exact sum_fin hU hV (by omega) hle
theorem dk_inf {X Y : Nat} (hX : X < 2 ^ 64) (hY : Y < 2 ^ 64) (hx : X % 2 ^ 63 = 2047 * 2 ^ 52) (hy : Y % 2 ^ 63 = 2047 * 2 ^ 52) : cz (lN X).toUInt64 (lN Y).toUInt64 = !(sB X != sB Y) := by
  rw [cz_key (by rw [u_N hX]; omega) (by rw [u_N hY]; omega), dkey_N, dkey_N, u_N hX, u_N hY]
  unfold sB
  by_cases c : 2 ^ 63 ≤ X
  · by_cases d : 2 ^ 63 ≤ Y
    · rw [if_pos c, if_pos d, decide_eq_true c, decide_eq_true d, decide_eq_true (by omega)]; rfl
    · rw [if_pos c, if_neg d, decide_eq_true c, decide_eq_false d, decide_eq_false (by omega)]; rfl
  · by_cases d : 2 ^ 63 ≤ Y
    · rw [if_neg c, if_pos d, decide_eq_false c, decide_eq_true d, decide_eq_false (by omega)]; rfl
    · rw [if_neg c, if_neg d, decide_eq_false c, decide_eq_false d, decide_eq_true (by omega)]; rfl
theorem D_add : DB_add := fun a b ha hb => by
  have hX := uN_lt a
  have hY := uN_lt b
  rw [a_lN a, a_lN b]
  generalize uN a = X at *
  generalize uN b = Y at *
  clear ha hb
  have hx : X % 2 ^ 63 < 2 ^ 63 := Nat.mod_lt _ (by decide)
  have hy : Y % 2 ^ 63 < 2 ^ 63 := Nat.mod_lt _ (by decide)
  have hm : FP.dadd (lN X).toUInt64 (lN Y).toUInt64 = UInt64.ofNat (FP.Core.encode FP.Core.b64 (FP.Core.round FP.Core.b64 (FP.Core.exactSum (FP.Core.decode FP.Core.b64 X) (FP.Core.decode FP.Core.b64 Y)))) := by
    show UInt64.ofNat (FP.Core.add FP.Core.b64 _ _) = _
    rw [u_N hX, u_N hY, FP.Core.add]
  have hfit : FP.Core.fits FP.Core.b64 (FP.Core.round FP.Core.b64 (FP.Core.exactSum (FP.Core.decode FP.Core.b64 X) (FP.Core.decode FP.Core.b64 Y))) := FP.Core.round_fits FP.Core.good_b64 _
  have hres : ∀ v : Int64, uN v = FP.Core.encode FP.Core.b64 (FP.Core.round FP.Core.b64 (FP.Core.exactSum (FP.Core.decode FP.Core.b64 X) (FP.Core.decode FP.Core.b64 Y))) → v.toUInt64 = FP.dadd (lN X).toUInt64 (lN Y).toUInt64 ∧ CN (FP.dadd (lN X).toUInt64 (lN Y).toUInt64) := fun v hv => by
    rw [hm]
    exact ⟨eq_N (hv.trans (enc_N hfit).symm), CN_enc hfit⟩
  have d1 : dNan (lN X) = true ↔ 2047 * 2 ^ 52 < X % 2 ^ 63 := by rw [dNan_N hX, decide_eq_true_eq]
  have d2 : dNan (lN Y) = true ↔ 2047 * 2 ^ 52 < Y % 2 ^ 63 := by rw [dNan_N hY, decide_eq_true_eq]
  have d3 : dAbs (lN X) < dAbs (lN Y) ↔ X % 2 ^ 63 < Y % 2 ^ 63 := by rw [dAbs_N hX, dAbs_N hY, q_lt hx hy]
  rw [dAdd, mPlus]
  simp only [d1, d2, d3]
  have hN : mPlusN (lN X).toUInt64 (lN Y).toUInt64 = (!decide (X % 2 ^ 63 ≤ 9218868437227405312) || !decide (Y % 2 ^ 63 ≤ 9218868437227405312) || (decide (X % 2 ^ 63 = 9218868437227405312) && decide (Y % 2 ^ 63 = 9218868437227405312) && !cz (lN X).toUInt64 (lN Y).toUInt64)) := by
    rw [mPlusN, cz_nan, cz_nan, mEnd_N, mEnd_N, iNN hX, iNN hY]
  by_cases n1 : 2047 * 2 ^ 52 < X % 2 ^ 63
  · rw [if_pos n1, if_pos (by rw [hN]; simp; omega)]
    exact ⟨rfl, CN_c⟩
  by_cases n2 : 2047 * 2 ^ 52 < Y % 2 ^ 63
  · rw [if_neg n1, if_pos n2, if_pos (by rw [hN]; simp; omega)]
    exact ⟨rfl, CN_c⟩
  rw [if_neg n1, if_neg n2]
  have hopp := q_opp hX hY
  have hsw : (sB Y != sB X) = (sB X != sB Y) := by cases sB X <;> cases sB Y <;> rfl
  by_cases both : X % 2 ^ 63 = 2047 * 2 ^ 52 ∧ Y % 2 ^ 63 = 2047 * 2 ^ 52 ∧ (sB X != sB Y) = true
  · obtain ⟨b1, b2, b3⟩ := both
    rw [if_neg (by omega), ((addX_N hX hY (by omega) (by omega) hopp).1 ⟨b1, b2, b3⟩), if_pos (by rw [hN, dk_inf hX hY b1 b2, b3]; simp; omega)]
    exact ⟨rfl, CN_c⟩
  · have nn : ¬ mPlusN (lN X).toUInt64 (lN Y).toUInt64 = true := by
      rw [hN]
      intro z
      have z2 : X % 2 ^ 63 = 9218868437227405312 ∧ Y % 2 ^ 63 = 9218868437227405312 ∧ cz (lN X).toUInt64 (lN Y).toUInt64 = false := by
        have y1 : decide (X % 2 ^ 63 ≤ 9218868437227405312) = true := decide_eq_true (by omega)
        have y2 : decide (Y % 2 ^ 63 ≤ 9218868437227405312) = true := decide_eq_true (by omega)
        rw [y1, y2] at z
        simp only [Bool.not_true, Bool.false_or, Bool.and_eq_true, decide_eq_true_eq, Bool.not_eq_true'] at z
        exact ⟨z.1.1, z.1.2, z.2⟩
      obtain ⟨z3, z4, z5⟩ := z2
      rw [dk_inf hX hY (by omega) (by omega)] at z5
      exact both ⟨by omega, by omega, by simpa using z5⟩
    rw [if_neg nn]
    apply hres
    by_cases c : X % 2 ^ 63 < Y % 2 ^ 63
    · rw [if_pos c, FP.Core.exactSum_comm]
      refine (addX_N hY hX (by omega) (by omega) (hopp.trans (by rw [hsw]))).2 (fun z => ?_)
      exact both ⟨z.2.1, z.1, by rw [← hsw]; exact z.2.2⟩
    · rw [if_neg c]
      exact (addX_N hX hY (by omega) (by omega) hopp).2 both
theorem xor_63 {Y : Nat} (h : Y < 2 ^ 64) : Y ^^^ 2 ^ 63 = if 2 ^ 63 ≤ Y then Y - 2 ^ 63 else Y + 2 ^ 63 := by
  have low : ∀ x, x < 2 ^ 63 → x ^^^ 2 ^ 63 = 2 ^ 63 + x := fun x hx => by
    apply Nat.eq_of_testBit_eq
    intro i
    rw [Nat.testBit_xor, Nat.testBit_two_pow]
    rcases Nat.lt_trichotomy i 63 with z | z | z
    · rw [Nat.testBit_two_pow_add_gt z, decide_eq_false (by omega)]; simp
    · subst z; rw [Nat.testBit_two_pow_add_eq]; simp
    · have hp : 2 ^ 64 ≤ 2 ^ i := Nat.pow_le_pow_right (by decide) z
      rw [Nat.testBit_lt_two_pow (show x < 2 ^ i by omega), Nat.testBit_lt_two_pow (show 2 ^ 63 + x < 2 ^ i by omega), decide_eq_false (by omega)]; rfl
  by_cases c : 2 ^ 63 ≤ Y
  · rw [if_pos c]
    have e := low (Y - 2 ^ 63) (by omega)
    have e2 : Y = (Y - 2 ^ 63) ^^^ 2 ^ 63 := by rw [e]; omega
    have e3 : Y ^^^ 2 ^ 63 = ((Y - 2 ^ 63) ^^^ 2 ^ 63) ^^^ 2 ^ 63 := by rw [← e2]
    rw [e3, Nat.xor_assoc, Nat.xor_self, Nat.xor_zero]
  · rw [if_neg c, low Y (by omega)]; omega
theorem D_sub : DB_sub := fun a b ha hb => by
  have hX := uN_lt a
  have hY := uN_lt b
  have hadd := D_add a (dNeg b) ha
  have eb : dNeg b = dCanon (lN (uN b ^^^ 2 ^ 63)) := by
    rw [dNeg, a_lN b, q_uN hY, show (-9223372036854775808 : Int64) = lN (2 ^ 63) from by decide +kernel, q_xor]
  have hc := D_can (lN (uN b ^^^ 2 ^ 63))
  have hCN : CN (dNeg b).toUInt64 := by rw [eb, hc.1]; exact hc.2
  have hadd2 := hadd hCN
  suffices he : mPlus a.toUInt64 (dNeg b).toUInt64 = mMinus a.toUInt64 b.toUInt64 by rw [← he]; exact hadd2
  clear hadd hadd2 hc ha hb hCN
  have hx6 := xor_63 hY
  have hY' : uN b ^^^ 2 ^ 63 < 2 ^ 64 := Nat.xor_lt_two_pow hY (by decide)
  have hmg : (uN b ^^^ 2 ^ 63) % 2 ^ 63 = uN b % 2 ^ 63 := by rw [hx6]; split <;> omega
  rw [eb, a_lN a, show b.toUInt64 = (lN (uN b)).toUInt64 from congrArg Int64.toUInt64 (a_lN b)]
  rw [dCanon, dNan_N hY', hmg, mPlus, mMinus]
  generalize uN b ^^^ 2 ^ 63 = Z at *
  generalize uN a = X at *
  generalize uN b = Y at *
  rw [mMinusN, cz_nan, cz_nan, mEnd_N, mEnd_N, iNN hX, iNN hY]
  by_cases n2 : 2047 * 2 ^ 52 < Y % 2 ^ 63
  · rw [if_pos (decide_eq_true n2), decide_eq_false (show ¬ Y % 2 ^ 63 ≤ 9218868437227405312 by omega), if_pos (by rw [mPlusN, show cz (Int64.toUInt64 9221120237041090560) (Int64.toUInt64 9221120237041090560) = false from by decide +kernel]; simp), if_pos (by simp)]
  · rw [if_neg (fun z => n2 (decide_eq_true_eq.mp z)), mPlusN, cz_nan, cz_nan, mEnd_N, mEnd_N, iNN hX, iNN hY', hmg]
    have hs : sB Z = !sB Y := by
      unfold sB
      by_cases c : 2 ^ 63 ≤ Y
      · rw [decide_eq_true c, decide_eq_false (by rw [hx6, if_pos c]; omega)]; rfl
      · rw [decide_eq_false c, decide_eq_true (by rw [hx6, if_neg c]; omega)]; rfl
    have hbool : (decide (X % 2 ^ 63 = 9218868437227405312) && decide (Y % 2 ^ 63 = 9218868437227405312) && !cz (lN X).toUInt64 (lN Z).toUInt64) = (decide (X % 2 ^ 63 = 9218868437227405312) && decide (Y % 2 ^ 63 = 9218868437227405312) && cz (lN X).toUInt64 (lN Y).toUInt64) := by
      by_cases c : X % 2 ^ 63 = 9218868437227405312 ∧ Y % 2 ^ 63 = 9218868437227405312
      · rw [dk_inf hX hY (by omega) (by omega), dk_inf hX hY' (by omega) (by omega), hs]
        cases sB X <;> cases sB Y <;> rfl
      · have : (decide (X % 2 ^ 63 = 9218868437227405312) && decide (Y % 2 ^ 63 = 9218868437227405312)) = false := by
          rw [← Bool.not_eq_true, Bool.and_eq_true, decide_eq_true_eq, decide_eq_true_eq]; exact c
        rw [this, Bool.false_and, Bool.false_and]
    rw [hbool]
    have hneg : FP.Core.val64 (lN Z).toUInt64 = FP.Core.negate (FP.Core.val64 (lN Y).toUInt64) := by
      apply FP.Core.val64_neg_bits
      rw [u_N hY, u_N hY', hx6]
      split <;> omega
    have hd : FP.dadd (lN X).toUInt64 (lN Z).toUInt64 = FP.dsub (lN X).toUInt64 (lN Y).toUInt64 := by
      show FP.Core.of64 (FP.Core.round FP.Core.b64 (FP.Core.exactSum (FP.Core.val64 (lN X).toUInt64) (FP.Core.val64 (lN Z).toUInt64))) = FP.Core.of64 (FP.Core.round FP.Core.b64 (FP.Core.exactSum (FP.Core.val64 (lN X).toUInt64) (FP.Core.negate (FP.Core.val64 (lN Y).toUInt64))))
      rw [hneg]
    rw [hd]
