/-! DOUBLEs: comparisons, signs, INTs, alike -/
theorem a_lN (a : Int64) : a = lN (uN a) := uN_inj (q_uN (uN_lt a)).symm
theorem u_N {X : Nat} (h : X < 2 ^ 64) : (lN X).toUInt64.toNat = X := q_uN h
theorem eq_N {a : Int64} {w : UInt64} (h : uN a = w.toNat) : a.toUInt64 = w := UInt64.toNat_inj.mp h
theorem val_nn {a : UInt64} (h : a.toNat % 2 ^ 63 ≤ 9218868437227405312) : FP.Core.val64 a ≠ .nan := fun z => by
  have h1 := (FP.Core.dIsNaN_iff a).mpr z
  have h2 := (FP.Core.isNaN_bits a).mp h1
  omega
theorem CN_nn {a : UInt64} (h : a.toNat % 2 ^ 63 ≤ 9218868437227405312) : CN a := fun z => by
  have h2 := (FP.Core.isNaN_bits a).mp z
  omega
theorem CN_c : CN 9221120237041090560 := fun _ => rfl
theorem CN_of {a : UInt64} (h : CN a) (hn : 9218868437227405312 < a.toNat % 2 ^ 63) : a = 9221120237041090560 := h ((FP.Core.isNaN_bits a).mpr hn)
theorem enc_N {d : FP.Core.Datum} (h : FP.Core.fits FP.Core.b64 d) : (UInt64.ofNat (FP.Core.encode FP.Core.b64 d)).toNat = FP.Core.encode FP.Core.b64 d := by
  have h1 := FP.Core.encode_lt FP.Core.good_b64 d h
  rw [FP.Core.size_b64] at h1
  exact q_u h1
theorem CN_enc {d : FP.Core.Datum} (h : FP.Core.fits FP.Core.b64 d) : CN (UInt64.ofNat (FP.Core.encode FP.Core.b64 d)) := fun z => by
  have h1 := (FP.Core.dIsNaN_iff _).mp z
  have h2 : FP.Core.val64 (UInt64.ofNat (FP.Core.encode FP.Core.b64 d)) = d := FP.Core.val64_of64 h
  rw [h2] at h1
  subst h1
  decide +kernel
/-- comparisons -/
theorem cmp_N {a b : UInt64} {op : CmpOp} (ha : a.toNat % 2 ^ 63 ≤ 9218868437227405312) (hb : b.toNat % 2 ^ 63 ≤ 9218868437227405312) : Op.cmpValue (FP.dcmp a b) op = if FP.Core.dkey a < FP.Core.dkey b then -1 else if FP.Core.dkey a = FP.Core.dkey b then 0 else 1 := by
  rw [show FP.dcmp a b = some (compare (FP.Core.dkey a) (FP.Core.dkey b)) from FP.Core.dcmp_key (val_nn ha) (val_nn hb)]
  generalize FP.Core.dkey a = x
  generalize FP.Core.dkey b = y
  rcases Int.lt_trichotomy x y with h | h | h
  · rw [if_pos h, show compare x y = .lt from (FP.Core.compare_lt_iff _ _).mpr h]; rfl
  · rw [if_neg (by omega), if_pos h, show compare x y = .eq from (FP.Core.compare_eq_iff _ _).mpr h]; rfl
  · rw [if_neg (by omega), if_neg (by omega), show compare x y = .gt from (FP.Core.compare_gt_iff _ _).mpr h]; rfl
theorem cmp_le {a b : UInt64} {op : CmpOp} (ha : a.toNat % 2 ^ 63 ≤ 9218868437227405312) (hb : b.toNat % 2 ^ 63 ≤ 9218868437227405312) : Op.cmpValue (FP.dcmp a b) op ≤ 0 ↔ FP.Core.dkey a ≤ FP.Core.dkey b := by
  rw [cmp_N ha hb]
  split
  · exact ⟨fun _ => by omega, fun _ => by decide⟩
  · split
    · exact ⟨fun _ => by omega, fun _ => by decide⟩
    · exact ⟨fun z => absurd z (by decide), fun z => by omega⟩
theorem cmp_ge {a b : UInt64} {op : CmpOp} (ha : a.toNat % 2 ^ 63 ≤ 9218868437227405312) (hb : b.toNat % 2 ^ 63 ≤ 9218868437227405312) : 0 ≤ Op.cmpValue (FP.dcmp a b) op ↔ FP.Core.dkey b ≤ FP.Core.dkey a := by
  rw [cmp_N ha hb]
  split
  · exact ⟨fun z => absurd z (by decide), fun z => by omega⟩
  · split
    · exact ⟨fun _ => by omega, fun _ => by decide⟩
    · exact ⟨fun _ => by omega, fun _ => by decide⟩
theorem cmp_gt {a b : UInt64} {op : CmpOp} (ha : a.toNat % 2 ^ 63 ≤ 9218868437227405312) (hb : b.toNat % 2 ^ 63 ≤ 9218868437227405312) : 0 < Op.cmpValue (FP.dcmp a b) op ↔ FP.Core.dkey b < FP.Core.dkey a := by
  rw [cmp_N ha hb]
  split
  · exact ⟨fun z => absurd z (by decide), fun z => by omega⟩
  · split
    · exact ⟨fun z => absurd z (by decide), fun _ => by omega⟩
    · exact ⟨fun _ => by omega, fun _ => by decide⟩
theorem cmp_lt {a b : UInt64} {op : CmpOp} (ha : a.toNat % 2 ^ 63 ≤ 9218868437227405312) (hb : b.toNat % 2 ^ 63 ≤ 9218868437227405312) : Op.cmpValue (FP.dcmp a b) op < 0 ↔ FP.Core.dkey a < FP.Core.dkey b := by
  rw [cmp_N ha hb]
  split
  · exact ⟨fun _ => by omega, fun _ => by decide⟩
  · split
    · exact ⟨fun z => absurd z (by decide), fun z => by omega⟩
    · exact ⟨fun z => absurd z (by decide), fun z => by omega⟩
theorem cmp_eq {a b : UInt64} {op : CmpOp} (ha : a.toNat % 2 ^ 63 ≤ 9218868437227405312) (hb : b.toNat % 2 ^ 63 ≤ 9218868437227405312) : Op.cmpValue (FP.dcmp a b) op = 0 ↔ FP.Core.dkey a = FP.Core.dkey b := by
  rw [cmp_N ha hb]
  split
  · exact ⟨fun z => absurd z (by decide), fun z => by omega⟩
  · split
    · exact ⟨fun _ => by assumption, fun _ => rfl⟩
    · exact ⟨fun z => absurd z (by decide), fun z => by omega⟩
theorem cmp_nan {a b : UInt64} {op : CmpOp} (h : 9218868437227405312 < a.toNat % 2 ^ 63 ∨ 9218868437227405312 < b.toNat % 2 ^ 63) : Op.cmpValue (FP.dcmp a b) op = match op with | .g => 1 | .l => -1 := by
  have : FP.dcmp a b = none := (FP.Core.dcmp_none a b).mpr (by
    rcases h with h | h
    · exact Or.inl ((FP.Core.dIsNaN_iff a).mp ((FP.Core.isNaN_bits a).mpr h))
    · exact Or.inr ((FP.Core.dIsNaN_iff b).mp ((FP.Core.isNaN_bits b).mpr h)))
  rw [this]; rfl
theorem dkey_N {a : UInt64} : FP.Core.dkey a = if 2 ^ 63 ≤ a.toNat then 9223372036854775808 - (a.toNat : Int) else (a.toNat : Int) := by
  rw [FP.Core.dkey]
  split <;> omega
theorem lN_sI {X : Nat} (h : X < 2 ^ 64) : (lN X).toInt = if 2 ^ 63 ≤ X then (X : Int) - 18446744073709551616 else (X : Int) := by
  have c := BitVec.toInt_eq_toNat_cond (lN X).toBitVec
  rw [q_tn h] at c
  show (lN X).toBitVec.toInt = _
  rw [c]
  split <;> split <;> omega
theorem lN_nn {X : Nat} (h : X < 2 ^ 64) : 0 ≤ lN X ↔ X < 2 ^ 63 := by
  rw [Int64.le_iff_toInt_le, lN_sI h, show (0 : Int64).toInt = 0 from rfl]
  split <;> omega
theorem dOrd_N {X : Nat} (h : X < 2 ^ 64) : (dOrd (lN X)).toInt = FP.Core.dkey (lN X).toUInt64 := by
  rw [dkey_N, u_N h, dOrd, dAbs_N h]
  have := lN_nn h
  by_cases c : X < 2 ^ 63
  · rw [if_pos (this.mpr c), if_neg (by omega), lN_sI h, if_neg (by omega)]
  · rw [if_neg (fun z => c (this.mp z)), if_pos (by omega), Jvm.Kit.i64_neg (by rw [q_int (by omega)]; omega), q_int (by omega)]
    omega
theorem D_below : DB_below := fun a b ha hb => by
  have hX := uN_lt a
  have hY := uN_lt b
  rw [a_lN a, a_lN b]
  generalize uN a = X at *
  generalize uN b = Y at *
  clear ha hb
  rw [dBelow, dNan_N hX, dNan_N hY]
  by_cases c1 : 2047 * 2 ^ 52 < X % 2 ^ 63
  · rw [decide_eq_true c1, cmp_nan (Or.inl (by rw [u_N hX]; omega))]
    exact ⟨fun z => absurd z (by simp), fun z => absurd (show (0 : Int32) ≤ 1 by decide) z⟩
  · by_cases c2 : 2047 * 2 ^ 52 < Y % 2 ^ 63
    · rw [decide_eq_true c2, cmp_nan (Or.inr (by rw [u_N hY]; omega))]
      exact ⟨fun z => absurd z (by simp), fun z => absurd (show (0 : Int32) ≤ 1 by decide) z⟩
    · rw [decide_eq_false c1, decide_eq_false c2, cmp_ge (by rw [u_N hX]; omega) (by rw [u_N hY]; omega), ← show dOrd (lN Y) ≤ dOrd (lN X) ↔ FP.Core.dkey (lN Y).toUInt64 ≤ FP.Core.dkey (lN X).toUInt64 from by rw [Int64.le_iff_toInt_le, dOrd_N hX, dOrd_N hY]]
      simp
theorem D_can : DB_can := fun a => by
  have h1 := isNo_iff a
  have hX := uN_lt a
  have e1 : dNan a = isNo a := by
    rw [a_lN a, dNan_N hX, Bool.eq_iff_iff, decide_eq_true_eq, isNo_iff, q_uN hX]
  rw [dCanon, mDo, e1]
  by_cases c : isNo a = true
  · rw [if_pos c, if_pos c]; exact ⟨rfl, CN_c⟩
  · rw [if_neg c, if_neg c]
    exact ⟨rfl, CN_nn (Nat.not_lt.mp (fun z => c (h1.mpr z)))⟩
theorem dk_0 : FP.Core.dkey FP.dconst0 = 0 := by decide
theorem nn_0 : FP.dconst0.toNat % 2 ^ 63 ≤ 9218868437227405312 := by decide
theorem q_min {X : Nat} (h : X < 2 ^ 64) : lN X &&& (-9223372036854775808) = sg (sB X) := by
  rw [show (-9223372036854775808 : Int64) = lN (2 ^ 63) from by decide +kernel]
  have e : X &&& 2 ^ 63 = (sB X).toNat * 2 ^ 63 := by
    unfold sB
    apply Nat.eq_of_testBit_eq
    intro i
    rw [Nat.testBit_and, Nat.testBit_two_pow, Nat.testBit_mul_two_pow]
    by_cases c : i = 63
    · subst c
      rw [Nat.testBit_eq_decide_div_mod_eq]
      by_cases c2 : 2 ^ 63 ≤ X
      · rw [decide_eq_true c2, show X / 2 ^ 63 % 2 = 1 by omega]; decide
      · rw [decide_eq_false c2, show X / 2 ^ 63 % 2 = 0 by omega]; decide
    · rw [show decide (63 = i) = false from decide_eq_false (fun z => c z.symm), Bool.and_false]
      by_cases c2 : 63 ≤ i
      · rw [show (decide (2 ^ 63 ≤ X)).toNat.testBit (i - 63) = false from by
          have : (decide (2 ^ 63 ≤ X)).toNat < 2 ^ (i - 63) := by
            have h1 : 2 ^ 1 ≤ 2 ^ (i - 63) := Nat.pow_le_pow_right (by decide) (by omega)
            have h2 : (decide (2 ^ 63 ≤ X)).toNat ≤ 1 := by cases decide (2 ^ 63 ≤ X) <;> decide
            omega
          exact Nat.testBit_lt_two_pow this, Bool.and_false]
      · rw [decide_eq_false c2, Bool.false_and]
  rw [q_and h (by decide) e, sg]
theorem D_sign : DB_sign := fun a ha => by
  have hX := uN_lt a
  have hc : CN (lN (uN a)).toUInt64 := by rw [← a_lN a]; exact ha
  rw [a_lN a]
  generalize uN a = X at *
  have hk := dkey_N (a := (lN X).toUInt64)
  rw [u_N hX] at hk
  have ha0 : dAbs (lN X) = 0 ↔ X % 2 ^ 63 = 0 := by rw [dAbs_N hX, show (0 : Int64) = lN 0 from rfl, q_eq (by omega) (by decide)]
  rw [dSign, dNan_N hX, mSgnV]
  by_cases c1 : 2047 * 2 ^ 52 < X % 2 ^ 63
  · have hn : 9218868437227405312 < (lN X).toUInt64.toNat % 2 ^ 63 := by rw [u_N hX]; omega
    rw [if_pos (Or.inl (decide_eq_true c1)), cmp_nan (Or.inl hn), cmp_nan (Or.inl hn), if_pos (by decide), if_pos (by decide)]
    exact ⟨rfl, hc⟩
  · have hn : (lN X).toUInt64.toNat % 2 ^ 63 ≤ 9218868437227405312 := by rw [u_N hX]; omega
    have l1 := cmp_le (op := .l) hn nn_0
    have l2 := cmp_ge (op := .g) hn nn_0
    rw [dk_0, hk] at l1 l2
    by_cases c2 : X % 2 ^ 63 = 0
    · rw [if_pos (Or.inr (ha0.mpr c2)), if_pos (l1.mpr (by split <;> omega)), if_pos (l2.mpr (by split <;> omega))]
      exact ⟨rfl, hc⟩
    · have nc : ¬ (decide (2047 * 2 ^ 52 < X % 2 ^ 63) = true ∨ dAbs (lN X) = 0) := fun z => by
        rcases z with z | z
        · exact c1 (decide_eq_true_eq.mp z)
        · exact c2 (ha0.mp z)
      have eO : ∀ s, sg s ||| 4607182418800017408 = lN (s.toNat * 2 ^ 63 + 1023 * 2 ^ 52) := fun s => by cases s <;> decide +kernel
      rw [if_neg nc, q_min hX, eO]
      by_cases c3 : 2 ^ 63 ≤ X
      · rw [if_pos (l1.mpr (by rw [if_pos c3]; omega)), if_neg (fun z => by have := l2.mp z; rw [if_pos c3] at this; omega), sB, decide_eq_true c3]
        exact ⟨by decide +kernel, CN_nn (by decide)⟩
      · rw [if_neg (fun z => by have := l1.mp z; rw [if_neg c3] at this; omega), sB, decide_eq_false c3]
        exact ⟨by decide +kernel, CN_nn (by decide)⟩
theorem D_abs : DB_abs := fun a ha => by
  have hX := uN_lt a
  have hc : CN (lN (uN a)).toUInt64 := by rw [← a_lN a]; exact ha
  rw [a_lN a]
  generalize uN a = X at *
  have hk := dkey_N (a := (lN X).toUInt64)
  rw [u_N hX] at hk
  rw [dAbs_N hX, mAbsV]
  by_cases c1 : 2047 * 2 ^ 52 < X % 2 ^ 63
  · have hn : 9218868437227405312 < (lN X).toUInt64.toNat % 2 ^ 63 := by rw [u_N hX]; omega
    have e := CN_of hc hn
    rw [cmp_nan (Or.inl hn), if_pos (by decide)]
    have e2 : X = 9221120237041090560 := by
      have := congrArg UInt64.toNat e
      rw [u_N hX] at this
      exact this
    rw [e2]
    exact ⟨by decide +kernel, CN_c⟩
  · have hn : (lN X).toUInt64.toNat % 2 ^ 63 ≤ 9218868437227405312 := by rw [u_N hX]; omega
    have l1 := cmp_gt (op := .g) hn nn_0
    rw [dk_0, hk] at l1
    by_cases c2 : 2 ^ 63 ≤ X ∨ X = 0
    · rw [if_neg (fun z => by have := l1.mp z; split at this <;> omega)]
      by_cases c3 : X % 2 ^ 63 = 0
      · rcases (show X = 0 ∨ X = 2 ^ 63 by omega) with rfl | rfl
        · exact ⟨by decide +kernel, CN_nn (by decide +kernel)⟩
        · exact ⟨by decide +kernel, CN_nn (by decide +kernel)⟩
      · have hv := val_nn hn
        have n0 : FP.Core.val64 (0 : UInt64) ≠ .nan := val_nn (by decide)
        have hlt : FP.Core.dcmp (lN X).toUInt64 0 = some .lt := by
          rw [FP.Core.dcmp_key hv n0]
          congr 1
          apply (FP.Core.compare_lt_iff _ _).mpr
          rw [hk, show FP.Core.dkey 0 = 0 from by decide, if_pos (by omega)]
          omega
        have e1 := FP.Core.abs_neg hlt
        have hN : (FP.Core.dneg (lN X).toUInt64).toNat = X % 2 ^ 63 := by rw [← e1, FP.Core.mask_toNat, u_N hX]
        have hNn : FP.Core.val64 (FP.Core.dneg (lN X).toUInt64) ≠ .nan := val_nn (by rw [hN]; omega)
        have e2 : FP.dsub FP.dconst0 (lN X).toUInt64 = FP.Core.dneg (lN X).toUInt64 := by
          show FP.Core.dsub FP.Core.dconst0 _ = _
          rw [FP.Core.dsub_eq, FP.Core.dadd_comm]
          refine FP.Core.dadd_zero hNn (fun z => ?_)
          have := congrArg UInt64.toNat z
          rw [hN, show FP.Core.dzeroNeg.toNat = 2 ^ 63 from by decide] at this
          omega
        rw [e2]
        exact ⟨eq_N (by rw [q_uN (by omega), hN]), CN_nn (by rw [hN]; omega)⟩
    · rw [if_pos (l1.mpr (by rw [if_neg (by omega)]; omega))]
      refine ⟨eq_N (by rw [q_uN (by omega), u_N hX]; omega), hc⟩
theorem D_ofInt : DB_ofInt := fun i => by
  have h1 := i.toInt_lt
  have h2 := i.le_toInt
  have hf : FP.Core.fits FP.Core.b64 (FP.Core.round FP.Core.b64 (FP.Core.ofInt i.toInt)) := FP.Core.round_fits FP.Core.good_b64 _
  refine ⟨?_, CN_enc hf⟩
  apply eq_N
  show _ = (UInt64.ofNat (FP.Core.encode FP.Core.b64 (FP.Core.round FP.Core.b64 (FP.Core.ofInt i.toInt)))).toNat
  rw [enc_N hf, FP.Core.ofInt]
  show _ = FP.Core.encode FP.Core.b64 (FP.Core.roundRatio FP.Core.b64 (decide (i.toInt < 0)) i.toInt.natAbs 1 0)
  have ea : absL i.toInt64 = lN i.toInt.natAbs := by
    apply Int64.toInt_inj.mp
    rw [q_int (by omega), absL]
    have hl : (0 : Int64) < i.toInt64 ↔ 0 < i.toInt := by rw [Int64.lt_iff_toInt_lt, Int32.toInt_toInt64]; rfl
    by_cases c : 0 < i.toInt
    · rw [if_pos (hl.mpr c), Int32.toInt_toInt64]; omega
    · rw [if_neg (fun z => c (hl.mp z)), Jvm.Kit.i64_neg (by rw [Int32.toInt_toInt64]; omega), Int32.toInt_toInt64]; omega
  rw [dFromInt, ea]
  have hz : lN i.toInt.natAbs = 0 ↔ i.toInt.natAbs = 0 := by rw [show (0 : Int64) = lN 0 from rfl, q_eq (by omega) (by decide)]
  by_cases c : i.toInt.natAbs = 0
  · rw [if_pos (hz.mpr c), c, show decide (i.toInt < 0) = false from decide_eq_false (by omega)]
    decide +kernel
  · rw [if_neg (fun z => c (hz.mp z))]
    have es : (if 0 ≤ i then 0 else -9223372036854775808 : Int64) = sg (decide (i.toInt < 0)) := by
      have hi : 0 ≤ i ↔ 0 ≤ i.toInt := Jvm.Kit.i32_nonneg
      by_cases c2 : 0 ≤ i.toInt
      · rw [if_pos (hi.mpr c2), decide_eq_false (by omega)]; decide +kernel
      · rw [if_neg (fun z => c2 (hi.mp z)), decide_eq_true (by omega)]; decide +kernel
    rw [es, show (1078 : Int32) = iI 1078 from rfl, dRound_N (N := i.toInt.natAbs) (M := 1) (by decide) (by decide) (by omega) (by omega) (Sy.rf _) (Or.inl (Nat.mul_one _).symm)]
    rfl
