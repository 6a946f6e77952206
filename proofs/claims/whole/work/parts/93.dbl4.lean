/-! DOUBLEs: products, quotients, sums, alike -/
theorem iNN {X : Nat} (h : X < 2 ^ 64) : (lN X).toUInt64.toNat % 2 ^ 63 = X % 2 ^ 63 := by rw [u_N h]
theorem q_xor (a b : Nat) : lN a ^^^ lN b = lN (a ^^^ b) := by
  apply Int64.toBitVec_inj.mp
  rw [Int64.toBitVec_xor, q_tb, q_tb, q_tb]
  apply BitVec.eq_of_getLsbD_eq
  intro i hi
  simp [BitVec.getLsbD_ofNat, Nat.testBit_xor, hi]
theorem sB_tb {X : Nat} (h : X < 2 ^ 64) : X.testBit 63 = sB X := by
  rw [Nat.testBit_eq_decide_div_mod_eq, sB, decide_eq_decide]
  omega
theorem sB_xor {X Y : Nat} (hX : X < 2 ^ 64) (hY : Y < 2 ^ 64) : sB (X ^^^ Y) = (sB X != sB Y) := by
  rw [← sB_tb (Nat.xor_lt_two_pow hX hY), Nat.testBit_xor, sB_tb hX, sB_tb hY]
theorem q_sgn {X Y : Nat} (hX : X < 2 ^ 64) (hY : Y < 2 ^ 64) : (lN X ^^^ lN Y) &&& (-9223372036854775808) = sg (sB X != sB Y) := by
  rw [q_xor, q_min (Nat.xor_lt_two_pow hX hY), sB_xor hX hY]
theorem q_opp {X Y : Nat} (hX : X < 2 ^ 64) (hY : Y < 2 ^ 64) : (lN X ^^^ lN Y) < 0 ↔ (sB X != sB Y) = true := by
  rw [q_xor, ← sB_xor hX hY, sB, decide_eq_true_eq, Int64.lt_iff_toInt_lt, lN_sI (Nat.xor_lt_two_pow hX hY), show (0 : Int64).toInt = 0 from rfl]
  have := Nat.xor_lt_two_pow hX hY
  generalize X ^^^ Y = Z at *
  split <;> omega
theorem cz_nan (w : UInt64) : cz w w = decide (w.toNat % 2 ^ 63 ≤ 9218868437227405312) := by
  rw [cz, decide_eq_decide, cmp_self0]
  have h := FP.Core.isNaN_bits w
  constructor
  · intro z
    apply Nat.not_lt.mp
    intro y
    have h2 := h.mpr y
    rw [show FP.Core.dIsNaN w = false from z] at h2
    exact absurd h2 (by decide)
  · intro z
    cases hc : FP.dIsNaN w with
    | false => rfl
    | true =>
      have := h.mp hc
      omega
theorem mEnd_N (w : UInt64) : mEnd w = decide (w.toNat % 2 ^ 63 = 9218868437227405312) := by
  have hw := w.toNat_lt
  rw [mEnd_eq, Bool.eq_iff_iff, Bool.or_eq_true, decide_eq_true_eq, decide_eq_true_eq, decide_eq_true_eq, ← UInt64.toNat_inj, ← UInt64.toNat_inj, show dINF.toNat = 9218868437227405312 from rfl, show dNIF.toNat = 18442240474082181120 from rfl]
  omega
theorem cz_c0 (w : UInt64) : cz w FP.dconst0 = decide (w.toNat % 2 ^ 63 = 0) := cz_zero w
theorem infN {s : Bool} : FP.Core.encode FP.Core.b64 (.inf s) = s.toNat * 2 ^ 63 + 2047 * 2 ^ 52 := by cases s <;> decide +kernel
theorem zeroN {s : Bool} : FP.Core.encode FP.Core.b64 (.fin s 0 FP.Core.b64.qmin) = s.toNat * 2 ^ 63 := by cases s <;> decide +kernel
theorem sg_inf {s : Bool} : uN (sg s ||| 9218868437227405312) = s.toNat * 2 ^ 63 + 2047 * 2 ^ 52 := by cases s <;> decide +kernel
theorem sg_u {s : Bool} : uN (sg s) = s.toNat * 2 ^ 63 := by cases s <;> decide +kernel
theorem rr_0 {s : Bool} {B : Nat} {e : Int} : FP.Core.roundRatio FP.Core.b64 s 0 B e = .fin s 0 FP.Core.b64.qmin := by rw [FP.Core.roundRatio, if_pos rfl]
/-- a magnitude made 53 bits long -/
theorem dUp_N {x : Nat} (h : 0 < x) (hx : x < 2 ^ 63) : ∃ sh : Nat, sh < 64 ∧ dLz (dDig (lN x)) - 11 = iI sh ∧ dUp (lN x) = lN (dgN x * 2 ^ sh) ∧ 2 ^ 52 ≤ dgN x * 2 ^ sh ∧ dgN x * 2 ^ sh < 2 ^ 53 := by
  have hd := dgN_pos h
  have hb := dgN_b (m := x)
  have e0 : dDig (lN x) = lN (dgN x) := by rw [dDig_N (by omega), Nat.mod_eq_of_lt hx]
  obtain ⟨z, z1, z2, z3, z4⟩ := dLz_N hd (show dgN x < 2 ^ 64 by omega)
  have hz : 11 ≤ z := by
    have h1 : 2 ^ (63 - z) < 2 ^ 53 := Nat.lt_of_le_of_lt z3 hb
    have := (Nat.pow_lt_pow_iff_right (by decide)).mp h1
    omega
  have e1 : nI z - 11 = iI ((z - 11 : Nat) : Int) := by
    rw [show (11 : Int32) = nI 11 from rfl, nI_sub hz, iI_n]
  refine ⟨z - 11, by omega, by rw [e0, z2, e1], ?_, ?_, ?_⟩
  · rw [dUp, e0, z2, e1, iI_n, q_shl _ (by omega)]
  · have := Nat.mul_le_mul_right (2 ^ (z - 11)) z3
    rw [← Nat.pow_add, show 63 - z + (z - 11) = 52 by omega] at this
    exact this
  · have := (Nat.mul_lt_mul_right (Nat.two_pow_pos (z - 11))).mpr z4
    rw [← Nat.pow_add, show 64 - z + (z - 11) = 53 by omega] at this
    exact this
theorem Sy.add {N M D K : Nat} (h : Sy N M D) (hK : K % 2 = 0) : Sy (K * M + N) M (K + D) := by
  rcases h with rfl | ⟨h1, h2, h3⟩
  · exact Or.inl (Nat.add_mul _ _ _).symm
  · refine Or.inr ⟨by omega, ?_, ?_⟩
    · rw [show K + D - 1 = K + (D - 1) by omega, Nat.add_mul]; omega
    · rw [show K + D + 1 = K + (D + 1) by omega, Nat.add_mul]; omega
theorem Sy.sub {N M D K : Nat} (h : Sy N M D) (hK : K % 2 = 0) (hle : D ≤ K) : Sy (K * M - N) M (K - D) := by
  rcases h with rfl | ⟨h1, h2, h3⟩
  · exact Or.inl (Nat.sub_mul _ _ _).symm
  · have e : K = (K - D - 1) + (D + 1) := by omega
    have e1 : K * M = (K - D - 1) * M + (D + 1) * M := by rw [← Nat.add_mul, ← e]
    have e2 : K * M = (K - D + 1) * M + (D - 1) * M := by rw [← Nat.add_mul, show K - D + 1 + (D - 1) = K by omega]
    refine Or.inr ⟨by omega, ?_, ?_⟩
    · omega
    · omega
theorem q_m26 {x : Nat} (h : x < 2 ^ 64) : lN x &&& 67108863 = lN (x % 2 ^ 26) := by rw [show (67108863 : Int64) = lN (2 ^ 26 - 1) from rfl, q_mask (by decide) h]
theorem q_s26 {x : Nat} (h : x < 2 ^ 64) : ushr64 (lN x) 26 = lN (x / 2 ^ 26) := by rw [show (26 : Int32) = nI 26 from rfl, q_ushr h (by decide)]
theorem shS_49 {l : Nat} (h : l < 2 ^ 52) : shS l 49 < 8 := by unfold shS; split <;> omega
theorem prod_id {A1 A0 B1 B0 m1 m0 lo h1 l0 : Nat} (hm : A1 * B0 + A0 * B1 = m1 * 2 ^ 26 + m0) (hl : A0 * B0 + m0 * 2 ^ 26 = lo) (hh : lo = h1 * 2 ^ 52 + l0) : (A1 * 2 ^ 26 + A0) * (B1 * 2 ^ 26 + B0) = (A1 * B1 + m1 + h1) * 2 ^ 52 + l0 := by
  have e : (A1 * 2 ^ 26 + A0) * (B1 * 2 ^ 26 + B0) = A1 * B1 * 2 ^ 52 + (A1 * B0 + A0 * B1) * 2 ^ 26 + A0 * B0 := by
    rw [Nat.add_mul, Nat.mul_add, Nat.mul_add, Nat.add_mul]
    rw [show A1 * 2 ^ 26 * (B1 * 2 ^ 26) = A1 * B1 * (2 ^ 26 * 2 ^ 26) by ac_rfl, show A1 * 2 ^ 26 * B0 = A1 * B0 * 2 ^ 26 by ac_rfl, show A0 * (B1 * 2 ^ 26) = A0 * B1 * 2 ^ 26 by ac_rfl]
    omega
  rw [e, hm]
  omega
theorem dProd_N {A B : Nat} (hA : A < 2 ^ 53) (hB : B < 2 ^ 53) : ∃ D, dProd (lN A) (lN B) = lN D ∧ Sy (A * B) (2 ^ 49) D ∧ D = A * B / 2 ^ 52 * 8 + shS (A * B % 2 ^ 52) 49 := by
  have a0 : A % 2 ^ 26 < 2 ^ 26 := Nat.mod_lt _ (by decide)
  have b0 : B % 2 ^ 26 < 2 ^ 26 := Nat.mod_lt _ (by decide)
  have a1 : A / 2 ^ 26 < 2 ^ 27 := by omega
  have b1 : B / 2 ^ 26 < 2 ^ 27 := by omega
  have p1 : A / 2 ^ 26 * (B % 2 ^ 26) < 2 ^ 53 := Nat.lt_of_lt_of_le (Nat.mul_lt_mul'' a1 b0) (by decide)
  have p2 : A % 2 ^ 26 * (B / 2 ^ 26) < 2 ^ 53 := Nat.lt_of_lt_of_le (Nat.mul_lt_mul'' a0 b1) (by decide)
  have p3 : A % 2 ^ 26 * (B % 2 ^ 26) < 2 ^ 52 := Nat.lt_of_lt_of_le (Nat.mul_lt_mul'' a0 b0) (by decide)
  have p4 : A / 2 ^ 26 * (B / 2 ^ 26) < 2 ^ 54 := Nat.lt_of_lt_of_le (Nat.mul_lt_mul'' a1 b1) (by decide)
  have eA : A / 2 ^ 26 * 2 ^ 26 + A % 2 ^ 26 = A := by rw [Nat.mul_comm]; exact Nat.div_add_mod A _
  have eB : B / 2 ^ 26 * 2 ^ 26 + B % 2 ^ 26 = B := by rw [Nat.mul_comm]; exact Nat.div_add_mod B _
  obtain ⟨m, hm⟩ : ∃ m, A / 2 ^ 26 * (B % 2 ^ 26) + A % 2 ^ 26 * (B / 2 ^ 26) = m := ⟨_, rfl⟩
  obtain ⟨lo, hlo⟩ : ∃ lo, A % 2 ^ 26 * (B % 2 ^ 26) + m % 2 ^ 26 * 2 ^ 26 = lo := ⟨_, rfl⟩
  have hid := prod_id (A1 := A / 2 ^ 26) (A0 := A % 2 ^ 26) (B1 := B / 2 ^ 26) (B0 := B % 2 ^ 26) (m1 := m / 2 ^ 26) (m0 := m % 2 ^ 26) (h1 := lo / 2 ^ 52) (l0 := lo % 2 ^ 52) (by omega) hlo (by omega)
  rw [eA, eB] at hid
  obtain ⟨hi, hhi⟩ : ∃ hi, A / 2 ^ 26 * (B / 2 ^ 26) + m / 2 ^ 26 + lo / 2 ^ 52 = hi := ⟨_, rfl⟩
  rw [hhi] at hid
  have hlo2 : lo % 2 ^ 52 < 2 ^ 52 := Nat.mod_lt _ (by decide)
  have hq : A * B / 2 ^ 52 = hi := by rw [hid]; omega
  have hr : A * B % 2 ^ 52 = lo % 2 ^ 52 := by rw [hid]; omega
  refine ⟨_, ?_, ?_, rfl⟩
  · rw [dProd, q_m26 (by omega), q_m26 (by omega), q_s26 (by omega), q_s26 (by omega), lN_mul, lN_mul, lN_mul, lN_mul, lN_add, hm, q_m26 (by omega), q_s26 (by omega), show (26 : Int32) = nI 26 from rfl, q_shl _ (by decide), lN_add, lN_add, hlo, show (52 : Int32) = nI 52 from rfl, q_ushr (by omega) (by decide), lN_add, hhi, show (3 : Int32) = nI 3 from rfl, q_shl _ (by decide), show (4503599627370495 : Int64) = lN (2 ^ 52 - 1) from by decide +kernel, q_mask (by decide) (by omega), show (49 : Int32) = nI 49 from rfl, dShift_N (by omega) (by decide), hq, hr]
    exact q_or (k := 3) (shS_49 hlo2) (by have := shS_49 hlo2; omega)
  · rw [hq, hr, hid]
    have := (shS_y (lo % 2 ^ 52) 49).add (K := hi * 8) (by omega)
    rw [Nat.mul_assoc hi, show (8 : Nat) * 2 ^ 49 = 2 ^ 52 from by decide] at this
    exact this
/-- both finite, neither zero -/
theorem mul_fin {X Y : Nat} (hX : X < 2 ^ 64) (hY : Y < 2 ^ 64) (hx : X % 2 ^ 63 < 2047 * 2 ^ 52) (hy : Y % 2 ^ 63 < 2047 * 2 ^ 52) : FP.Core.mul FP.Core.b64 X Y = FP.Core.encode FP.Core.b64 (FP.Core.roundRatio FP.Core.b64 (sB X != sB Y) (dgN (X % 2 ^ 63) * dgN (Y % 2 ^ 63)) 1 ((eN (X % 2 ^ 63) : Int) - 1075 + ((eN (Y % 2 ^ 63) : Int) - 1075))) := by
  rw [FP.Core.mul, val_N hX hx, val_N hY hy]; rfl
theorem dMul_fin {s : Bool} {x y : Nat} (hx : x < 2047 * 2 ^ 52) (hy : y < 2047 * 2 ^ 52) (x0 : 0 < x) (y0 : 0 < y) : uN (dRound (sg s) (dScale (lN x) - (dLz (dDig (lN x)) - 11) + dScale (lN y) - (dLz (dDig (lN y)) - 11) - 1075 + 49 + 3) (dProd (dUp (lN x)) (dUp (lN y)))) = FP.Core.encode FP.Core.b64 (FP.Core.roundRatio FP.Core.b64 s (dgN x * dgN y) 1 ((eN x : Int) - 1075 + ((eN y : Int) - 1075))) := by
  obtain ⟨u, u1, u2, u3, u4, u5⟩ := dUp_N x0 (by omega)
  obtain ⟨v, v1, v2, v3, v4, v5⟩ := dUp_N y0 (by omega)
  obtain ⟨D, d1, d2, d3⟩ := dProd_N u5 v5
  have hex := eN_b (m := x) (by omega)
  have hey := eN_b (m := y) (by omega)
  have hP1 : 2 ^ 52 * 2 ^ 52 ≤ dgN x * 2 ^ u * (dgN y * 2 ^ v) := Nat.mul_le_mul u4 v4
  have hP2 : dgN x * 2 ^ u * (dgN y * 2 ^ v) < 2 ^ 53 * 2 ^ 53 := Nat.mul_lt_mul'' u5 v5
  have hs := shS_49 (l := dgN x * 2 ^ u * (dgN y * 2 ^ v) % 2 ^ 52) (Nat.mod_lt _ (by decide))
  have eC : dScale (lN x) - (dLz (dDig (lN x)) - 11) + dScale (lN y) - (dLz (dDig (lN y)) - 11) - 1075 + 49 + 3 = iI ((eN x : Int) - u + eN y - v - 1075 + 49 + 3) := by
    rw [u2, v2, dScale_N (by omega), dScale_N (by omega), Nat.mod_eq_of_lt (show x < 2 ^ 63 by omega), Nat.mod_eq_of_lt (show y < 2 ^ 63 by omega), iI_sub, iI_add, iI_sub, show (1075 : Int32) = iI 1075 from rfl, iI_sub, show (49 : Int32) = iI 49 from rfl, iI_add, show (3 : Int32) = iI 3 from rfl, iI_add]
  rw [eC, u3, v3, d1, dRound_N (by omega) (by decide) (by omega) (by omega) d2 (Or.inr (by omega))]
  congr 1
  refine FP.Core.roundRatio_congr (by decide) (by decide) ?_
  rw [Nat.mul_one]
  have e3 : dgN x * 2 ^ u * (dgN y * 2 ^ v) = dgN x * dgN y * 2 ^ (u + v) := by rw [Nat.pow_add]; ac_rfl
  rw [e3, Nat.mul_assoc, Nat.mul_assoc (dgN x * dgN y), ← Nat.pow_add, ← Nat.pow_add]
  congr 2
  omega
theorem D_mul : DB_mul := fun a b ha hb => by
  have hX := uN_lt a
  have hY := uN_lt b
  rw [a_lN a, a_lN b]
  generalize uN a = X at *
  generalize uN b = Y at *
  clear ha hb
  rw [dMul, q_sgn hX hY, dAbs_N hX, dAbs_N hY, dMulX, mTimes, mTimesN, cz_nan, cz_nan, mEnd_N, mEnd_N, cz_c0, cz_c0, iNN hX, iNN hY]
  have hx : X % 2 ^ 63 < 2 ^ 63 := Nat.mod_lt _ (by decide)
  have hy : Y % 2 ^ 63 < 2 ^ 63 := Nat.mod_lt _ (by decide)
  have hm : FP.dmul (lN X).toUInt64 (lN Y).toUInt64 = UInt64.ofNat (FP.Core.mul FP.Core.b64 X Y) := by
    show UInt64.ofNat (FP.Core.mul FP.Core.b64 _ _) = _
    rw [u_N hX, u_N hY]
  have hfit : FP.Core.fits FP.Core.b64 (FP.Core.round FP.Core.b64 (FP.Core.exactProduct (FP.Core.decode FP.Core.b64 X) (FP.Core.decode FP.Core.b64 Y))) := FP.Core.round_fits FP.Core.good_b64 _
  have hres : ∀ v : Int64, uN v = FP.Core.mul FP.Core.b64 X Y → v.toUInt64 = FP.dmul (lN X).toUInt64 (lN Y).toUInt64 ∧ CN (FP.dmul (lN X).toUInt64 (lN Y).toUInt64) := fun v hv => by
    rw [hm]
    refine ⟨eq_N ?_, CN_enc hfit⟩
    rw [hv]
    exact (enc_N hfit).symm
  have cI : (9218868437227405312 : Int64) = lN (2047 * 2 ^ 52) := by decide +kernel
  have l1 : (9218868437227405312 : Int64) < lN (X % 2 ^ 63) ↔ 2047 * 2 ^ 52 < X % 2 ^ 63 := by rw [cI, q_lt (by decide) hx]
  have l2 : lN (Y % 2 ^ 63) ≤ (9218868437227405312 : Int64) ↔ Y % 2 ^ 63 ≤ 2047 * 2 ^ 52 := by rw [cI, q_le hy (by decide)]
  have l3 : lN (X % 2 ^ 63) = (9218868437227405312 : Int64) ↔ X % 2 ^ 63 = 2047 * 2 ^ 52 := by rw [cI, q_eq (by omega) (by decide)]
  have l4 : lN (Y % 2 ^ 63) = (9218868437227405312 : Int64) ↔ Y % 2 ^ 63 = 2047 * 2 ^ 52 := by rw [cI, q_eq (by omega) (by decide)]
  have l5 : lN (X % 2 ^ 63) = 0 ↔ X % 2 ^ 63 = 0 := by rw [show (0 : Int64) = lN 0 from rfl, q_eq (by omega) (by decide)]
  have l6 : lN (Y % 2 ^ 63) = 0 ↔ Y % 2 ^ 63 = 0 := by rw [show (0 : Int64) = lN 0 from rfl, q_eq (by omega) (by decide)]
  simp only [l1, l2, l3, l4, l5, l6]
  by_cases n1 : 2047 * 2 ^ 52 < X % 2 ^ 63
  · rw [if_neg (fun z => z n1), if_pos (by rw [show decide (X % 2 ^ 63 ≤ 9218868437227405312) = false from decide_eq_false (by omega)]; rfl)]
    exact ⟨rfl, CN_c⟩
  by_cases n2 : 2047 * 2 ^ 52 < Y % 2 ^ 63
  · rw [if_pos n1, if_neg (by omega), if_pos (by rw [show decide (Y % 2 ^ 63 ≤ 9218868437227405312) = false from decide_eq_false (by omega)]; simp)]
    exact ⟨rfl, CN_c⟩
  rw [if_pos n1, if_pos (by omega), show decide (X % 2 ^ 63 ≤ 9218868437227405312) = true from decide_eq_true (by omega), show decide (Y % 2 ^ 63 ≤ 9218868437227405312) = true from decide_eq_true (by omega)]
  by_cases i : X % 2 ^ 63 = 2047 * 2 ^ 52 ∨ Y % 2 ^ 63 = 2047 * 2 ^ 52
  · rw [if_pos i]
    by_cases z : X % 2 ^ 63 = 0 ∨ Y % 2 ^ 63 = 0
    · rw [if_pos z, if_pos]
      · exact ⟨rfl, CN_c⟩
      · simp; omega
    · rw [if_neg z, if_neg (by simp; omega)]
      apply hres
      rw [sg_inf, FP.Core.mul]
      by_cases iX : X % 2 ^ 63 = 2047 * 2 ^ 52
      · by_cases iY : Y % 2 ^ 63 = 2047 * 2 ^ 52
        · rw [val_I hX iX, val_I hY iY]; exact infN.symm
        · rw [val_I hX iX, val_N hY (by omega), FP.Core.exactProduct, if_neg (by have := dgN_pos (show 0 < Y % 2 ^ 63 by omega); omega)]; exact infN.symm
      · rw [val_N hX (by omega), val_I hY (by omega), FP.Core.exactProduct, if_neg (by have := dgN_pos (show 0 < X % 2 ^ 63 by omega); omega)]; exact infN.symm
  · rw [if_neg i]
    have nn : ¬ ((!true || !true || decide (X % 2 ^ 63 = 0) && decide (Y % 2 ^ 63 = 9218868437227405312) || decide (Y % 2 ^ 63 = 0) && decide (X % 2 ^ 63 = 9218868437227405312)) = true) := by simp; omega
    rw [if_neg nn]
    have fx : X % 2 ^ 63 < 2047 * 2 ^ 52 := by omega
    have fy : Y % 2 ^ 63 < 2047 * 2 ^ 52 := by omega
    apply hres
    rw [mul_fin hX hY fx fy]
    by_cases z : X % 2 ^ 63 = 0 ∨ Y % 2 ^ 63 = 0
    · have hz : dgN (X % 2 ^ 63) * dgN (Y % 2 ^ 63) = 0 := by
        rcases z with z | z
        · rw [z, dgN_0, Nat.zero_mul]
        · rw [z, dgN_0, Nat.mul_zero]
      rw [if_pos z, hz, rr_0, zeroN, sg_u]
    · rw [if_neg z]
      exact dMul_fin fx fy (by omega) (by omega)
