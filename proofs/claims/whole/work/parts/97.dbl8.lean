/-! DOUBLEs: roots, alike -/
theorem sqN_snoc (x : Nat) : ∀ (n i a r : Nat), sqN x (n + 1) i a r = sqS (sqN x n i a r).1 (4 * (sqN x n i a r).2 + sqP x (i + n))
  | 0, i, a, r => by rw [sqN, sqN, sqN]; rfl
  | n + 1, i, a, r => by
    rw [sqN, sqN_snoc x n (i + 1), show i + 1 + n = i + (n + 1) by omega, sqN]
theorem sqN_ge (x : Nat) : ∀ (n i a r : Nat), a * 2 ^ n ≤ (sqN x n i a r).1
  | 0, i, a, r => by rw [sqN, Nat.pow_zero, Nat.mul_one]; exact Nat.le_refl _
  | n + 1, i, a, r => by
    rw [sqN]
    refine Nat.le_trans ?_ (sqN_ge x n (i + 1) _ _)
    have h : 2 * a ≤ (sqS a (4 * r + sqP x i)).1 := by unfold sqS; split <;> (dsimp only; omega)
    have h2 := Nat.mul_le_mul_right (2 ^ n) h
    rw [Nat.pow_succ, show a * (2 ^ n * 2) = 2 * a * 2 ^ n by ac_rfl]
    exact h2
theorem sqN_lo {x : Nat} (h1 : 2 ^ 52 ≤ x) (h2 : x < 2 ^ 54) : 2 ^ 54 ≤ (sqN x 55 0 0 0).1 ∧ (sqN x 55 0 0 0).1 < 2 ^ 55 := by
  constructor
  · have hp : 1 ≤ sqP x 0 := by
      unfold sqP
      rw [if_pos (by decide)]
      omega
    have hS : sqS 0 (4 * 0 + sqP x 0) = (1, sqP x 0 - 1) := by
      unfold sqS
      rw [if_neg (by omega)]
      simp
    rw [show (55 : Nat) = 54 + 1 from rfl, sqN, hS]
    have := sqN_ge x 54 (0 + 1) 1 (sqP x 0 - 1)
    rw [Nat.one_mul] at this
    exact this
  · exact (sqN_inv x 55 0 0 0 (by decide) (by decide)).1
theorem dSq_N {x : Nat} (h : x < 2 ^ 54) : dSq (lN x) = lN (2 * (sqN x 55 0 0 0).1 + if (sqN x 55 0 0 0).2 = 0 then 0 else 1) := by
  have hg := sqGo_N h 56 0 0 0 (by decide) (by decide) (by decide)
  have hi := sqN_inv x 55 0 0 0 (by decide) (by decide)
  have hs := sqN_snoc x 55 0 0 0
  have hp : sqP x (0 + 55) = 0 := by unfold sqP; rw [if_neg (by decide)]
  rw [hp, Nat.add_zero (4 * (sqN x 55 0 0 0).2)] at hs
  have hg' : sqGo (lN x) 56 0 0 0 = (lN (sqN x 56 0 0 0).1, lN (sqN x 56 0 0 0).2) := hg
  rw [dSq, hg', show (56 : Nat) = 55 + 1 from rfl, hs]
  generalize (sqN x 55 0 0 0).1 = a at *
  generalize (sqN x 55 0 0 0).2 = r at *
  dsimp only
  have ha : a < 2 ^ 55 := hi.1
  have hr : r ≤ 2 * a := hi.2
  clear hg hg' hs hp hi
  unfold sqS
  by_cases c : 4 * r < 4 * a + 1
  · rw [if_pos c]
    dsimp only
    by_cases c0 : r = 0
    · rw [c0, if_pos (by rfl), if_pos rfl]; rfl
    · rw [if_neg (fun z => by have := (q_eq (show 4 * r < 2 ^ 64 by omega) (show 0 < 2 ^ 64 by decide)).mp z; omega), if_neg c0, q_or1 (by omega)]
      congr 1; omega
  · rw [if_neg c]
    dsimp only
    rw [if_neg (fun z => by have := (q_eq (show 4 * r - (4 * a + 1) < 2 ^ 64 by omega) (show 0 < 2 ^ 64 by decide)).mp z; omega), if_neg (show ¬ r = 0 by omega), q_or1 (by omega)]
    congr 1; omega
theorem rt_near (a r : Nat) : FP.Core.nearest (2 * a + if r = 0 then 0 else 1) 8 = if rtUp a r = true then a / 4 + 1 else a / 4 := by
  rw [near8]
  have hu : rtUp a r = true ↔ (2 < a % 4 ∨ (a % 4 = 2 ∧ (¬ r = 0 ∨ a / 4 % 2 = 1))) := by
    unfold rtUp
    rw [Bool.or_eq_true, Bool.and_eq_true, Bool.or_eq_true, decide_eq_true_eq, decide_eq_true_eq, Bool.not_eq_true', decide_eq_false_iff_not, decide_eq_true_eq]
  by_cases c : rtUp a r = true
  · rw [if_pos c]
    have := hu.mp c
    by_cases c0 : r = 0
    · rw [if_pos c0]; (repeat' split) <;> omega
    · rw [if_neg c0]; (repeat' split) <;> omega
  · rw [if_neg c]
    have : ¬ (2 < a % 4 ∨ (a % 4 = 2 ∧ (¬ r = 0 ∨ a / 4 % 2 = 1))) := fun z => c (hu.mpr z)
    by_cases c0 : r = 0
    · rw [if_pos c0]; (repeat' split) <;> omega
    · rw [if_neg c0]; (repeat' split) <;> omega
theorem nrm_t : ∀ (f a n : Nat), 2 ^ 52 ≤ a * 2 ^ f → a < 2 ^ 53 → f ≤ n → ∃ t, t ≤ f ∧ nrm f a n = (a * 2 ^ t, n - t) ∧ 2 ^ 52 ≤ a * 2 ^ t ∧ a * 2 ^ t < 2 ^ 53
  | 0, a, n, h1, h2, _ => ⟨0, Nat.le_refl _, by rw [nrm, Nat.pow_zero, Nat.mul_one]; rfl, h1, by rw [Nat.pow_zero, Nat.mul_one]; exact h2⟩
  | f + 1, a, n, h1, h2, h3 => by
    rw [nrm]
    by_cases c : a < 2 ^ 52
    · rw [if_pos c]
      obtain ⟨t, t1, t2, t3, t4⟩ := nrm_t f (2 * a) (n - 1) (by rw [show a * 2 ^ (f + 1) = 2 * a * 2 ^ f from by rw [Nat.pow_succ]; ac_rfl] at h1; exact h1) (by omega) (by omega)
      have e : 2 * a * 2 ^ t = a * 2 ^ (t + 1) := by rw [Nat.pow_succ]; ac_rfl
      rw [e] at t2 t3 t4
      exact ⟨t + 1, by omega, by rw [t2, show n - 1 - t = n - (t + 1) by omega], t3, t4⟩
    · rw [if_neg c]
      exact ⟨0, Nat.zero_le _, by rw [Nat.pow_zero, Nat.mul_one]; rfl, by rw [Nat.pow_zero, Nat.mul_one]; omega, by rw [Nat.pow_zero, Nat.mul_one]; exact h2⟩
theorem pow_uniq {c t u : Nat} (h1 : 2 ^ 52 ≤ c * 2 ^ t) (h2 : c * 2 ^ t < 2 ^ 53) (h3 : 2 ^ 52 ≤ c * 2 ^ u) (h4 : c * 2 ^ u < 2 ^ 53) : t = u := by
  rcases Nat.lt_trichotomy t u with z | z | z
  · exfalso
    have a1 : 2 ^ (t + 1) ≤ 2 ^ u := Nat.pow_le_pow_right (by decide) z
    have a2 := Nat.mul_le_mul_left c a1
    rw [Nat.pow_succ, ← Nat.mul_assoc] at a2
    omega
  · exact z
  · exfalso
    have a1 : 2 ^ (u + 1) ≤ 2 ^ t := Nat.pow_le_pow_right (by decide) z
    have a2 := Nat.mul_le_mul_left c a1
    rw [Nat.pow_succ, ← Nat.mul_assoc] at a2
    omega
theorem pw_od2 {n : Nat} (h : n < 2 ^ 31) : pw n &&& 1 = nI (n % 2) := by
  apply i32_ext
  have e1 : (pw n).toBitVec.toNat = (n + (2 ^ 32 - 1128)) % 2 ^ 32 := by
    unfold pw
    rw [Int32.toBitVec_sub, BitVec.toNat_sub]
    have e2 : (nI n).toBitVec.toNat = n := by
      show (BitVec.ofNat 32 n).toNat = n
      rw [BitVec.toNat_ofNat, Nat.mod_eq_of_lt (by omega)]
    rw [e2, show (1128 : Int32).toBitVec.toNat = 1128 from rfl, Nat.add_comm]
  rw [Int32.toBitVec_and, BitVec.toNat_and, e1, show (1 : Int32).toBitVec.toNat = 1 from rfl, Nat.and_one_is_mod]
  have e3 : (nI (n % 2)).toBitVec.toNat = n % 2 := by
    show (BitVec.ofNat 32 (n % 2)).toNat = _
    rw [BitVec.toNat_ofNat, Nat.mod_eq_of_lt (by omega)]
  rw [e3]
  omega
theorem pw_i (n : Nat) : pw n = iI ((n : Int) - 1128) := by
  rw [pw, ← iI_n, show (1128 : Int32) = iI 1128 from rfl, iI_sub]
theorem shr_i {v : Int} (h : -2147483648 ≤ v ∧ v < 2147483648) : shr32 (iI v) 1 = iI (v / 2) := by
  apply Int32.toInt_inj.mp
  have e : (shr32 (iI v) 1).toInt = (iI v).toInt >>> 1 := pk_shr (iI v) ((1 : Int32) &&& 31) 1 (by decide)
  rw [e, Int.shiftRight_eq_div_pow, iI_ti h, iI_ti (by omega)]
  rfl
/-- twice a number is another one -/
theorem dbl_ne {X : Nat} (h0 : 0 < X) (h : X < 2047 * 2 ^ 52) : ∃ Z, Z ≠ X ∧ Z ≤ 2047 * 2 ^ 52 ∧ (FP.dmul (lN X).toUInt64 4611686018427387904).toNat = Z := by
  have hX : X < 2 ^ 64 := by omega
  have hm : X % 2 ^ 63 = X := by omega
  have hs : sB X = false := decide_eq_false (by omega)
  have hfit : FP.Core.fits FP.Core.b64 (FP.Core.round FP.Core.b64 (FP.Core.exactProduct (FP.Core.decode FP.Core.b64 X) (FP.Core.decode FP.Core.b64 4611686018427387904))) := FP.Core.round_fits FP.Core.good_b64 _
  have e1 : (FP.dmul (lN X).toUInt64 4611686018427387904).toNat = FP.Core.mul FP.Core.b64 X 4611686018427387904 := by
    show (UInt64.ofNat (FP.Core.mul FP.Core.b64 _ _)).toNat = _
    rw [u_N hX, show (4611686018427387904 : UInt64).toNat = 4611686018427387904 from rfl]
    exact enc_N hfit
  rw [e1, mul_fin hX (by decide) (by omega) (by decide), hm, hs, show sB 4611686018427387904 = false from by decide +kernel, show dgN (4611686018427387904 % 2 ^ 63) = 2 ^ 52 from by decide +kernel, show eN (4611686018427387904 % 2 ^ 63) = 1024 from by decide +kernel]
  have hc := dgN_pos h0
  have hb := dgN_b (m := X)
  have e2 : FP.Core.roundRatio FP.Core.b64 (false != false) (dgN X * 2 ^ 52) 1 ((eN X : Int) - 1075 + ((1024 : Nat) - 1075)) = FP.Core.roundRatio FP.Core.b64 false (dgN X) 1 ((eN X : Int) - 1074) := by
    refine FP.Core.roundRatio_congr (by decide) (by decide) ?_
    rw [show ((eN X : Int) - 1075 + (((1024 : Nat) : Int) - 1075) - ((eN X : Int) - 1074)).toNat = 0 by omega, show ((eN X : Int) - 1074 - ((eN X : Int) - 1075 + (((1024 : Nat) : Int) - 1075))).toNat = 52 by omega]
    simp only [Nat.pow_zero, Nat.mul_one]
  rw [e2]
  by_cases c : 2 ^ 52 ≤ X
  · obtain ⟨g1, g2⟩ := eN_E c
    have hE : X / 2 ^ 52 ≤ 2046 := by omega
    rw [rr_up (u := 3) (n := X / 2 ^ 52) (by decide) hc (Sy.rf _) (Or.inl (Nat.mul_one _).symm) (by rw [g1]; omega) (by omega) (Or.inr (by omega)), show dgN X * 2 ^ 3 = dgN X * 8 from rfl, near_8m, enc_set (by omega) (Or.inr (by omega)), show (false).toNat = 0 from rfl, Nat.zero_mul, Nat.zero_add]
    refine ⟨_, ?_, ?_, rfl⟩
    · split <;> omega
    · split <;> omega
  · have g1 : eN X = 1 := by unfold eN; rw [if_pos (by omega)]
    have g2 : dgN X = X := by unfold dgN; rw [if_pos (by omega)]; omega
    have e3 : FP.Core.roundRatio FP.Core.b64 false (dgN X) 1 ((eN X : Int) - 1074) = FP.Core.roundRatio FP.Core.b64 false (2 * X) 1 (-1074) := by
      refine FP.Core.roundRatio_congr (by decide) (by decide) ?_
      rw [g1, g2, show (((1 : Nat) : Int) - 1074 - -1074).toNat = 1 by omega, show (-1074 - (((1 : Nat) : Int) - 1074)).toNat = 0 by omega]
      omega
    rw [e3, rr_up (u := 3) (n := 0) (by decide) (by omega) (Sy.rf _) (Or.inl (Nat.mul_one _).symm) (by omega) (by omega) (Or.inl rfl), show 2 * X * 2 ^ 3 = 2 * X * 8 from rfl, near_8m, enc_set (by omega) (Or.inl rfl), if_pos (by decide), show (false).toNat = 0 from rfl]
    exact ⟨_, by omega, by omega, rfl⟩
theorem dSqrt_pos {X n sh : Nat} (h0 : 0 < X) (h : X < 2047 * 2 ^ 52) (hsh : dLz (dDig (lN X)) - 11 = iI sh) (h64 : sh < 62) (hn : n + sh = eN X + 53) (h1 : 2 ^ 52 ≤ dgN X * 2 ^ sh) (h2 : dgN X * 2 ^ sh < 2 ^ 53) : uN (dRound 0 (shr32 (rPow (lN X) - (rPow (lN X) &&& 1)) 1 - 29 + 1075 + 3) (dSq (shl64 (dDig (lN X)) (dLz (dDig (lN X)) - 11 + (rPow (lN X) &&& 1))))) = (n / 2 + 484) * 2 ^ 52 + FP.Core.nearest (2 * (sqN (dgN X * 2 ^ (sh + n % 2)) 55 0 0 0).1 + if (sqN (dgN X * 2 ^ (sh + n % 2)) 55 0 0 0).2 = 0 then 0 else 1) 8 := by
  have hex := eN_b (m := X) (by omega)
  have hX : X < 2 ^ 64 := by omega
  have hm : X % 2 ^ 63 = X := by omega
  have eP : rPow (lN X) = pw n := by
    rw [rPow, hsh, dScale_N hX, hm, iI_sub, show (1075 : Int32) = iI 1075 from rfl, iI_sub, pw_i]
    congr 1; omega
  have eA : pw n &&& 1 = nI (n % 2) := pw_od2 (by omega)
  have eS : shr32 (pw n - nI (n % 2)) 1 - 29 + 1075 + 3 = iI ((n / 2 : Nat) + 485) := by
    rw [pw_i, ← iI_n, iI_sub, shr_i (by omega), show (29 : Int32) = iI 29 from rfl, iI_sub, show (1075 : Int32) = iI 1075 from rfl, iI_add, show (3 : Int32) = iI 3 from rfl, iI_add]
    congr 1; omega
  have ho : n % 2 < 2 := Nat.mod_lt _ (by decide)
  have hx : dgN X * 2 ^ (sh + n % 2) < 2 ^ 54 ∧ 2 ^ 52 ≤ dgN X * 2 ^ (sh + n % 2) := by
    rw [Nat.pow_add, ← Nat.mul_assoc]
    rcases (show n % 2 = 0 ∨ n % 2 = 1 by omega) with z | z
    · rw [z, Nat.pow_zero, Nat.mul_one]; omega
    · rw [z, Nat.pow_one]; omega
  rw [eP, eA, eS, hsh, iI_n, nI_add, dDig_N hX, hm, q_shl _ (by omega), dSq_N hx.1]
  obtain ⟨a1, a2⟩ := sqN_lo hx.2 hx.1
  generalize (sqN (dgN X * 2 ^ (sh + n % 2)) 55 0 0 0).1 = a at *
  generalize (sqN (dgN X * 2 ^ (sh + n % 2)) 55 0 0 0).2 = r at *
  obtain ⟨D, hD⟩ : ∃ D, (2 * a + if r = 0 then 0 else 1) = D := ⟨_, rfl⟩
  have hD1 : 2 ^ 55 ≤ D ∧ D < 2 ^ 56 := by rw [← hD]; split <;> omega
  rw [hD, show (0 : Int64) = sg false from by decide +kernel, dRound_N (N := D) (M := 1) (by omega) (by decide) (by omega) (by omega) (Sy.rf D) (Or.inl (Nat.mul_one D).symm), rr_up (u := 0) (n := n / 2 + 484) (by decide) (by omega) (Sy.rf D) (Or.inl (Nat.mul_one D).symm) (by omega) (by rw [Nat.pow_zero, Nat.mul_one]; exact hD1.2) (Or.inr (by rw [Nat.pow_zero, Nat.mul_one]; exact hD1.1)), Nat.pow_zero, Nat.mul_one, enc_set (near8_le hD1.2) (Or.inr (near8_ge hD1.1)), if_pos (by omega), show (false).toNat = 0 from rfl, Nat.zero_mul, Nat.zero_add]
theorem rt_B {X n sh : Nat} (h0 : 0 < X) (h : X < 2047 * 2 ^ 52) (hn : n + sh = eN X + 53) (h1 : 2 ^ 52 ≤ dgN X * 2 ^ sh) (h2 : dgN X * 2 ^ sh < 2 ^ 53) : rtB X = (n / 2 + 484) * 2 ^ 52 + FP.Core.nearest (2 * (sqN (dgN X * 2 ^ (sh + n % 2)) 55 0 0 0).1 + if (sqN (dgN X * 2 ^ (sh + n % 2)) 55 0 0 0).2 = 0 then 0 else 1) 8 := by
  have hc := dgN_pos h0
  have hb := dgN_b (m := X)
  have eA : rtA X = dgN X := by
    unfold rtA dgN
    by_cases c : X / 2 ^ 52 = 0
    · rw [if_neg (by omega), if_pos c]
    · rw [if_pos (by omega), if_neg c]
  have eE : rtE X = eN X + 53 := by
    unfold rtE eN
    by_cases c : X / 2 ^ 52 = 0
    · rw [if_neg (by omega), if_pos c]
    · rw [if_pos (by omega), if_neg c]
  have he := eN_b (m := X) (by omega)
  obtain ⟨t, t1, t2, t3, t4⟩ := nrm_t 52 (rtA X) (rtE X) (by rw [eA]; exact Nat.le_mul_of_pos_left _ hc) (by rw [eA]; exact hb) (by rw [eE]; omega)
  rw [eA] at t2 t3 t4
  have hts := pow_uniq t3 t4 h1 h2
  subst hts
  have e1 : rt1 X = (dgN X * 2 ^ t, n) := by rw [rt1, eA, t2, eE, show eN X + 53 - t = n by omega]
  have e2 : rt2 X = (dgN X * 2 ^ (t + n % 2), n - n % 2) := by
    rw [rt2, e1]
    dsimp only
    rcases (show n % 2 = 0 ∨ n % 2 = 1 by omega) with z | z
    · rw [if_pos z, z]; rfl
    · rw [if_neg (by omega), z, show 2 * (dgN X * 2 ^ t) = dgN X * 2 ^ (t + 1) by rw [Nat.pow_succ]; ac_rfl]
  have hx : dgN X * 2 ^ (t + n % 2) < 2 ^ 54 ∧ 2 ^ 52 ≤ dgN X * 2 ^ (t + n % 2) := by
    rw [Nat.pow_add, ← Nat.mul_assoc]
    rcases (show n % 2 = 0 ∨ n % 2 = 1 by omega) with z | z
    · rw [z, Nat.pow_zero, Nat.mul_one]; omega
    · rw [z, Nat.pow_one]; omega
  obtain ⟨a1, a2⟩ := sqN_lo hx.2 hx.1
  have e3 : rtK X = FP.Core.nearest (2 * (sqN (dgN X * 2 ^ (t + n % 2)) 55 0 0 0).1 + if (sqN (dgN X * 2 ^ (t + n % 2)) 55 0 0 0).2 = 0 then 0 else 1) 8 := by
    rw [rtK, rt3, e2, rt_near]
  rw [rtB, e2, e3]
  dsimp only
  generalize (sqN (dgN X * 2 ^ (t + n % 2)) 55 0 0 0).1 = a at *
  generalize (sqN (dgN X * 2 ^ (t + n % 2)) 55 0 0 0).2 = r at *
  have hD1 : 2 ^ 55 ≤ (2 * a + if r = 0 then 0 else 1) ∧ (2 * a + if r = 0 then 0 else 1) < 2 ^ 56 := by split <;> omega
  have k1 := near8_le hD1.2
  have k2 := near8_ge hD1.1
  generalize FP.Core.nearest (2 * a + if r = 0 then 0 else 1) 8 = K at *
  clear hx e1 e2 e3 eA eE t2 h1 h2 t3 t4 hD1
  split <;> omega
theorem D_root : DB_root := fun a ha => by
  have hX := uN_lt a
  have hc : CN (lN (uN a)).toUInt64 := by rw [← a_lN a]; exact ha
  rw [a_lN a]
  generalize uN a = X at *
  have hk := dkey_N (a := (lN X).toUInt64)
  rw [u_N hX] at hk
  have hnn := lN_nn hX
  have ha0 : dAbs (lN X) = 0 ↔ X % 2 ^ 63 = 0 := by rw [dAbs_N hX, show (0 : Int64) = lN 0 from rfl, q_eq (by omega) (by decide)]
  have hI : lN X = 9218868437227405312 ↔ X = 2047 * 2 ^ 52 := by rw [show (9218868437227405312 : Int64) = lN (2047 * 2 ^ 52) from by decide +kernel, q_eq hX (by decide)]
  have hn : dNan (lN X) = true ↔ 2047 * 2 ^ 52 < X % 2 ^ 63 := by rw [dNan_N hX, decide_eq_true_eq]
  rw [dSqrt]
  simp only [ha0, hI, hn, hnn]
  rw [mRoot]
  by_cases c1 : 2047 * 2 ^ 52 < X % 2 ^ 63
  · have hq : 9218868437227405312 < (lN X).toUInt64.toNat % 2 ^ 63 := by rw [u_N hX]; omega
    have e := CN_of hc hq
    rw [if_neg (by omega), if_pos (Or.inl c1), if_pos (Or.inl (by rw [cmp_nan (Or.inl hq)]; decide)), if_pos (by rw [cmp_nan (Or.inl hq)]; decide), e]
    exact ⟨rfl, CN_c⟩
  have hq : (lN X).toUInt64.toNat % 2 ^ 63 ≤ 9218868437227405312 := by rw [u_N hX]; omega
  have l1 := cmp_le (op := .l) hq nn_0
  have l2 := cmp_ge (op := .g) hq nn_0
  rw [dk_0, hk] at l1 l2
  by_cases c2 : X % 2 ^ 63 = 0
  · rw [if_pos (Or.inl c2), if_pos (Or.inl (l1.mpr (by split <;> omega))), if_pos (l2.mpr (by split <;> omega))]
    exact ⟨rfl, hc⟩
  by_cases c3 : 2 ^ 63 ≤ X
  · rw [if_neg (by omega), if_pos (Or.inr (by omega)), if_pos (Or.inl (l1.mpr (by rw [if_pos c3]; omega))), if_neg (fun z => by have := l2.mp z; rw [if_pos c3] at this; omega)]
    exact ⟨rfl, CN_c⟩
  by_cases c4 : X = 2047 * 2 ^ 52
  · subst c4
    rw [if_pos (Or.inr rfl), if_pos (Or.inr (by decide +kernel)), if_pos (l2.mpr (by rw [if_neg c3]; omega))]
    exact ⟨rfl, hc⟩
  have h0 : 0 < X := by omega
  have hf : X < 2047 * 2 ^ 52 := by omega
  obtain ⟨Z, z1, z2, z3⟩ := dbl_ne h0 hf
  have l3 := cmp_eq (op := .l) hq (b := FP.dmul (lN X).toUInt64 4611686018427387904) (by rw [z3]; omega)
  rw [hk, dkey_N, z3] at l3
  have nm : ¬ (Op.cmpValue (FP.dcmp (lN X).toUInt64 FP.dconst0) .l ≤ 0 ∨ Op.cmpValue (FP.dcmp (lN X).toUInt64 (FP.dmul (lN X).toUInt64 4611686018427387904)) .l = 0) := by
    rw [l1, l3, if_neg c3, if_neg (by omega)]
    omega
  rw [if_neg (by omega), if_neg (by omega), if_neg nm, u_N hX]
  obtain ⟨sh, s1, s2, s3, s4, s5⟩ := dUp_N h0 (by omega)
  have hsh : sh ≤ 52 := by
    apply Nat.not_lt.mp
    intro z
    have a1 : 2 ^ 53 ≤ 2 ^ sh := Nat.pow_le_pow_right (by decide) z
    have a2 : 2 ^ sh ≤ dgN X * 2 ^ sh := Nat.le_mul_of_pos_left _ (dgN_pos h0)
    omega
  have he := eN_b (m := X) (by omega)
  obtain ⟨n, hn'⟩ : ∃ n, n + sh = eN X + 53 := ⟨eN X + 53 - sh, by omega⟩
  have r1 := dSqrt_pos h0 hf s2 (by omega) hn' s4 s5
  have r2 := rt_B h0 hf hn' s4 s5
  have hb : rtB X < 2047 * 2 ^ 52 := by
    rw [r2]
    have hx : dgN X * 2 ^ (sh + n % 2) < 2 ^ 54 ∧ 2 ^ 52 ≤ dgN X * 2 ^ (sh + n % 2) := by
      rw [Nat.pow_add, ← Nat.mul_assoc]
      rcases (show n % 2 = 0 ∨ n % 2 = 1 by omega) with z | z
      · rw [z, Nat.pow_zero, Nat.mul_one]; omega
      · rw [z, Nat.pow_one]; omega
    obtain ⟨a1, a2⟩ := sqN_lo hx.2 hx.1
    have k1 := near8_le (F := 2 * (sqN (dgN X * 2 ^ (sh + n % 2)) 55 0 0 0).1 + if (sqN (dgN X * 2 ^ (sh + n % 2)) 55 0 0 0).2 = 0 then 0 else 1) (by split <;> omega)
    omega
  refine ⟨eq_N ?_, CN_nn ?_⟩
  · rw [r1, ← r2, u_N (by omega)]
  · rw [u_N (by omega)]; omega
theorem D_all : DBL := ⟨D_can, D_add, D_sub, D_mul, D_div, D_below, D_ofInt, D_toInt, D_abs, D_root, D_floor, D_sign⟩
