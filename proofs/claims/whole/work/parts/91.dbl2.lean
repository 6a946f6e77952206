/-! DOUBLEs: the class's digits, shifts and rounding, on numbers -/
def iI (x : Int) : Int32 := Int32.ofInt x
theorem iI_n (n : Nat) : iI (n : Int) = nI n := Int32.ofInt_eq_ofNat
theorem iI_ti {x : Int} (h : -2147483648 ≤ x ∧ x < 2147483648) : (iI x).toInt = x := Int32.toInt_ofInt_of_le (by omega) (by omega)
theorem iI_sub (a b : Int) : iI a - iI b = iI (a - b) := (Int32.ofInt_sub a b).symm
theorem iI_add (a b : Int) : iI a + iI b = iI (a + b) := (Int32.ofInt_add a b).symm
theorem iI_neg (a : Int) : -iI a = iI (-a) := Int32.neg_ofInt
theorem iI_lt {a b : Int} (ha : -2147483648 ≤ a ∧ a < 2147483648) (hb : -2147483648 ≤ b ∧ b < 2147483648) : iI a < iI b ↔ a < b := by rw [Int32.lt_iff_toInt_lt, iI_ti ha, iI_ti hb]
theorem iI_le {a b : Int} (ha : -2147483648 ≤ a ∧ a < 2147483648) (hb : -2147483648 ≤ b ∧ b < 2147483648) : iI a ≤ iI b ↔ a ≤ b := by rw [Int32.le_iff_toInt_le, iI_ti ha, iI_ti hb]
theorem q_or2 {a b : Nat} (ha : a < 2 ^ 64) (hb : b < 2 ^ 64) : lN a ||| lN b = lN (a ||| b) := by
  have h : UInt64.ofNat a ||| UInt64.ofNat b = UInt64.ofNat (a ||| b) := UInt64.toNat_inj.mp (by rw [UInt64.toNat_or, q_u ha, q_u hb, q_u (Nat.or_lt_two_pow ha hb)])
  have h2 := congrArg UInt64.toInt64 h
  exact h2
theorem nat_or1 (c : Nat) : c ||| 1 = c / 2 * 2 + 1 := by
  have h : ∀ j : Nat, 2 * j ||| 1 = 2 * j + 1 := fun j => by
    have h1 := Nat.shiftLeft_add_eq_or_of_lt (show 1 < 2 ^ 1 by decide) j
    rw [Nat.shiftLeft_eq, Nat.pow_one, Nat.mul_comm j 2] at h1
    exact h1.symm
  rcases (show c = 2 * (c / 2) ∨ c = 2 * (c / 2) + 1 by omega) with e | e
  · have := h (c / 2)
    rw [← e] at this
    omega
  · have h2 := h (c / 2)
    rw [← e] at h2
    have h3 : c ||| 1 = (2 * (c / 2) ||| 1) ||| 1 := by rw [h2]
    rw [h3, Nat.or_assoc, Nat.or_self, h2]
    omega
theorem q_or1 {c : Nat} (hc : c < 2 ^ 63) : lN c ||| 1 = lN (c / 2 * 2 + 1) := by
  rw [show (1 : Int64) = lN 1 from rfl, q_or2 (by omega) (by decide), nat_or1]
theorem shr_p : ∀ n, n < 6 → shr32 (nI (2 ^ n)) 1 = nI (2 ^ n / 2) := by decide +kernel
theorem lz_go {D : Nat} (hD : 0 < D) : ∀ (n z : Nat), n ≤ 6 → D * 2 ^ z < 2 ^ 64 → 2 ^ 64 ≤ D * 2 ^ z * 2 ^ 2 ^ n → ∃ z', lzGo n (nI (2 ^ n / 2)) (nI z) (lN (D * 2 ^ z)) = nI z' ∧ 2 ^ 63 ≤ D * 2 ^ z' ∧ D * 2 ^ z' < 2 ^ 64
  | 0, z, _, h1, h2 => ⟨z, rfl, by rw [show (2 : Nat) ^ 2 ^ 0 = 2 from rfl] at h2; omega, h1⟩
  | n + 1, z, hn, h1, h2 => by
    have hP : 0 < D * 2 ^ z := Nat.mul_pos hD (Nat.two_pow_pos z)
    have hh : 2 ^ (n + 1) / 2 = 2 ^ n := by rw [Nat.pow_succ]; omega
    have h32 : 2 ^ n ≤ 2 ^ 5 := Nat.pow_le_pow_right (by decide) (by omega)
    have h0 : 0 < 2 ^ n := Nat.two_pow_pos n
    have e2 : (2 : Nat) ^ 2 ^ (n + 1) = 2 ^ 2 ^ n * 2 ^ 2 ^ n := by rw [← Nat.pow_add, Nat.pow_succ]; congr 1; omega
    have g1 : ¬ nI (2 ^ n) ≤ 0 := by rw [show (0 : Int32) = nI 0 from rfl, nI_leI (by omega) (by decide)]; omega
    have g2 : ¬ lN (D * 2 ^ z) = 0 := fun y => by
      have := (q_eq h1 (show 0 < 2 ^ 64 by decide)).mp y
      omega
    have g3 : (64 : Int32) - nI (2 ^ n) = nI (64 - 2 ^ n) := by rw [show (64 : Int32) = nI 64 from rfl, nI_sub (by omega)]
    have g4 : ushr64 (lN (D * 2 ^ z)) (nI (64 - 2 ^ n)) = 0 ↔ D * 2 ^ z * 2 ^ 2 ^ n < 2 ^ 64 := by
      rw [q_ushr h1 (by omega), show (0 : Int64) = lN 0 from rfl, q_eq (Nat.lt_of_le_of_lt (Nat.div_le_self _ _) h1) (by decide), Nat.div_eq_zero_iff]
      have e3 : (2 : Nat) ^ 64 = 2 ^ (64 - 2 ^ n) * 2 ^ 2 ^ n := by rw [← Nat.pow_add]; congr 1; omega
      have e4 : D * 2 ^ z * 2 ^ 2 ^ n < 2 ^ 64 ↔ D * 2 ^ z < 2 ^ (64 - 2 ^ n) := by
        rw [e3]; exact Nat.mul_lt_mul_right (Nat.two_pow_pos _)
      rw [e4]
      have := Nat.two_pow_pos (64 - 2 ^ n)
      omega
    rw [lzGo, hh, if_neg g1, if_neg g2, g3, shr_p n (by omega)]
    by_cases c : D * 2 ^ z * 2 ^ 2 ^ n < 2 ^ 64
    · rw [if_pos (g4.mpr c), nI_add, q_shl _ (by omega), Nat.mul_assoc, ← Nat.pow_add]
      rw [Nat.mul_assoc, ← Nat.pow_add] at c
      refine lz_go hD n (z + 2 ^ n) (by omega) c ?_
      rw [e2, ← Nat.mul_assoc, Nat.mul_assoc D, ← Nat.pow_add] at h2
      exact h2
    · rw [if_neg (fun y => c (g4.mp y))]
      exact lz_go hD n z (by omega) h1 (by omega)
theorem dLz_N {D : Nat} (hD : 0 < D) (h : D < 2 ^ 64) : ∃ z, z < 64 ∧ dLz (lN D) = nI z ∧ 2 ^ (63 - z) ≤ D ∧ D < 2 ^ (64 - z) := by
  obtain ⟨z, h1, h2, h3⟩ := lz_go hD 6 0 (by decide) (by omega) (by rw [Nat.pow_zero, Nat.mul_one]; exact Nat.le_mul_of_pos_left _ hD)
  have g2 : ¬ lN D = 0 := fun y => by
    have := (q_eq h (show 0 < 2 ^ 64 by decide)).mp y
    omega
  have hz : z < 64 := by
    have : 2 ^ z < 2 ^ 64 := Nat.lt_of_le_of_lt (Nat.le_mul_of_pos_left _ hD) h3
    exact (Nat.pow_lt_pow_iff_right (by decide)).mp this
  refine ⟨z, hz, ?_, ?_, ?_⟩
  · rw [dLz, if_neg g2]
    rw [Nat.pow_zero, Nat.mul_one] at h1
    exact h1
  · rw [show 63 = 63 - z + z by omega, Nat.pow_add] at h2
    have := Nat.le_of_mul_le_mul_right h2 (Nat.two_pow_pos z)
    exact this
  · rw [show 64 = 64 - z + z by omega, Nat.pow_add] at h3
    have := Nat.lt_of_mul_lt_mul_right h3
    exact this
theorem dShift_N {D k : Nat} (hD : D < 2 ^ 63) (hk : k < 2 ^ 31) : dShift (lN D) (nI k) = lN (shS D k) := by
  unfold dShift
  have hle : nI k ≤ 62 ↔ k ≤ 62 := by rw [show (62 : Int32) = nI 62 from rfl, nI_leI hk (by decide)]
  by_cases c : k ≤ 62
  · have hlt := Nat.div_le_self D (2 ^ k)
    rw [if_neg (fun y => y (hle.mpr c)), q_ushr (by omega) (by omega), q_shl _ (by omega)]
    have hm := Nat.div_mul_le_self D (2 ^ k)
    have hd := Nat.div_add_mod D (2 ^ k)
    have e1 : lN (D / 2 ^ k * 2 ^ k) = lN D ↔ D % 2 ^ k = 0 := by
      rw [q_eq (by omega) (by omega), Nat.mul_comm]
      omega
    unfold shS
    by_cases c2 : D % 2 ^ k = 0
    · rw [if_pos (e1.mpr c2), if_pos c2]
    · rw [if_neg (fun y => c2 (e1.mp y)), if_neg c2, q_or1 (by omega)]
  · rw [if_pos (fun y => c (hle.mp y))]
    have hlt : D < 2 ^ k := Nat.lt_of_lt_of_le hD (Nat.pow_le_pow_right (by decide) (by omega))
    have e1 : lN D = 0 ↔ D = 0 := by rw [show (0 : Int64) = lN 0 from rfl, q_eq (by omega) (by decide)]
    unfold shS
    rw [Nat.mod_eq_of_lt hlt, Nat.div_eq_of_lt hlt]
    by_cases c2 : D = 0
    · rw [if_pos (e1.mpr c2), if_pos c2]; rfl
    · rw [if_neg (fun y => c2 (e1.mp y)), if_neg c2]; rfl
theorem rKept_N {F : Nat} (hF : F < 2 ^ 62) : rKept (lN F) = lN (FP.Core.nearest F 8) := by
  have e1 : lN F &&& 7 = lN (F % 8) := by rw [show (7 : Int64) = lN (2 ^ 3 - 1) from rfl, q_mask (by decide) (by omega)]
  have e2 : ushr64 (lN F) 3 = lN (F / 8) := by rw [show (3 : Int32) = nI 3 from rfl, q_ushr (by omega) (by decide)]
  have e3 : lN (F / 8) &&& 1 = lN (F / 8 % 2) := by rw [show (1 : Int64) = lN (2 ^ 1 - 1) from rfl, q_mask (by decide) (by omega)]
  have c1 : (4 : Int64) < lN (F % 8) ↔ 4 < F % 8 := by rw [show (4 : Int64) = lN 4 from rfl, q_lt (by decide) (by omega)]
  have c2 : lN (F % 8) = (4 : Int64) ↔ F % 8 = 4 := by rw [show (4 : Int64) = lN 4 from rfl, q_eq (by omega) (by decide)]
  have c3 : lN (F / 8 % 2) = (1 : Int64) ↔ F / 8 % 2 = 1 := by rw [show (1 : Int64) = lN 1 from rfl, q_eq (by omega) (by decide)]
  rw [rKept, e1, e2, e3, lN_1, near8]
  by_cases h1 : 4 < F % 8
  · rw [if_pos (c1.mpr h1), if_pos h1]
  · rw [if_neg (fun y => h1 (c1.mp y)), if_neg h1]
    by_cases h2 : F % 8 = 4
    · rw [if_pos (c2.mpr h2), if_pos h2]
      by_cases h3 : F / 8 % 2 = 1
      · rw [if_pos (c3.mpr h3), if_pos h3]
      · rw [if_neg (fun y => h3 (c3.mp y)), if_neg h3]
    · rw [if_neg (fun y => h2 (c2.mp y)), if_neg h2]
def sg (s : Bool) : Int64 := lN (s.toNat * 2 ^ 63)
theorem sg_or {s : Bool} {x : Nat} (h : x < 2 ^ 63) : uN (sg s ||| lN x) = s.toNat * 2 ^ 63 + x := by
  have hs : s.toNat ≤ 1 := by cases s <;> decide
  rw [sg, q_or (by omega) (by omega), q_uN (by omega)]
theorem rUp_N {C : Int} {d : Int64} {z : Nat} (hb : -100000 ≤ C ∧ C ≤ 100000) (hz : z < 64) (h : dLz d = nI z) : ∃ U : Int, rUp (iI C) d = iI U ∧ U ≤ C - 1 ∧ U ≤ z - 8 ∧ (U = C - 1 ∨ U = z - 8) := by
  have e1 : nI z - 11 + 3 = iI ((z : Int) - 8) := by
    rw [← iI_n, show (11 : Int32) = iI 11 from rfl, show (3 : Int32) = iI 3 from rfl, iI_sub, iI_add]
    congr 1; omega
  have e2 : iI C - 1 = iI (C - 1) := by rw [show (1 : Int32) = iI 1 from rfl, iI_sub]
  rw [rUp, h, e1, e2, minI]
  have hl : iI (C - 1) < iI ((z : Int) - 8) ↔ C - 1 < (z : Int) - 8 := iI_lt (by omega) (by omega)
  by_cases c : C - 1 < (z : Int) - 8
  · rw [if_pos (hl.mpr c)]; exact ⟨_, rfl, by omega, by omega, by omega⟩
  · rw [if_neg (fun y => c (hl.mp y))]; exact ⟨_, rfl, by omega, by omega, by omega⟩
theorem dFit_N {s : Bool} {C U : Int} {N M D n z : Nat} (hM : 0 < M) (hD : 0 < D) (hD2 : D < 2 ^ 62) (h : Sy N M D) (hx : N = D * M ∨ 2 ^ 54 ≤ D) (hz : z < 64) (z3 : 2 ^ (63 - z) ≤ D) (z4 : D < 2 ^ (64 - z)) (hU : rUp (iI C) (lN D) = iI U) (u1 : U ≤ C - 1) (u2 : U ≤ z - 8) (u3 : U = C - 1 ∨ U = z - 8) (hn : C - U = n + 1) (hUb : -200000 ≤ U ∧ U ≤ 200000) : ∃ F, rFit (iI C) (lN D) = lN F ∧ F < 2 ^ 56 ∧ (n = 0 ∨ 2 ^ 55 ≤ F) ∧ FP.Core.roundRatio FP.Core.b64 s N M (C - 1078) = FP.Core.settle FP.Core.b64 s (FP.Core.nearest F 8) ((n : Int) - 1074) := by
  rw [rFit, hU]
  by_cases c : U < 0
  · obtain ⟨k, hk⟩ : ∃ k : Nat, U = -(k : Int) := ⟨(-U).toNat, by omega⟩
    have e1 : -(iI U) = nI k := by rw [iI_neg, hk, Int.neg_neg, iI_n]
    have d1 : D < 2 ^ (56 + k) := Nat.lt_of_lt_of_le z4 (Nat.pow_le_pow_right (by decide) (by omega))
    have d2 : n = 0 ∨ 2 ^ (55 + k) ≤ D := by
      rcases u3 with y | y
      · left; omega
      · right; rw [show 55 + k = 63 - z by omega]; exact z3
    have g : iI U < 0 := by rw [show (0 : Int32) = iI 0 from rfl, iI_lt (by omega) (by decide)]; exact c
    rw [if_pos g, e1, dShift_N (by omega) (by omega)]
    refine ⟨_, rfl, shS_lt d1, ?_, rr_dn hM hD h (by omega) d1 d2⟩
    rcases d2 with y | y
    · exact Or.inl y
    · exact Or.inr (shS_ge y)
  · obtain ⟨u, hu⟩ : ∃ u : Nat, U = (u : Int) := ⟨U.toNat, by omega⟩
    have g : ¬ iI U < 0 := by rw [show (0 : Int32) = iI 0 from rfl, iI_lt (by omega) (by decide)]; exact c
    have d1 : D * 2 ^ u < 2 ^ 56 := by
      have y1 : D * 2 ^ u < 2 ^ (64 - z) * 2 ^ u := (Nat.mul_lt_mul_right (Nat.two_pow_pos u)).mpr z4
      rw [← Nat.pow_add] at y1
      exact Nat.lt_of_lt_of_le y1 (Nat.pow_le_pow_right (by decide) (by omega))
    have d2 : n = 0 ∨ 2 ^ 55 ≤ D * 2 ^ u := by
      rcases u3 with y | y
      · left; omega
      · right
        have y1 := Nat.mul_le_mul_right (2 ^ u) z3
        rw [← Nat.pow_add, show 63 - z + u = 55 by omega] at y1
        exact y1
    have d3 : N = D * M ∨ u ≤ 1 := by
      rcases hx with y | y
      · exact Or.inl y
      · right
        have y1 : 2 ^ 54 < 2 ^ (64 - z) := Nat.lt_of_le_of_lt y z4
        have y2 := (Nat.pow_lt_pow_iff_right (by decide)).mp y1
        omega
    rw [if_neg g, hu, iI_n, q_shl _ (by omega)]
    exact ⟨_, rfl, d1, d2, rr_up hM hD h d3 (by omega) d1 d2⟩
/-- the class rounds as the language does -/
theorem dRound_N {s : Bool} {C : Int} {N M D : Nat} (hb : -100000 ≤ C ∧ C ≤ 100000) (hM : 0 < M) (hD : 0 < D) (hD2 : D < 2 ^ 62) (h : Sy N M D) (hx : N = D * M ∨ 2 ^ 54 ≤ D) : uN (dRound (sg s) (iI C) (lN D)) = FP.Core.encode FP.Core.b64 (FP.Core.roundRatio FP.Core.b64 s N M (C - 1078)) := by
  obtain ⟨z, z1, z2, z3, z4⟩ := dLz_N hD (show D < 2 ^ 64 by omega)
  obtain ⟨U, hU, u1, u2, u3⟩ := rUp_N hb z1 z2
  obtain ⟨n, hn⟩ : ∃ n : Nat, C - U = n + 1 := ⟨(C - 1 - U).toNat, by omega⟩
  obtain ⟨F, f1, f2, f3, f4⟩ := dFit_N (s := s) hM hD hD2 h hx z1 z3 z4 hU u1 u2 u3 hn (by omega)
  have hc := near8_le f2
  have e1 : iI C - iI U = nI (n + 1) := by rw [iI_sub, hn, ← iI_n]; rfl
  have hle : nI (n + 1) ≤ 2046 ↔ n ≤ 2045 := by
    rw [show (2046 : Int32) = nI 2046 from rfl, nI_leI (by omega) (by decide)]; omega
  rw [f4, enc_set hc (f3.imp id (fun y => near8_ge y)), dRound, hU, f1, e1, nI_m1]
  by_cases c : n ≤ 2045
  · rw [if_pos (hle.mpr c), if_pos c, nI_l (by omega), show (52 : Int32) = nI 52 from rfl, q_shl _ (by decide), rKept_N (by omega), lN_add, sg_or (by omega)]
  · rw [if_neg (fun y => c (hle.mp y)), if_neg c, show (9218868437227405312 : Int64) = lN (2047 * 2 ^ 52) from by decide +kernel, sg_or (by omega)]
/-! a DOUBLE's parts -/
def dgN (m : Nat) : Nat := if m / 2 ^ 52 = 0 then m % 2 ^ 52 else m % 2 ^ 52 + 2 ^ 52
def eN (m : Nat) : Nat := if m / 2 ^ 52 = 0 then 1 else m / 2 ^ 52
def sB (X : Nat) : Bool := decide (2 ^ 63 ≤ X)
theorem dgN_b {m : Nat} : dgN m < 2 ^ 53 := by unfold dgN; split <;> omega
theorem eN_b {m : Nat} (h : m < 2 ^ 63) : 1 ≤ eN m ∧ eN m < 2048 := by unfold eN; split <;> omega
theorem dgN_pos {m : Nat} (h : 0 < m) : 0 < dgN m := by unfold dgN; split <;> omega
theorem dgN_0 : dgN 0 = 0 := rfl
theorem dAbs_N {X : Nat} (h : X < 2 ^ 64) : dAbs (lN X) = lN (X % 2 ^ 63) := by
  rw [dAbs, show (9223372036854775807 : Int64) = lN (2 ^ 63 - 1) from by decide +kernel, q_mask (by decide) h]
theorem dNan_N {X : Nat} (h : X < 2 ^ 64) : dNan (lN X) = decide (2047 * 2 ^ 52 < X % 2 ^ 63) := by
  rw [dNan, show (lN X &&& 9223372036854775807) = lN (X % 2 ^ 63) from dAbs_N h, show (9218868437227405312 : Int64) = lN (2047 * 2 ^ 52) from by decide +kernel]
  have := q_le (a := X % 2 ^ 63) (b := 2047 * 2 ^ 52) (by omega) (by omega)
  by_cases c : 2047 * 2 ^ 52 < X % 2 ^ 63
  · rw [decide_eq_true c, decide_eq_true]
    intro y
    have := this.mp y
    omega
  · rw [decide_eq_false c, decide_eq_false]
    intro y
    exact y (this.mpr (by omega))
theorem dExp_N {X : Nat} (h : X < 2 ^ 64) : lN X &&& 9218868437227405312 = lN (X % 2 ^ 63 / 2 ^ 52 * 2 ^ 52) := by
  rw [show (9218868437227405312 : Int64) = lN 9218868437227405312 from by decide +kernel, q_and h (by decide) (and_hi X), show X / 2 ^ 52 % 2 ^ 11 = X % 2 ^ 63 / 2 ^ 52 by omega]
theorem dFrac_N {X : Nat} (h : X < 2 ^ 64) : lN X &&& 4503599627370495 = lN (X % 2 ^ 63 % 2 ^ 52) := by
  rw [show (4503599627370495 : Int64) = lN (2 ^ 52 - 1) from by decide +kernel, q_mask (by decide) h, show X % 2 ^ 52 = X % 2 ^ 63 % 2 ^ 52 by omega]
theorem dScale_N {X : Nat} (h : X < 2 ^ 64) : dScale (lN X) = iI (eN (X % 2 ^ 63)) := by
  have e1 : (ushr64 (lN X &&& 9218868437227405312) 52).toInt32 = nI (X % 2 ^ 63 / 2 ^ 52) := by
    rw [dExp_N h, show (52 : Int32) = nI 52 from rfl, q_ushr (by omega) (by decide), Nat.mul_div_cancel _ (by decide), lN_i]
  rw [dScale, e1, maxI, iI_n, eN]
  have hl : nI (X % 2 ^ 63 / 2 ^ 52) < 1 ↔ X % 2 ^ 63 / 2 ^ 52 < 1 := by rw [show (1 : Int32) = nI 1 from rfl, nI_ltI (by omega) (by decide)]
  by_cases c : X % 2 ^ 63 / 2 ^ 52 = 0
  · rw [if_pos (hl.mpr (by omega)), if_pos c]; rfl
  · rw [if_neg (fun y => by have := hl.mp y; omega), if_neg c]
theorem dDig_N {X : Nat} (h : X < 2 ^ 64) : dDig (lN X) = lN (dgN (X % 2 ^ 63)) := by
  rw [dDig, dExp_N h, dFrac_N h, dgN]
  have hl : lN (X % 2 ^ 63 / 2 ^ 52 * 2 ^ 52) = 0 ↔ X % 2 ^ 63 / 2 ^ 52 = 0 := by
    rw [show (0 : Int64) = lN 0 from rfl, q_eq (by omega) (by decide)]
    omega
  by_cases c : X % 2 ^ 63 / 2 ^ 52 = 0
  · rw [if_pos (hl.mpr c), if_pos c]
  · rw [if_neg (fun y => c (hl.mp y)), if_neg c, Int64.or_comm, show (4503599627370496 : Int64) = lN (1 * 2 ^ 52) from by decide +kernel, q_or (by omega) (by omega)]
    congr 1
    omega
theorem fS_N {X : Nat} (h : X < 2 ^ 64) : FP.Core.fieldS FP.Core.b64 X = sB X := by
  unfold FP.Core.fieldS sB
  rw [show FP.Core.b64.tails = 2 ^ 52 from by decide, show FP.Core.b64.exps = 2 ^ 11 from by decide]
  by_cases c : 2 ^ 63 ≤ X
  · rw [decide_eq_true c, show X / 2 ^ 52 / 2 ^ 11 % 2 = 1 by omega]; rfl
  · rw [decide_eq_false c, show X / 2 ^ 52 / 2 ^ 11 % 2 = 0 by omega]; rfl
theorem val_N {X : Nat} (h : X < 2 ^ 64) (hm : X % 2 ^ 63 < 2047 * 2 ^ 52) : FP.Core.decode FP.Core.b64 X = .fin (sB X) (dgN (X % 2 ^ 63)) ((eN (X % 2 ^ 63) : Int) - 1075) := by
  rw [FP.Core.decode, fS_N h]
  unfold FP.Core.fieldE FP.Core.fieldT
  rw [show FP.Core.b64.tails = 2 ^ 52 from by decide, show FP.Core.b64.exps = 2 ^ 11 from by decide, show FP.Core.b64.qmin = -1074 from by decide, if_neg (by omega), dgN, eN]
  by_cases c : X % 2 ^ 63 / 2 ^ 52 = 0
  · rw [if_pos (by omega), if_pos c, if_pos c, show X % 2 ^ 52 = X % 2 ^ 63 % 2 ^ 52 by omega]; rfl
  · rw [if_neg (by omega), if_neg c, if_neg c]
    congr 1
    · omega
    · omega
theorem val_I {X : Nat} (h : X < 2 ^ 64) (hm : X % 2 ^ 63 = 2047 * 2 ^ 52) : FP.Core.decode FP.Core.b64 X = .inf (sB X) := by
  rw [FP.Core.decode, fS_N h]
  unfold FP.Core.fieldE FP.Core.fieldT
  rw [show FP.Core.b64.tails = 2 ^ 52 from by decide, show FP.Core.b64.exps = 2 ^ 11 from by decide, if_pos (by omega), if_pos (by omega)]
theorem val_Q {X : Nat} (h : X < 2 ^ 64) (hm : 2047 * 2 ^ 52 < X % 2 ^ 63) : FP.Core.decode FP.Core.b64 X = .nan := by
  rw [FP.Core.decode]
  unfold FP.Core.fieldE FP.Core.fieldT
  rw [show FP.Core.b64.tails = 2 ^ 52 from by decide, show FP.Core.b64.exps = 2 ^ 11 from by decide, if_pos (by omega), if_neg (by omega)]
