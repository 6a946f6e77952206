/-! DOUBLEs: quotients, sums, alike -/
set_option maxRecDepth 100000 in
theorem q_div {a b : Nat} (ha : a < 2 ^ 63) (hb : b < 2 ^ 63) : lN a / lN b = lN (a / b) := by
  apply Int64.toInt_inj.mp
  have hd := Nat.div_le_self a b
  rw [Jvm.Kit.i64_div (by rw [q_int hb]; omega), q_int ha, q_int hb, q_int (by omega), Int.tdiv_eq_ediv_of_nonneg (by omega)]
  rfl
set_option maxRecDepth 100000 in
theorem q_rem {a b : Nat} (ha : a < 2 ^ 63) (hb : b < 2 ^ 63) : lN a - lN a / lN b * lN b = lN (a % b) := by
  have h1 := Nat.div_add_mod a b
  rw [q_div ha hb, lN_mul, lN_sub (by rw [Nat.mul_comm]; omega)]
  congr 1
  rw [Nat.mul_comm]; omega
set_option maxRecDepth 100000 in
theorem qGo_N {B : Nat} (hB : 0 < B) (hB2 : B < 2 ^ 53) : ∀ (n q r N : Nat), N = q * B + r → r < B → N * 2 ^ (10 * n) < 2 ^ 113 → 2 ^ 52 ≤ B → ∃ q' r', qGo n (lN B) (lN q) (lN r) = (lN q', lN r') ∧ N * 2 ^ (10 * n) = q' * B + r' ∧ r' < B
  | 0, q, r, N, h, hr, _, _ => ⟨q, r, rfl, by rw [Nat.mul_zero, Nat.pow_zero, Nat.mul_one]; exact h, hr⟩
  | n + 1, q, r, N, h, hr, hb, hB3 => by
    have hp : N * 1024 * 2 ^ (10 * n) = N * 2 ^ (10 * (n + 1)) := by
      rw [show 10 * (n + 1) = 10 + 10 * n by omega, Nat.pow_add, ← Nat.mul_assoc]
    have hq0 : q * 1024 * B ≤ N * 1024 := by
      rw [h, Nat.add_mul, show q * 1024 * B = q * B * 1024 by ac_rfl]; omega
    have hq1 : q * 1024 < 2 ^ 61 := by
      have h1 : q * 1024 * 2 ^ 52 ≤ q * 1024 * B := Nat.mul_le_mul_left _ hB3
      have h2 : N * 1024 ≤ N * 1024 * 2 ^ (10 * n) := Nat.le_mul_of_pos_right _ (Nat.two_pow_pos _)
      omega
    have hdl : r * 1024 / B < 1024 := by rw [Nat.div_lt_iff_lt_mul hB]; omega
    have hml : r * 1024 % B < B := Nat.mod_lt _ hB
    have e1 : shl64 (lN r) 10 = lN (r * 1024) := by rw [show (10 : Int32) = nI 10 from rfl, q_shl _ (by decide)]
    have e2 : shl64 (lN q) 10 = lN (q * 2 ^ 10) := by rw [show (10 : Int32) = nI 10 from rfl, q_shl _ (by decide)]
    rw [qGo, e1, e2, q_rem (by omega) (by omega), q_div (by omega) (by omega), q_or hdl (by omega), ← hp]
    refine qGo_N hB hB2 n (q * 2 ^ 10 + r * 1024 / B) (r * 1024 % B) (N * 1024) ?_ hml (by rw [hp]; exact hb) hB3
    have h1 := Nat.div_add_mod (r * 1024) B
    rw [h, Nat.add_mul, Nat.add_mul, show q * B * 1024 = q * 2 ^ 10 * B by ac_rfl, Nat.mul_comm (r * 1024 / B) B]
    omega
set_option maxRecDepth 100000 in
theorem dQuo_N {A B : Nat} (hA : A < 2 ^ 53) (hA2 : 2 ^ 52 ≤ A) (hB : B < 2 ^ 53) (hB2 : 2 ^ 52 ≤ B) : ∃ D, dQuo (lN A) (lN B) = lN D ∧ Sy (A * 2 ^ 60) B D ∧ 2 ^ 54 ≤ D ∧ D < 2 ^ 62 := by
  have h0 := Nat.div_add_mod A B
  have hm : A % B < B := Nat.mod_lt _ (by omega)
  obtain ⟨q, r, g1, g2, g3⟩ := qGo_N (by omega) hB 6 (A / B) (A % B) A (by rw [Nat.mul_comm]; omega) hm (by omega) hB2
  have gz : ¬ lN B = 0 := fun z => by
    have := (q_eq (show B < 2 ^ 64 by omega) (show 0 < 2 ^ 64 by decide)).mp z
    omega
  have hq1 : q * 2 ^ 52 ≤ q * B := Nat.mul_le_mul_left _ hB2
  have hq2 : q * B ≤ q * 2 ^ 53 := Nat.mul_le_mul_left _ (by omega)
  rw [show 10 * 6 = 60 from rfl] at g2
  rw [dQuo, if_neg gz, q_rem (by omega) (by omega), q_div (by omega) (by omega), g1]
  dsimp only
  have gr : lN r = 0 ↔ r = 0 := by rw [show (0 : Int64) = lN 0 from rfl, q_eq (by omega) (by decide)]
  by_cases c : r = 0
  · rw [if_pos (gr.mpr c)]
    exact ⟨q, rfl, Or.inl (by omega), by omega, by omega⟩
  · rw [if_neg (fun z => c (gr.mp z)), q_or1 (by omega)]
    refine ⟨_, rfl, Or.inr (shS_gen (P := B) (r := r) ?_ g3 c), by omega, by omega⟩
    rw [g2, Nat.mul_comm]
set_option maxRecDepth 100000 in
theorem dDiv_fin {s : Bool} {x y : Nat} (hx : x < 2047 * 2 ^ 52) (hy : y < 2047 * 2 ^ 52) (x0 : 0 < x) (y0 : 0 < y) : uN (dRound (sg s) (dScale (lN x) - (dLz (dDig (lN x)) - 11) - dScale (lN y) + (dLz (dDig (lN y)) - 11) + 1075 - 60 + 3) (dQuo (dUp (lN x)) (dUp (lN y)))) = FP.Core.encode FP.Core.b64 (FP.Core.roundRatio FP.Core.b64 s (dgN x) (dgN y) ((eN x : Int) - 1075 - ((eN y : Int) - 1075))) := by
  obtain ⟨u, u1, u2, u3, u4, u5⟩ := dUp_N x0 (by omega)
  obtain ⟨v, v1, v2, v3, v4, v5⟩ := dUp_N y0 (by omega)
  obtain ⟨D, d1, d2, d3, d4⟩ := dQuo_N u5 u4 v5 v4
  have hex := eN_b (m := x) (by omega)
  have hey := eN_b (m := y) (by omega)
  have eC : dScale (lN x) - (dLz (dDig (lN x)) - 11) - dScale (lN y) + (dLz (dDig (lN y)) - 11) + 1075 - 60 + 3 = iI ((eN x : Int) - u - eN y + v + 1075 - 60 + 3) := by
    rw [u2, v2, dScale_N (by omega), dScale_N (by omega), Nat.mod_eq_of_lt (show x < 2 ^ 63 by omega), Nat.mod_eq_of_lt (show y < 2 ^ 63 by omega), iI_sub, iI_sub, iI_add, show (1075 : Int32) = iI 1075 from rfl, iI_add, show (60 : Int32) = iI 60 from rfl, iI_sub, show (3 : Int32) = iI 3 from rfl, iI_add]
  rw [eC, u3, v3, d1, dRound_N (by omega) (by omega) (by omega) d4 d2 (Or.inr d3)]
  congr 1
  refine FP.Core.roundRatio_congr (by omega) (dgN_pos y0) ?_
  rw [show dgN x * 2 ^ u * 2 ^ 60 * dgN y * 2 ^ ((eN x : Int) - u - eN y + v + 1075 - 60 + 3 - 1078 - ((eN x : Int) - 1075 - ((eN y : Int) - 1075))).toNat = dgN x * dgN y * (2 ^ u * 2 ^ 60 * 2 ^ ((eN x : Int) - u - eN y + v + 1075 - 60 + 3 - 1078 - ((eN x : Int) - 1075 - ((eN y : Int) - 1075))).toNat) by ac_rfl]
  rw [show dgN x * (dgN y * 2 ^ v) * 2 ^ ((eN x : Int) - 1075 - ((eN y : Int) - 1075) - ((eN x : Int) - u - eN y + v + 1075 - 60 + 3 - 1078)).toNat = dgN x * dgN y * (2 ^ v * 2 ^ ((eN x : Int) - 1075 - ((eN y : Int) - 1075) - ((eN x : Int) - u - eN y + v + 1075 - 60 + 3 - 1078)).toNat) by ac_rfl]
  rw [← Nat.pow_add, ← Nat.pow_add, ← Nat.pow_add]
  congr 2
  omega
set_option maxRecDepth 100000 in
theorem D_div : DB_div := fun a b ha hb => by
  have hX := uN_lt a
  have hY := uN_lt b
  rw [a_lN a, a_lN b]
  generalize uN a = X at *
  generalize uN b = Y at *
  clear ha hb
  rw [dDiv, q_sgn hX hY, dAbs_N hX, dAbs_N hY, dDivX, mBy, mByN, cz_nan, cz_nan, mEnd_N, mEnd_N, cz_c0, cz_c0, iNN hX, iNN hY]
  have hx : X % 2 ^ 63 < 2 ^ 63 := Nat.mod_lt _ (by decide)
  have hy : Y % 2 ^ 63 < 2 ^ 63 := Nat.mod_lt _ (by decide)
  have hm : FP.ddiv (lN X).toUInt64 (lN Y).toUInt64 = UInt64.ofNat (FP.Core.div FP.Core.b64 X Y) := by
    show UInt64.ofNat (FP.Core.div FP.Core.b64 _ _) = _
    rw [u_N hX, u_N hY]
  have hfit : FP.Core.fits FP.Core.b64 (FP.Core.quotient FP.Core.b64 (FP.Core.decode FP.Core.b64 X) (FP.Core.decode FP.Core.b64 Y)) := FP.Core.quotient_fits FP.Core.good_b64 _ _
  have hres : ∀ v : Int64, uN v = FP.Core.div FP.Core.b64 X Y → v.toUInt64 = FP.ddiv (lN X).toUInt64 (lN Y).toUInt64 ∧ CN (FP.ddiv (lN X).toUInt64 (lN Y).toUInt64) := fun v hv => by
    rw [hm]
    refine ⟨eq_N ?_, CN_enc hfit⟩
    rw [hv]
    exact (enc_N hfit).symm
  have cI : (9218868437227405312 : Int64) = lN (2047 * 2 ^ 52) := by decide +kernel
  have l1 : (9218868437227405312 : Int64) < lN (X % 2 ^ 63) ↔ 2047 * 2 ^ 52 < X % 2 ^ 63 := by rw [cI, q_lt (by decide) hx]
  have l2 : (9218868437227405312 : Int64) < lN (Y % 2 ^ 63) ↔ 2047 * 2 ^ 52 < Y % 2 ^ 63 := by rw [cI, q_lt (by decide) hy]
  have l3 : lN (X % 2 ^ 63) = (9218868437227405312 : Int64) ↔ X % 2 ^ 63 = 2047 * 2 ^ 52 := by rw [cI, q_eq (by omega) (by decide)]
  have l4 : lN (Y % 2 ^ 63) = (9218868437227405312 : Int64) ↔ Y % 2 ^ 63 = 2047 * 2 ^ 52 := by rw [cI, q_eq (by omega) (by decide)]
  have l5 : lN (X % 2 ^ 63) = 0 ↔ X % 2 ^ 63 = 0 := by rw [show (0 : Int64) = lN 0 from rfl, q_eq (by omega) (by decide)]
  have l6 : lN (Y % 2 ^ 63) = 0 ↔ Y % 2 ^ 63 = 0 := by rw [show (0 : Int64) = lN 0 from rfl, q_eq (by omega) (by decide)]
  simp only [l1, l2, l3, l4, l5, l6]
  by_cases n : 2047 * 2 ^ 52 < X % 2 ^ 63 ∨ 2047 * 2 ^ 52 < Y % 2 ^ 63 ∨ X % 2 ^ 63 = 2047 * 2 ^ 52 ∧ Y % 2 ^ 63 = 2047 * 2 ^ 52 ∨ X % 2 ^ 63 = 0 ∧ Y % 2 ^ 63 = 0
  · rw [if_pos n, if_pos (by simp; omega)]
    exact ⟨rfl, CN_c⟩
  have nn : ¬ ((!decide (X % 2 ^ 63 ≤ 9218868437227405312) || !decide (Y % 2 ^ 63 ≤ 9218868437227405312) || decide (X % 2 ^ 63 = 0) && decide (Y % 2 ^ 63 = 0) || decide (X % 2 ^ 63 = 9218868437227405312) && decide (Y % 2 ^ 63 = 9218868437227405312)) = true) := by simp; omega
  rw [if_neg n, if_neg nn]
  apply hres
  rw [FP.Core.div]
  by_cases i : X % 2 ^ 63 = 2047 * 2 ^ 52 ∨ Y % 2 ^ 63 = 0
  · rw [if_pos i, sg_inf]
    by_cases iX : X % 2 ^ 63 = 2047 * 2 ^ 52
    · rw [val_I hX iX, val_N hY (by omega)]; exact infN.symm
    · have y0 : Y % 2 ^ 63 = 0 := by omega
      rw [val_N hX (by omega), val_N hY (by omega), FP.Core.quotient, if_pos (by rw [y0]; rfl), if_neg (by have := dgN_pos (show 0 < X % 2 ^ 63 by omega); omega)]
      exact infN.symm
  · rw [if_neg i]
    by_cases z : X % 2 ^ 63 = 0 ∨ Y % 2 ^ 63 = 2047 * 2 ^ 52
    · rw [if_pos z, sg_u]
      by_cases iY : Y % 2 ^ 63 = 2047 * 2 ^ 52
      · rw [val_N hX (by omega), val_I hY iY]; exact zeroN.symm
      · have x0 : X % 2 ^ 63 = 0 := by omega
        rw [val_N hX (by omega), val_N hY (by omega), FP.Core.quotient, if_neg (by have := dgN_pos (show 0 < Y % 2 ^ 63 by omega); omega), x0, dgN_0, rr_0, zeroN]
    · rw [if_neg z, val_N hX (by omega), val_N hY (by omega), FP.Core.quotient, if_neg (by have := dgN_pos (show 0 < Y % 2 ^ 63 by omega); omega)]
      exact dDiv_fin (by omega) (by omega) (by omega) (by omega)
/-! sums: x the larger magnitude -/
set_option maxRecDepth 100000 in
theorem dgN_le {x y : Nat} (h : y ≤ x) : eN y ≤ eN x ∧ (eN y < eN x → 2 ^ 52 ≤ dgN x) ∧ (eN y = eN x → dgN y ≤ dgN x) := by
  unfold eN dgN
  (repeat' split) <;> omega
set_option maxRecDepth 100000 in
/-- what the class rounds, or 0 -/
theorem sum_key {c d k eu ev : Nat} (hc : c < 2 ^ 53) (hd : d < 2 ^ 53) (hk : eu = ev + k) (h1 : 0 < k → 2 ^ 52 ≤ c) (h2 : k = 0 → d ≤ c) : Sy (8 * d) (2 ^ k) (shS (d * 8) k) ∧ shS (d * 8) k ≤ c * 8 ∧ (8 * d = shS (d * 8) k * 2 ^ k ∨ 2 ^ 54 ≤ c * 8 - shS (d * 8) k) ∧ d ≤ c * 2 ^ k ∧ (c * 8 = shS (d * 8) k ↔ c * 2 ^ k = d) := by
  have hS := shS_y (d * 8) k
  rw [Nat.mul_comm 8 d]
  have hp := Nat.two_pow_pos k
  by_cases k0 : k = 0
  · subst k0
    have e : shS (d * 8) 0 = d * 8 := by
      unfold shS
      rw [Nat.pow_zero, Nat.mod_one, if_pos rfl, Nat.div_one]
    rw [e] at hS ⊢
    have := h2 rfl
    exact ⟨hS, by omega, Or.inl (by omega), by omega, by omega⟩
  · have hc2 := h1 (by omega)
    have hle : d ≤ c * 2 ^ k := by
      have a1 : 2 ^ 1 ≤ 2 ^ k := Nat.pow_le_pow_right (by decide) (by omega)
      have a2 : c * 2 ^ 1 ≤ c * 2 ^ k := Nat.mul_le_mul_left _ a1
      omega
    have hdiv : d * 8 / 2 ^ k ≤ d * 8 / 2 := Nat.div_le_div_left (show 2 ^ 1 ≤ 2 ^ k from Nat.pow_le_pow_right (by decide) (by omega)) (by decide)
    have hdm := Nat.div_add_mod (d * 8) (2 ^ k)
    by_cases ex : d * 8 % 2 ^ k = 0
    · have e : shS (d * 8) k = d * 8 / 2 ^ k := by unfold shS; rw [if_pos ex]
      have e2 : d * 8 = shS (d * 8) k * 2 ^ k := by rw [e, Nat.mul_comm (d * 8 / 2 ^ k)]; omega
      refine ⟨hS, by rw [e]; omega, Or.inl e2, hle, ?_⟩
      constructor
      · intro z
        rw [← z, Nat.mul_assoc, Nat.mul_comm 8, ← Nat.mul_assoc] at e2
        omega
      · intro z
        have e3 : c * 8 * 2 ^ k = shS (d * 8) k * 2 ^ k := by
          rw [← e2, show c * 8 * 2 ^ k = c * 2 ^ k * 8 by ac_rfl, z]
        exact Nat.eq_of_mul_eq_mul_right hp e3
    · have hk4 : 4 ≤ k := by
        apply Nat.not_lt.mp
        intro z
        rcases (show k = 1 ∨ k = 2 ∨ k = 3 by omega) with rfl | rfl | rfl <;> omega
      have hdiv2 : d * 8 / 2 ^ k ≤ d * 8 / 16 := Nat.div_le_div_left (show 2 ^ 4 ≤ 2 ^ k from Nat.pow_le_pow_right (by decide) hk4) (by decide)
      have e : shS (d * 8) k = d * 8 / 2 ^ k / 2 * 2 + 1 := by unfold shS; rw [if_neg ex]
      refine ⟨hS, by rw [e]; omega, Or.inr (by rw [e]; omega), hle, ?_⟩
      rw [e]
      constructor
      · intro z; omega
      · intro z
        exfalso
        apply ex
        rw [← z, show c * 2 ^ k * 8 = c * 8 * 2 ^ k by ac_rfl, Nat.mul_mod_left]
set_option maxRecDepth 100000 in
theorem sum_rr {s : Bool} {V W k eu ev : Nat} (hk : eu = ev + k) (hV : V = 8 * W) : FP.Core.roundRatio FP.Core.b64 s V (2 ^ k) ((eu : Int) - 1078) = FP.Core.roundRatio FP.Core.b64 s W 1 ((ev : Int) - 1075) := by
  refine FP.Core.roundRatio_congr (Nat.two_pow_pos _) (by decide) ?_
  rw [hV, Nat.mul_one, Nat.mul_comm 8 W, Nat.mul_assoc, Nat.mul_assoc, show (8 : Nat) = 2 ^ 3 from rfl, ← Nat.pow_add, ← Nat.pow_add]
  congr 2
  omega
set_option maxRecDepth 100000 in
theorem sumU {c d : Nat} {q r : Int} {s t : Bool} {k : Nat} (h : q = r + k) : min q r = r ∧ FP.Core.sumUnits s c q t d r r = FP.Core.signed s (c * 2 ^ k) + FP.Core.signed t d := by
  refine ⟨by omega, ?_⟩
  unfold FP.Core.sumUnits FP.Core.inUnits
  rw [show (q - r).toNat = k by omega, show (r - r).toNat = 0 by omega, Nat.pow_zero, Nat.mul_one]
set_option maxRecDepth 100000 in
/-- finite numbers, the larger first -/
theorem sum_fin {X Y : Nat} (hX : X < 2 ^ 64) (hY : Y < 2 ^ 64) (hx : X % 2 ^ 63 < 2047 * 2 ^ 52) (hle : Y % 2 ^ 63 ≤ X % 2 ^ 63) : uN (if shl64 (dDig (lN X)) 3 = dShift (shl64 (dDig (lN Y)) 3) (dScale (lN X) - dScale (lN Y)) ∧ (sB X != sB Y) = true then 0 else dRound (lN X &&& (-9223372036854775808)) (dScale (lN X)) (if (sB X != sB Y) = true then shl64 (dDig (lN X)) 3 - dShift (shl64 (dDig (lN Y)) 3) (dScale (lN X) - dScale (lN Y)) else shl64 (dDig (lN X)) 3 + dShift (shl64 (dDig (lN Y)) 3) (dScale (lN X) - dScale (lN Y)))) = FP.Core.encode FP.Core.b64 (FP.Core.round FP.Core.b64 (FP.Core.exactSum (FP.Core.decode FP.Core.b64 X) (FP.Core.decode FP.Core.b64 Y))) := by
  have hy : Y % 2 ^ 63 < 2047 * 2 ^ 52 := by omega
  have hex := eN_b (m := X % 2 ^ 63) (by omega)
  have hey := eN_b (m := Y % 2 ^ 63) (by omega)
  obtain ⟨g1, g2, g3⟩ := dgN_le hle
  have hc := dgN_b (m := X % 2 ^ 63)
  have hd := dgN_b (m := Y % 2 ^ 63)
  have hp0 : X % 2 ^ 63 = 0 ∨ 0 < dgN (X % 2 ^ 63) := by
    rcases Nat.eq_zero_or_pos (X % 2 ^ 63) with z | z
    · exact Or.inl z
    · exact Or.inr (dgN_pos z)
  obtain ⟨k, hk⟩ : ∃ k, eN (X % 2 ^ 63) = eN (Y % 2 ^ 63) + k := ⟨eN (X % 2 ^ 63) - eN (Y % 2 ^ 63), by omega⟩
  have eY0 : X % 2 ^ 63 = 0 → Y % 2 ^ 63 = 0 := fun z => by omega
  rw [val_N hX hx, val_N hY hy, FP.Core.exactSum, q_min hX, dDig_N hX, dDig_N hY, dScale_N hX, dScale_N hY, iI_sub, show ((eN (X % 2 ^ 63) : Int) - (eN (Y % 2 ^ 63) : Int)) = (k : Int) by omega, iI_n, show (3 : Int32) = nI 3 from rfl, q_shl _ (by decide), q_shl _ (by decide), dShift_N (by omega) (by omega)]
  obtain ⟨m1, m2⟩ := sumU (c := dgN (X % 2 ^ 63)) (d := dgN (Y % 2 ^ 63)) (s := sB X) (t := sB Y) (q := (eN (X % 2 ^ 63) : Int) - 1075) (r := (eN (Y % 2 ^ 63) : Int) - 1075) (k := k) (by omega)
  rw [m1, m2]
  obtain ⟨t1, t2, t3, t4, t5⟩ := sum_key (eu := eN (X % 2 ^ 63)) (ev := eN (Y % 2 ^ 63)) hc hd hk (fun z => g2 (by omega)) (fun z => g3 (by omega))
  have hxz : X % 2 ^ 63 = 0 → dgN (X % 2 ^ 63) = 0 ∧ dgN (Y % 2 ^ 63) = 0 ∧ eN (X % 2 ^ 63) = 1 := fun z => by
    rw [eY0 z, z]; exact ⟨rfl, rfl, rfl⟩
  generalize dgN (X % 2 ^ 63) = c at *
  generalize dgN (Y % 2 ^ 63) = d at *
  generalize eN (X % 2 ^ 63) = eu at *
  generalize eN (Y % 2 ^ 63) = ev at *
  have hS63 : shS (d * 2 ^ 3) k < 2 ^ 57 := by
    have : shS (d * 8) k ≤ c * 8 := t2
    have h8 : d * 2 ^ 3 = d * 8 := rfl
    rw [h8]; omega
  rw [show d * 2 ^ 3 = d * 8 from rfl] at *
  have e8 : c * 2 ^ 3 = c * 8 := rfl
  rw [e8]
  have hq : lN (c * 8) = lN (shS (d * 8) k) ↔ c * 2 ^ k = d := by rw [q_eq (by omega) (by omega)]; exact t5
  have e8c : c * 8 * 2 ^ k = 8 * (c * 2 ^ k) := by ac_rfl
  have pk := Nat.two_pow_pos k
  by_cases al : (sB X != sB Y) = true
  · rw [if_pos al]
    have hst : sB Y = !sB X := by revert al; cases sB X <;> cases sB Y <;> decide
    by_cases z : c * 2 ^ k = d
    · rw [if_pos ⟨hq.mpr z, al⟩, z, hst]
      cases sB X
      · rw [show FP.Core.signed false d + FP.Core.signed (!false) d = 0 by simp only [FP.Core.signed]; simp; omega]
        show uN 0 = FP.Core.encode FP.Core.b64 (FP.Core.roundRatio FP.Core.b64 (FP.Core.sumSign _ _ 0) 0 1 _)
        rw [rr_0, zeroN]
        decide +kernel
      · rw [show FP.Core.signed true d + FP.Core.signed (!true) d = 0 by simp only [FP.Core.signed]; simp; omega]
        show uN 0 = FP.Core.encode FP.Core.b64 (FP.Core.roundRatio FP.Core.b64 (FP.Core.sumSign _ _ 0) 0 1 _)
        rw [rr_0, zeroN]
        decide +kernel
    · rw [if_neg (fun y => z (hq.mp y.1)), lN_sub t2]
      have hpos : 0 < c * 8 - shS (d * 8) k := by
        have : c * 8 ≠ shS (d * 8) k := fun y => z (t5.mp y)
        omega
      have hSy := t1.sub (K := c * 8) (by omega) t2
      rw [dRound_N (by omega) pk hpos (by omega) hSy (by
        rcases t3 with y | y
        · left; rw [y, Nat.sub_mul]
        · exact Or.inr y)]
      have hv : (FP.Core.signed (sB X) (c * 2 ^ k) + FP.Core.signed (sB Y) d).natAbs = c * 2 ^ k - d ∧ FP.Core.sumSign (sB X) (sB Y) (FP.Core.signed (sB X) (c * 2 ^ k) + FP.Core.signed (sB Y) d) = sB X := by
        rw [hst]
        generalize c * 2 ^ k = L at *
        cases sB X
        · have e : FP.Core.signed false L + FP.Core.signed (!false) d = (L : Int) - d := by simp only [FP.Core.signed]; simp; omega
          rw [e, FP.Core.sumSign, if_neg (by omega)]
          exact ⟨by omega, decide_eq_false (by omega)⟩
        · have e : FP.Core.signed true L + FP.Core.signed (!true) d = -((L : Int) - d) := by simp only [FP.Core.signed]; simp; omega
          rw [e, FP.Core.sumSign, if_neg (by omega)]
          exact ⟨by omega, decide_eq_true (by omega)⟩
      rw [hv.1, hv.2]
      congr 1
      exact sum_rr hk (by rw [e8c]; omega)
  · rw [if_neg (fun y => al y.2), if_neg al, lN_add]
    have hst : sB Y = sB X := by revert al; cases sB X <;> cases sB Y <;> decide
    have hv : (FP.Core.signed (sB X) (c * 2 ^ k) + FP.Core.signed (sB Y) d).natAbs = c * 2 ^ k + d ∧ FP.Core.sumSign (sB X) (sB Y) (FP.Core.signed (sB X) (c * 2 ^ k) + FP.Core.signed (sB Y) d) = sB X := by
      rw [hst]
      generalize c * 2 ^ k = L at *
      cases sB X
      · have e : FP.Core.signed false L + FP.Core.signed false d = (L : Int) + d := by simp only [FP.Core.signed]; simp
        rw [e, FP.Core.sumSign]
        refine ⟨by omega, ?_⟩
        split
        · rfl
        · exact decide_eq_false (by omega)
      · have e : FP.Core.signed true L + FP.Core.signed true d = -((L : Int) + d) := by simp only [FP.Core.signed]; simp; omega
        rw [e, FP.Core.sumSign]
        refine ⟨by omega, ?_⟩
        split
        · rfl
        · exact decide_eq_true (by omega)
    rw [hv.1, hv.2]
    rcases hp0 with z | z
    · obtain ⟨y1, y2, y3⟩ := hxz z
      have k0 : k = 0 := by omega
      rw [y1, y2, y3, k0]
      show _ = FP.Core.encode FP.Core.b64 (FP.Core.roundRatio FP.Core.b64 (sB X) 0 1 _)
      rw [rr_0, zeroN]
      cases sB X <;> decide +kernel
    · have hSy := t1.add (K := c * 8) (by omega)
      rw [dRound_N (by omega) pk (by omega) (by omega) hSy (by
        rcases t3 with y | y
        · left; rw [y, Nat.add_mul]
        · right; omega)]
      congr 1
      exact sum_rr hk (by rw [e8c]; omega)
