/-! KINDS as one number: what the packed word holds -/
theorem bt_or {E c i : Nat} (hc : c < 4) (h : E / 4 ^ i % 4 = 0) : E ||| (c * 4 ^ i) = E + c * 4 ^ i := by
  have h4 : (4 : Nat) ^ i = 2 ^ (2 * i) := by rw [Nat.pow_mul]
  have h5 : (4 : Nat) ^ (i + 1) = 2 ^ (2 * i + 2) := by rw [Nat.pow_succ, h4, Nat.pow_add]
  have hE : E = 2 ^ (2 * i + 2) * (E / 4 ^ (i + 1)) + E % 4 ^ i := by
    have e1 := Nat.div_add_mod E (4 ^ i)
    have e2 := Nat.div_add_mod (E / 4 ^ i) 4
    rw [h] at e2
    rw [← h5, Nat.pow_succ, ← Nat.div_div_eq_div_mul]
    calc E = 4 ^ i * (E / 4 ^ i) + E % 4 ^ i := e1.symm
      _ = 4 ^ i * (4 * (E / 4 ^ i / 4)) + E % 4 ^ i := by rw [show 4 * (E / 4 ^ i / 4) = E / 4 ^ i by omega]
      _ = _ := by rw [Nat.mul_assoc]
  have hlo : E % 4 ^ i < 2 ^ (2 * i) := by rw [← h4]; exact Nat.mod_lt _ (Nat.pow_pos (by decide))
  have hpow : 2 ^ (2 * i + 2) = 4 * 2 ^ (2 * i) := by rw [Nat.pow_add]; omega
  have hsum : c * 2 ^ (2 * i) + E % 4 ^ i < 2 ^ (2 * i + 2) := by
    rw [hpow]
    have : c * 2 ^ (2 * i) ≤ 3 * 2 ^ (2 * i) := Nat.mul_le_mul_right _ (by omega)
    omega
  generalize hhi : E / 4 ^ (i + 1) = hi at hE
  generalize hlo2 : E % 4 ^ i = lo at hE hlo hsum
  have key : (2 ^ (2 * i + 2) * hi + lo) ||| (2 ^ (2 * i) * c) = 2 ^ (2 * i + 2) * hi + (2 ^ (2 * i) * c + lo) := by
    rw [Nat.two_pow_add_eq_or_of_lt (show lo < 2 ^ (2 * i + 2) by omega), Nat.or_assoc, Nat.or_comm lo, ← Nat.two_pow_add_eq_or_of_lt hlo, ← Nat.two_pow_add_eq_or_of_lt (by rw [Nat.mul_comm]; exact hsum)]
  rw [h4, hE, Nat.mul_comm c, key]
  omega
theorem i32_ext {x y : Int32} (h : x.toBitVec.toNat = y.toBitVec.toNat) : x = y := Int32.toBitVec_inj.mp (BitVec.eq_of_toNat_eq h)
theorem w_tn {n : Nat} (h : n < 2 ^ 32) : (nI n).toBitVec.toNat = n := by
  show (BitVec.ofNat 32 n).toNat = n
  rw [BitVec.toNat_ofNat, Nat.mod_eq_of_lt h]
theorem w_or {a b c : Nat} (ha : a < 2 ^ 32) (hb : b < 2 ^ 32) (h : a ||| b = c) : nI a ||| nI b = nI c := by
  subst h
  apply i32_ext
  rw [Int32.toBitVec_or, BitVec.toNat_or, w_tn ha, w_tn hb, w_tn (Nat.or_lt_two_pow ha hb)]
theorem w_and {a b c : Nat} (ha : a < 2 ^ 32) (hb : b < 2 ^ 32) (h : a &&& b = c) : nI a &&& nI b = nI c := by
  subst h
  apply i32_ext
  rw [Int32.toBitVec_and, BitVec.toNat_and, w_tn ha, w_tn hb, w_tn (Nat.and_lt_two_pow _ hb)]
theorem w_cu : ∀ k, k < 32 → ((nI k).toUInt32 &&& Int32.toUInt32 31) = UInt32.ofNat k := by decide +kernel
theorem w_ushr {n k : Nat} (hn : n < 2 ^ 32) (hk : k < 32) : ushr32 (nI n) (nI k) = nI (n / 2 ^ k) := by
  unfold ushr32
  rw [w_cu k hk]
  apply i32_ext
  show ((nI n).toUInt32 >>> UInt32.ofNat k).toNat = _
  have h1 : (UInt32.ofNat k).toNat = k := by
    show (BitVec.ofNat 32 k).toNat = k
    rw [BitVec.toNat_ofNat, Nat.mod_eq_of_lt (by omega)]
  have h2 : (nI n).toUInt32.toNat = n := w_tn hn
  rw [UInt32.toNat_shiftRight, h1, h2, Nat.mod_eq_of_lt hk, Nat.shiftRight_eq_div_pow, w_tn (Nat.lt_of_le_of_lt (Nat.div_le_self _ _) hn)]
theorem w_mod4 {n : Nat} (hn : n < 2 ^ 32) : nI n &&& 3 = nI (n % 4) := w_and hn (by decide) (Nat.and_two_pow_sub_one_eq_mod n 2)
def en6 (f : Nat → Nat) : Nat := f 0 + 4 * f 1 + 16 * f 2 + 64 * f 3 + 256 * f 4 + 1024 * f 5
def enK (d : Nat) (st lo : Nat → Nat) : Nat := en6 st + 4096 * en6 lo + 16777216 * d
/-- the word w is: d deep, kinds st and lo -/
def KW (w : Int32) (d : Nat) (st lo : Nat → Nat) : Prop := w = nI (enK d st lo) ∧ d ≤ 6 ∧ (∀ i, st i < 4) ∧ (∀ i, d ≤ i → st i = 0) ∧ ∀ l, lo l < 4
theorem en6_lt {f : Nat → Nat} (h : ∀ i, f i < 4) : en6 f < 4096 := by
  have h0 := h 0; have h1 := h 1; have h2 := h 2; have h3 := h 3; have h4 := h 4; have h5 := h 5
  unfold en6; omega
theorem en6_at {f : Nat → Nat} (h : ∀ i, f i < 4) : ∀ i, i < 6 → en6 f / 4 ^ i % 4 = f i := by
  have h0 := h 0; have h1 := h 1; have h2 := h 2; have h3 := h 3; have h4 := h 4; have h5 := h 5
  intro i hi
  unfold en6
  rcases (show i = 0 ∨ i = 1 ∨ i = 2 ∨ i = 3 ∨ i = 4 ∨ i = 5 by omega) with rfl | rfl | rfl | rfl | rfl | rfl <;> omega
theorem KW.lt {w : Int32} {d : Nat} {st lo : Nat → Nat} (h : KW w d st lo) : enK d st lo < 2 ^ 31 := by
  have h1 := en6_lt h.2.2.1
  have h2 := en6_lt h.2.2.2.2
  have h3 := h.2.1
  unfold enK; omega
theorem enK_st {w : Int32} {d : Nat} {st lo : Nat → Nat} (h : KW w d st lo) : ∀ i, i < 6 → enK d st lo / 4 ^ i % 4 = st i := by
  intro i hi
  have e := en6_at h.2.2.1 i hi
  have h1 := en6_lt h.2.2.1
  unfold enK
  generalize en6 st = s at e h1 ⊢
  generalize en6 lo = l
  rw [← e]
  rcases (show i = 0 ∨ i = 1 ∨ i = 2 ∨ i = 3 ∨ i = 4 ∨ i = 5 by omega) with rfl | rfl | rfl | rfl | rfl | rfl <;> omega
theorem enK_lo {w : Int32} {d : Nat} {st lo : Nat → Nat} (h : KW w d st lo) : ∀ i, i < 6 → enK d st lo / 4 ^ (6 + i) % 4 = lo i := by
  intro i hi
  have e := en6_at h.2.2.2.2 i hi
  have h1 := en6_lt h.2.2.1
  have h2 := en6_lt h.2.2.2.2
  unfold enK
  generalize en6 st = s at h1 ⊢
  generalize en6 lo = l at e h2 ⊢
  rw [← e]
  rcases (show i = 0 ∨ i = 1 ∨ i = 2 ∨ i = 3 ∨ i = 4 ∨ i = 5 by omega) with rfl | rfl | rfl | rfl | rfl | rfl <;> omega
theorem KW.depth {w : Int32} {d : Nat} {st lo : Nat → Nat} (h : KW w d st lo) : kDepth w = nI d := by
  have hl := h.lt
  have h1 := en6_lt h.2.2.1
  have h2 := en6_lt h.2.2.2.2
  rw [kDepth, h.1, show (24 : Int32) = nI 24 from rfl, w_ushr (by omega) (by decide)]
  congr 1
  unfold enK; omega
theorem two_nI (i : Nat) : (2 : Int32) * nI i = nI (2 * i) := by rw [show (2 : Int32) = nI 2 from rfl, pk_mul]
theorem nI_guard {i N : Nat} {M : Int32} (hM : M = nI N) (hi : i < N) (hN : N < 2 ^ 31) : ¬ nI i < 0 ∧ ¬ M ≤ nI i := ⟨nI_pos (by omega), by rw [hM, nI_leI (by omega) (by omega)]; omega⟩
theorem p4 (i : Nat) : 2 ^ (2 * i) = 4 ^ i := by rw [Nat.pow_mul]
theorem KW.item {w : Int32} {d : Nat} {st lo : Nat → Nat} (h : KW w d st lo) {i : Nat} (hi : i < 6) : kItem w (nI i) = nI (st i) := by
  have hl := h.lt
  rw [kItem, if_pos (nI_guard (N := 6) (M := 6) rfl hi (by decide)), h.1, two_nI, w_ushr (by omega) (by omega), w_mod4 (Nat.lt_of_le_of_lt (Nat.div_le_self _ _) (by omega)), p4, enK_st h i hi]
theorem KW.loc {w : Int32} {d : Nat} {st lo : Nat → Nat} (h : KW w d st lo) {i : Nat} (hi : i < 6) : kLocal w (nI i) = nI (lo i) := by
  have hl := h.lt
  rw [kLocal, if_pos (nI_guard (N := 6) (M := 6) rfl hi (by decide)), h.1, two_nI, show (12 : Int32) = nI 12 from rfl, nI_add, w_ushr (by omega) (by omega), w_mod4 (Nat.lt_of_le_of_lt (Nat.div_le_self _ _) (by omega)), show 12 + 2 * i = 2 * (6 + i) by omega, p4, enK_lo h i hi]
theorem KW.top0 {w : Int32} {d : Nat} {st lo : Nat → Nat} (h : KW w d st lo) (hd : 0 < d) : kItem w (kDepth w - 1) = nI (st (d - 1)) := by
  obtain ⟨k, rfl⟩ : ∃ k, d = k + 1 := ⟨d - 1, by omega⟩
  rw [h.depth, nI_m1, Nat.add_sub_cancel]
  exact h.item (by have := h.2.1; omega)
def up (f : Nat → Nat) (j c : Nat) : Nat → Nat := fun i => if i = j then c else f i
theorem up_at (f : Nat → Nat) (j c : Nat) : up f j c j = c := if_pos rfl
theorem up_ne (f : Nat → Nat) {j i : Nat} (c : Nat) (h : i ≠ j) : up f j c i = f i := if_neg h
theorem up_lt {f : Nat → Nat} {j c : Nat} (h : ∀ i, f i < 4) (hc : c < 4) : ∀ i, up f j c i < 4 := fun i => by
  unfold up
  split
  · exact hc
  · exact h i
theorem en6_up {f : Nat → Nat} {j c : Nat} (hj : j < 6) (h : ∀ i, f i < 4) : en6 (up f j c) + f j * 4 ^ j = en6 f + c * 4 ^ j := by
  unfold en6 up
  rcases (show j = 0 ∨ j = 1 ∨ j = 2 ∨ j = 3 ∨ j = 4 ∨ j = 5 by omega) with rfl | rfl | rfl | rfl | rfl | rfl <;> simp <;> omega
theorem w_shl3 : ∀ i, i < 12 → shl32 3 (nI (2 * i)) ^^^ (-1) = nI (4294967295 - 3 * 4 ^ i) := by decide +kernel
theorem w_shlc : ∀ c, c < 4 → ∀ i, i < 12 → shl32 (nI c) (nI (2 * i)) = nI (c * 4 ^ i) := by decide +kernel
theorem bt_clr {E i : Nat} (hE : E < 2 ^ 32) (hi : i < 12) : E &&& (4294967295 - 3 * 4 ^ i) = E - E / 4 ^ i % 4 * 4 ^ i := by
  have h4 : (4 : Nat) ^ i = 2 ^ (2 * i) := by rw [Nat.pow_mul]
  have hpow : 2 ^ (2 * i + 2) = 4 * 2 ^ (2 * i) := by rw [Nat.pow_add]; omega
  have hp32 : 2 ^ (2 * i + 2) * 2 ^ (30 - 2 * i) = 2 ^ 32 := by rw [← Nat.pow_add]; congr 1; omega
  have hp1 : 0 < 2 ^ (2 * i) := Nat.two_pow_pos _
  have hp2 : 0 < 2 ^ (30 - 2 * i) := Nat.two_pow_pos _
  have eM : 4294967295 - 3 * 4 ^ i = 2 ^ (2 * i + 2) * (2 ^ (30 - 2 * i) - 1) + (2 ^ (2 * i) - 1) := by
    rw [Nat.mul_sub, hp32, h4, Nat.mul_one, hpow]
    have : 4 * 2 ^ (2 * i) ≤ 2 ^ 32 := by rw [← hpow, ← hp32]; exact Nat.le_mul_of_pos_right _ hp2
    omega
  have e1 := Nat.div_add_mod E (4 ^ i)
  have e2 := Nat.div_add_mod (E / 4 ^ i) 4
  have hlo : E % 4 ^ i < 2 ^ (2 * i) := by rw [← h4]; exact Nat.mod_lt _ (Nat.pow_pos (by decide))
  have hR : E - E / 4 ^ i % 4 * 4 ^ i = 2 ^ (2 * i + 2) * (E / 4 ^ i / 4) + E % 4 ^ i := by
    rw [hpow, ← h4]
    have e3 : 4 ^ i * (E / 4 ^ i) = 4 ^ i * (4 * (E / 4 ^ i / 4)) + 4 ^ i * (E / 4 ^ i % 4) := by rw [← Nat.mul_add, e2]
    have e4 : 4 ^ i * (4 * (E / 4 ^ i / 4)) = 4 * 4 ^ i * (E / 4 ^ i / 4) := by rw [← Nat.mul_assoc, Nat.mul_comm (4 ^ i) 4]
    rw [Nat.mul_comm (E / 4 ^ i % 4)]
    omega
  rw [hR, eM]
  have hE4 : E / 4 ^ i / 4 < 2 ^ (30 - 2 * i) := by
    rw [Nat.div_div_eq_div_mul, h4, Nat.mul_comm, ← hpow]
    exact Nat.div_lt_of_lt_mul (by rw [hp32]; exact hE)
  apply Nat.eq_of_testBit_eq
  intro j
  rw [Nat.testBit_and, Nat.testBit_two_pow_mul_add _ (by omega), Nat.testBit_two_pow_mul_add _ (by omega)]
  by_cases hj : j < 2 * i + 2
  · rw [if_pos hj, if_pos hj, Nat.testBit_two_pow_sub_one]
    by_cases hj2 : j < 2 * i
    · rw [decide_eq_true hj2, Bool.and_true, h4, Nat.testBit_mod_two_pow, decide_eq_true hj2, Bool.true_and]
    · rw [decide_eq_false hj2, Bool.and_false]
      rw [Nat.testBit_lt_two_pow (Nat.lt_of_lt_of_le hlo (Nat.pow_le_pow_right (by decide) (by omega)))]
  · rw [if_neg hj, if_neg hj, Nat.testBit_two_pow_sub_one, Nat.div_div_eq_div_mul, show 4 ^ i * 4 = 2 ^ (2 * i + 2) from by rw [hpow, h4]; omega, Nat.testBit_div_two_pow, show j - (2 * i + 2) + (2 * i + 2) = j by omega]
    by_cases hj3 : j - (2 * i + 2) < 30 - 2 * i
    · rw [decide_eq_true hj3, Bool.and_true]
    · rw [decide_eq_false hj3, Bool.and_false]
      rw [Nat.testBit_lt_two_pow (Nat.lt_of_lt_of_le hE (Nat.pow_le_pow_right (by decide) (by omega)))]
