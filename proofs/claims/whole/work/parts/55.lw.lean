/-! longs as natural numbers (rows of the kit's BITS text, turned to ushr64, shr64, shl64); roots digit by digit -/
theorem q_tb (n : Nat) : (lN n).toBitVec = BitVec.ofNat 64 n := rfl
theorem q_inj {a b : Int64} (h : a.toBitVec = b.toBitVec) : a = b := Int64.toBitVec_inj.mp h
theorem q_tn {n : Nat} (h : n < 2 ^ 64) : (lN n).toBitVec.toNat = n := by rw [q_tb, BitVec.toNat_ofNat, Nat.mod_eq_of_lt h]
theorem q_of (x : Int64) : ∃ n, n < 2 ^ 64 ∧ x = lN n := ⟨x.toBitVec.toNat, x.toBitVec.isLt, q_inj (by rw [q_tb]; simp)⟩
theorem q_uN {n : Nat} (h : n < 2 ^ 64) : uN (lN n) = n := q_tn h
theorem q_lt2 {a b : Nat} (h : a < b) : 2 ^ a < 2 ^ b := Nat.pow_lt_pow_right (by decide) h
theorem q_c : ∀ k, k < 64 → ((nI k).toInt64 &&& 63) = lN k := by decide +kernel
theorem q_cu : ∀ k, k < 64 → ((nI k).toInt64.toUInt64 &&& Int64.toUInt64 63) = UInt64.ofNat k := by decide +kernel
theorem q_sm : ∀ k, k < 64 → (BitVec.ofNat 64 k).smod 64 = BitVec.ofNat 64 k := by decide +kernel
theorem q_ushr {n k : Nat} (hn : n < 2 ^ 64) (hk : k < 64) : ushr64 (lN n) (nI k) = lN (n / 2 ^ k) := by
  unfold ushr64
  rw [q_cu k hk]
  apply q_inj
  apply BitVec.eq_of_toNat_eq
  show ((lN n).toUInt64 >>> UInt64.ofNat k).toNat = (BitVec.ofNat 64 _).toNat
  have h1 : (UInt64.ofNat k).toNat = k := by
    show (BitVec.ofNat 64 k).toNat = k
    rw [BitVec.toNat_ofNat, Nat.mod_eq_of_lt (by omega)]
  have h2 : (lN n).toUInt64.toNat = n := q_tn hn
  rw [UInt64.toNat_shiftRight, h1, h2, Nat.mod_eq_of_lt hk, Nat.shiftRight_eq_div_pow, BitVec.toNat_ofNat, Nat.mod_eq_of_lt (Nat.lt_of_le_of_lt (Nat.div_le_self _ _) hn)]
theorem q_shl (n : Nat) {k : Nat} (hk : k < 64) : shl64 (lN n) (nI k) = lN (n * 2 ^ k) := by
  unfold shl64
  rw [q_c k hk]
  apply q_inj
  rw [Int64.toBitVec_shiftLeft, q_tb, q_tb, q_tb, q_sm k hk]
  apply BitVec.eq_of_toNat_eq
  rw [BitVec.shiftLeft_eq', BitVec.toNat_shiftLeft, BitVec.toNat_ofNat, BitVec.toNat_ofNat, BitVec.toNat_ofNat, Nat.mod_eq_of_lt (show k < 2 ^ 64 by omega), Nat.shiftLeft_eq, Nat.mul_mod, Nat.mod_mod, ← Nat.mul_mod]
theorem q_int {a : Nat} (h : a < 2 ^ 63) : (lN a).toInt = (a : Int) := lg_ofNat_toInt h
theorem q_shr {n k : Nat} (hn : n < 2 ^ 63) (hk : k < 64) : shr64 (lN n) (nI k) = lN (n / 2 ^ k) := by
  unfold shr64
  rw [q_c k hk]
  have hd : n / 2 ^ k ≤ n := Nat.div_le_self _ _
  apply Int64.toInt_inj.mp
  have e : (lN n >>> lN k).toInt = (lN n).toInt >>> k := by
    have h : ((lN k).toBitVec.smod 64).toNat = k := by
      rw [q_tb, q_sm k hk, BitVec.toNat_ofNat, Nat.mod_eq_of_lt (by omega)]
    have h2 : (lN n >>> lN k).toInt = (lN n).toInt >>> ((lN k).toBitVec.smod 64).toNat := BitVec.toInt_sshiftRight ..
    rw [h2, h]
  rw [e, Int.shiftRight_eq_div_pow, q_int hn, q_int (by omega)]
  rfl
theorem q_le {a b : Nat} (ha : a < 2 ^ 63) (hb : b < 2 ^ 63) : lN a ≤ lN b ↔ a ≤ b := by
  rw [Int64.le_iff_toInt_le, q_int ha, q_int hb]; omega
theorem q_lt {a b : Nat} (ha : a < 2 ^ 63) (hb : b < 2 ^ 63) : lN a < lN b ↔ a < b := by
  rw [Int64.lt_iff_toInt_lt, q_int ha, q_int hb]; omega
theorem q_eq {a b : Nat} (ha : a < 2 ^ 64) (hb : b < 2 ^ 64) : lN a = lN b ↔ a = b := by
  constructor
  · intro h
    have h2 := congrArg uN h
    rwa [q_uN ha, q_uN hb] at h2
  · exact fun h => by rw [h]
theorem q_u {n : Nat} (h : n < 2 ^ 64) : (UInt64.ofNat n).toNat = n := Nat.mod_eq_of_lt h
theorem q_and {a b c : Nat} (ha : a < 2 ^ 64) (hb : b < 2 ^ 64) (hc : a &&& b = c) : lN a &&& lN b = lN c := by
  subst hc
  have h : UInt64.ofNat a &&& UInt64.ofNat b = UInt64.ofNat (a &&& b) := UInt64.toNat_inj.mp (by rw [UInt64.toNat_and, q_u ha, q_u hb, q_u (Nat.and_lt_two_pow a hb)])
  have h2 := congrArg UInt64.toInt64 h
  exact h2
theorem q_mask {a s : Nat} (hs : s < 64) (ha : a < 2 ^ 64) : lN a &&& lN (2 ^ s - 1) = lN (a % 2 ^ s) := by
  have := Nat.pow_lt_pow_right (show 1 < 2 by decide) hs
  exact q_and ha (by omega) (Nat.and_two_pow_sub_one_eq_mod a s)
theorem q_or {k a b : Nat} (ha : a < 2 ^ k) (h : b * 2 ^ k + a < 2 ^ 64) : lN (b * 2 ^ k) ||| lN a = lN (b * 2 ^ k + a) := by
  have h1 : b * 2 ^ k ||| a = b * 2 ^ k + a := by rw [← Nat.shiftLeft_eq, Nat.shiftLeft_add_eq_or_of_lt ha]
  have h3 : UInt64.ofNat (b * 2 ^ k) ||| UInt64.ofNat a = UInt64.ofNat (b * 2 ^ k + a) := UInt64.toNat_inj.mp (by rw [UInt64.toNat_or, q_u (by omega), q_u (by omega), q_u h, h1])
  have h2 := congrArg UInt64.toInt64 h3
  exact h2
/-- a step of the root on numbers -/
def sqS (a r : Nat) : Nat × Nat := if r < 4 * a + 1 then (2 * a, r) else (2 * a + 1, r - (4 * a + 1))
def sqP (x i : Nat) : Nat := if i < 27 then x / 2 ^ (52 - 2 * i) % 4 else 0
def sqN (x : Nat) : Nat → Nat → Nat → Nat → Nat × Nat
  | 0, _, a, r => (a, r)
  | n + 1, i, a, r => sqN x n (i + 1) (sqS a (4 * r + sqP x i)).1 (sqS a (4 * r + sqP x i)).2
theorem sqP_lt (x i : Nat) : sqP x i < 4 := by
  unfold sqP
  split
  · exact Nat.mod_lt _ (by decide)
  · decide
theorem sqS_inv {a r c : Nat} (h : r ≤ 2 * a) (hc : c < 4) : (sqS a (4 * r + c)).2 ≤ 2 * (sqS a (4 * r + c)).1 ∧ (sqS a (4 * r + c)).1 ≤ 2 * a + 1 := by
  unfold sqS
  split
  · show 4 * r + c ≤ 2 * (2 * a) ∧ 2 * a ≤ 2 * a + 1
    omega
  · show 4 * r + c - (4 * a + 1) ≤ 2 * (2 * a + 1) ∧ 2 * a + 1 ≤ 2 * a + 1
    omega
theorem sqStep_N {a r : Nat} (ha : a < 2 ^ 58) (hr : r < 2 ^ 62) : sqStep (lN a) (lN r) = (lN (sqS a r).1, lN (sqS a r).2) := by
  have e2 : shl64 (lN a) 2 ||| 1 = lN (4 * a + 1) := by
    rw [show (2 : Int32) = nI 2 from rfl, q_shl a (by decide), show (1 : Int64) = lN 1 from rfl, q_or (by decide) (by omega)]
    congr 1; omega
  have e1 : shl64 (lN a) 1 = lN (2 * a) := by
    rw [show (1 : Int32) = nI 1 from rfl, q_shl a (by decide)]
    congr 1; omega
  have e3 : shl64 (lN a) 1 ||| 1 = lN (2 * a + 1) := by
    rw [show (1 : Int32) = nI 1 from rfl, q_shl a (by decide), show (1 : Int64) = lN 1 from rfl, q_or (by decide) (by omega)]
    congr 1; omega
  unfold sqStep sqS
  rw [e2, e3, e1]
  have hl : lN r < lN (4 * a + 1) ↔ r < 4 * a + 1 := q_lt (by omega) (by omega)
  by_cases h : r < 4 * a + 1
  · rw [if_pos h, if_pos (hl.mpr h)]
  · rw [if_neg h, if_neg (fun z => h (hl.mp z)), lN_sub (by omega)]
theorem sqNext_N {x i : Nat} (hx : x < 2 ^ 54) (hi : i < 100) : sqNext (lN x) i = lN (sqP x i) := by
  unfold sqNext sqP
  by_cases h : i < 27
  · rw [if_pos h, if_pos h]
    have e : (52 : Int32) - 2 * nI i = nI (52 - 2 * i) := by
      rw [show (2 : Int32) = nI 2 from rfl, pk_mul, show (52 : Int32) = nI 52 from rfl]
      obtain ⟨d, hd⟩ : ∃ d, 52 = d + 2 * i := ⟨52 - 2 * i, by omega⟩
      rw [show 52 - 2 * i = d by omega, hd, ← nI_add, Int32.add_sub_cancel]
    rw [e, q_ushr (by omega) (by omega), show (3 : Int64) = lN (2 ^ 2 - 1) from rfl, q_mask (by decide) (Nat.lt_of_le_of_lt (Nat.div_le_self _ _) (by omega))]
  · rw [if_neg h, if_neg h]; rfl
theorem sqGo_N {x : Nat} (hx : x < 2 ^ 54) : ∀ (n i a r : Nat), i + n ≤ 56 → a < 2 ^ i → r ≤ 2 * a → sqGo (lN x) n i (lN a) (lN r) = (lN (sqN x n i a r).1, lN (sqN x n i a r).2)
  | 0, _, _, _, _, _, _ => rfl
  | n + 1, i, a, r, hi, ha, hr => by
    have h56 : 2 ^ i ≤ 2 ^ 55 := Nat.pow_le_pow_right (by decide) (by omega)
    have hp := sqP_lt x i
    have e4 : shl64 (lN r) 2 ||| sqNext (lN x) i = lN (4 * r + sqP x i) := by
      rw [sqNext_N hx (by omega), show (2 : Int32) = nI 2 from rfl, q_shl r (by decide), q_or hp (by omega)]
      congr 1; omega
    obtain ⟨i1, i2⟩ := sqS_inv hr hp
    have i3 : 2 ^ (i + 1) = 2 * 2 ^ i := by rw [Nat.pow_succ]; omega
    rw [sqGo, e4, sqStep_N (by omega) (by omega), sqGo_N hx n (i + 1) _ _ (by omega) (by omega) i1]
    rfl
theorem sqN_inv (x : Nat) : ∀ (n i a r : Nat), a < 2 ^ i → r ≤ 2 * a → (sqN x n i a r).1 < 2 ^ (i + n) ∧ (sqN x n i a r).2 ≤ 2 * (sqN x n i a r).1
  | 0, _, _, _, ha, hr => ⟨ha, hr⟩
  | n + 1, i, a, r, ha, hr => by
    have hp := sqP_lt x i
    obtain ⟨i1, i2⟩ := sqS_inv hr hp
    have i3 : 2 ^ (i + 1) = 2 * 2 ^ i := by rw [Nat.pow_succ]; omega
    have := sqN_inv x n (i + 1) _ _ (show (sqS a (4 * r + sqP x i)).1 < 2 ^ (i + 1) by omega) i1
    rw [show i + (n + 1) = i + 1 + n by omega]
    exact this
