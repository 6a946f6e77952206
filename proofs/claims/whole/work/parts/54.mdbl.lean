/-! the model's DOUBLES: sum, difference, product, quotient -/
def cz (a b : UInt64) : Bool := decide (Op.cmpValue (FP.dcmp a b) .l = 0)
theorem cz_iff (a b : UInt64) : cz a b = true ↔ FP.Core.dcmp a b = some .eq := by
  unfold cz
  rw [decide_eq_true_eq]
  cases hc : FP.Core.dcmp a b with
  | none => rw [show FP.dcmp a b = none from hc]; simp [Op.cmpValue]
  | some o =>
    rw [show FP.dcmp a b = some o from hc]
    cases o <;> simp [Op.cmpValue]
theorem cz_self (a : UInt64) : cz a a = !FP.dIsNaN a := by
  have h := cmp_self0 a
  unfold cz
  cases hn : FP.dIsNaN a with
  | true =>
    rw [hn] at h
    simp only [Bool.not_true, decide_eq_false_iff_not]
    intro z
    exact absurd (h.mp z) (by decide)
  | false =>
    rw [hn] at h
    simp only [Bool.not_false, decide_eq_true_eq]
    exact h.mpr rfl
theorem cz_of {a b : UInt64} (hb : FP.dIsNaN b = false) (hz : ¬ FP.Core.DZero b) : cz a b = decide (a = b) := by
  have h : cz a b = true ↔ a = b := by
    rw [cz_iff]
    constructor
    · exact fun z => FP.Core.eq_bits hz z
    · rintro rfl
      exact FP.Core.dcmp_refl hb
  cases hc : cz a b with
  | true => rw [hc] at h; exact (decide_eq_true (h.mp rfl)).symm
  | false =>
    rw [hc] at h
    refine (decide_eq_false (fun z => ?_)).symm
    exact absurd (h.mpr z) (by decide)
def dINF : UInt64 := 9218868437227405312
def dNIF : UInt64 := 18442240474082181120
theorem cz_inf (a : UInt64) : cz a 9218868437227405312 = decide (a = dINF) := cz_of (by decide +kernel) (by rw [FP.Core.zero_bits2]; decide)
theorem cz_nif (a : UInt64) : cz a 18442240474082181120 = decide (a = dNIF) := cz_of (by decide +kernel) (by rw [FP.Core.zero_bits2]; decide)
theorem val_inf {a : UInt64} {t : Bool} : FP.Core.val64 a = .inf t ↔ a = if t then dNIF else dINF := by
  have h1 : FP.Core.val64 dINF = .inf false := by decide +kernel
  have h2 : FP.Core.val64 dNIF = .inf true := by decide +kernel
  constructor
  · intro h
    cases t
    · exact FP.Core.val64_inj (by rw [h]; exact FP.Core.Datum.noConfusion) (h.trans h1.symm)
    · exact FP.Core.val64_inj (by rw [h]; exact FP.Core.Datum.noConfusion) (h.trans h2.symm)
  · intro h
    cases t
    · rw [show a = dINF from h]; exact h1
    · rw [show a = dNIF from h]; exact h2
/-- a zero's bits -/
def isZ (a : UInt64) : Bool := decide (a.toNat % 2 ^ 63 = 0)
theorem cz_zero (a : UInt64) : cz a 0 = isZ a := by
  have h : cz a 0 = true ↔ a.toNat % 2 ^ 63 = 0 := by
    rw [cz_iff, ← FP.Core.zero_bits2]
    constructor
    · intro z
      obtain ⟨h1, h2⟩ := FP.Core.dcmp_some z
      rw [FP.Core.dcmp_eq_key h1 h2, show FP.Core.dkey 0 = 0 from by decide +kernel] at z
      rw [FP.Core.zero_bits2]
      have := a.toNat_lt
      unfold FP.Core.dkey at z
      split at z <;> omega
    · intro z
      have h1 : FP.Core.val64 a ≠ .nan := z.fin.ne_nan
      have h2 : FP.Core.val64 0 ≠ .nan := by decide +kernel
      rw [FP.Core.dcmp_eq_key h1 h2, show FP.Core.dkey 0 = 0 from by decide +kernel]
      rw [FP.Core.zero_bits2] at z
      have := a.toNat_lt
      unfold FP.Core.dkey
      split <;> omega
  unfold isZ
  cases hc : cz a 0 with
  | true => rw [hc] at h; exact (decide_eq_true (h.mp rfl)).symm
  | false =>
    rw [hc] at h
    refine (decide_eq_false (fun z => ?_)).symm
    exact absurd (h.mpr z) (by decide)
theorem n64_of {r : UInt64} (h : FP.dIsNaN r = false) : vf_n64 r := by
  have h1 : ¬ 9218868437227405312 < r.toNat % 2 ^ 63 := fun z => by
    rw [← FP.Core.isNaN_bits] at z
    rw [show FP.Core.dIsNaN r = false from h] at z
    exact absurd z (by decide)
  unfold vf_n64
  rw [UInt64.le_iff_toNat_le, UInt64.toNat_and]
  rw [show (0x7fffffffffffffff : UInt64).toNat = 9223372036854775807 from rfl, and_mag]
  exact Nat.not_lt.mp h1
def mEnd (a : UInt64) : Bool := cz a 9218868437227405312 || cz a 18442240474082181120
theorem mEnd_eq (a : UInt64) : mEnd a = (decide (a = dINF) || decide (a = dNIF)) := by rw [mEnd, cz_inf, cz_nif]
theorem mEnd_val {a : UInt64} {t : Bool} (h : FP.Core.val64 a = .inf t) : mEnd a = true := by
  rw [val_inf] at h
  rw [mEnd_eq]
  cases t
  · rw [show a = dINF from h]; rfl
  · rw [show a = dNIF from h]; rfl
theorem nan_val {a : UInt64} : FP.Core.val64 a = .nan ↔ FP.dIsNaN a = true := (FP.Core.dIsNaN_iff a).symm
def mPlusN (a b : UInt64) : Bool := !cz a a || !cz b b || (mEnd a && mEnd b && !cz a b)
def mMinusN (a b : UInt64) : Bool := !cz a a || !cz b b || (mEnd a && mEnd b && cz a b)
def mTimesN (a b : UInt64) : Bool := !cz a a || !cz b b || (cz a FP.dconst0 && mEnd b) || (cz b FP.dconst0 && mEnd a)
def mByN (a b : UInt64) : Bool := !cz a a || !cz b b || (cz a FP.dconst0 && cz b FP.dconst0) || (mEnd a && mEnd b)
theorem nn_of {p : Prop} {a : UInt64} (h : FP.Core.dIsNaN a = true ↔ p) (hp : ¬ p) : FP.dIsNaN a = false := by
  cases hc : FP.dIsNaN a with
  | false => rfl
  | true => exact absurd (h.mp hc) hp
theorem plus_ok {a b : UInt64} (h : mPlusN a b = false) : FP.dIsNaN (FP.dadd a b) = false := by
  refine nn_of (FP.Core.dadd_nan_iff a b) (fun z => ?_)
  simp only [mPlusN, cz_self, Bool.or_eq_false_iff, Bool.not_not] at h
  rcases z with z | z | ⟨t, z1, z2⟩
  · rw [nan_val] at z; rw [h.1.1] at z; exact absurd z (by decide)
  · rw [nan_val] at z; rw [h.1.2] at z; exact absurd z (by decide)
  · have h3 := h.2
    rw [mEnd_val z1, mEnd_val z2] at h3
    rw [val_inf] at z1 z2
    cases t <;> (rw [z1, z2] at h3; revert h3; decide +kernel)
theorem minus_ok {a b : UInt64} (h : mMinusN a b = false) : FP.dIsNaN (FP.dsub a b) = false := by
  refine nn_of (FP.Core.dsub_nan_iff a b) (fun z => ?_)
  simp only [mMinusN, cz_self, Bool.or_eq_false_iff, Bool.not_not] at h
  rcases z with z | z | ⟨t, z1, z2⟩
  · rw [nan_val] at z; rw [h.1.1] at z; exact absurd z (by decide)
  · rw [nan_val] at z; rw [h.1.2] at z; exact absurd z (by decide)
  · have h3 := h.2
    rw [mEnd_val z1, mEnd_val z2] at h3
    rw [val_inf] at z1 z2
    cases t <;> (rw [z1, z2] at h3; revert h3; decide +kernel)
theorem cz0_of {a : UInt64} (h : FP.Core.DZero a) : cz a FP.dconst0 = true := by
  rw [show FP.dconst0 = 0 from rfl, cz_zero, isZ, decide_eq_true_eq]; exact (FP.Core.zero_bits2 a).mp h
theorem times_ok {a b : UInt64} (h : mTimesN a b = false) : FP.dIsNaN (FP.dmul a b) = false := by
  refine nn_of (FP.Core.dmul_nan_iff a b) (fun z => ?_)
  simp only [mTimesN, cz_self, Bool.or_eq_false_iff, Bool.not_not] at h
  rcases z with z | z | ⟨t, z1, z2⟩ | ⟨t, z1, z2⟩
  · rw [nan_val] at z; rw [h.1.1.1] at z; exact absurd z (by decide)
  · rw [nan_val] at z; rw [h.1.1.2] at z; exact absurd z (by decide)
  · have h3 := h.2
    rw [mEnd_val z1, cz0_of z2] at h3; exact absurd h3 (by decide)
  · have h3 := h.1.2
    rw [mEnd_val z2, cz0_of z1] at h3; exact absurd h3 (by decide)
theorem by_ok {a b : UInt64} (h : mByN a b = false) : FP.dIsNaN (FP.ddiv a b) = false := by
  refine nn_of (FP.Core.ddiv_nan_iff a b) (fun z => ?_)
  simp only [mByN, cz_self, Bool.or_eq_false_iff, Bool.not_not] at h
  rcases z with z | z | ⟨t, t2, z1, z2⟩ | ⟨z1, z2⟩
  · rw [nan_val] at z; rw [h.1.1.1] at z; exact absurd z (by decide)
  · rw [nan_val] at z; rw [h.1.1.2] at z; exact absurd z (by decide)
  · have h3 := h.2
    rw [mEnd_val z1, mEnd_val z2] at h3; exact absurd h3 (by decide)
  · have h3 := h.1.2
    rw [cz0_of z1, cz0_of z2] at h3; exact absurd h3 (by decide)
def mPlus (a b : UInt64) : UInt64 := if mPlusN a b = true then 9221120237041090560 else FP.dadd a b
def mMinus (a b : UInt64) : UInt64 := if mMinusN a b = true then 9221120237041090560 else FP.dsub a b
def mTimes (a b : UInt64) : UInt64 := if mTimesN a b = true then 9221120237041090560 else FP.dmul a b
def mBy (a b : UInt64) : UInt64 := if mByN a b = true then 9221120237041090560 else FP.ddiv a b
theorem m_M_isEndless (S : MS) (a : UInt64) : MetE y_M_isEndless c_M_isEndless 2 ((some .boolean)) 0 0 [.inl (.double a)] S (some (.inl (.int (bI (mEnd a))))) (S) := by
  refine MetS.of (lv0 := [some (.inl (.double a)), none]) pn_M rfl (Nat.le_of_ble_eq_true rfl) (fun p0 l0 e0 s0 m0 args below meth c0 G X => ?_)
  refine ws_dload_n (i := 0) X d_M_isEndless_0 rfl rfl ?_
  refine ws_ldc2d X d_M_isEndless_1 ct_M_304 ?_
  refine ws_dcmp X d_M_isEndless_4 ?_
  refine ws_if_eq X d_M_isEndless_5 (fun h5 => ?_) (fun h5 => ?_)
  · refine ws_iconst (v := 1) X d_M_isEndless_16 rfl ?_
    refine ws_goto X d_M_isEndless_17 ?_
    refine ws_zret X (rfl) d_M_isEndless_21 ?_
    exact ⟨by simp [mEnd, cz, bI, eq_true h5], rfl⟩
  · refine ws_dload_n (i := 0) X d_M_isEndless_8 rfl rfl ?_
    refine ws_ldc2d X d_M_isEndless_9 ct_M_306 ?_
    refine ws_dcmp X d_M_isEndless_12 ?_
    refine ws_if_ne X d_M_isEndless_13 (fun h13 => ?_) (fun h13 => ?_)
    · refine ws_iconst (v := 0) X d_M_isEndless_20 rfl ?_
      refine ws_zret X (rfl) d_M_isEndless_21 ?_
      exact ⟨by simp [mEnd, cz, bI, eq_false h5, eq_false h13], rfl⟩
    · refine ws_iconst (v := 1) X d_M_isEndless_16 rfl ?_
      refine ws_goto X d_M_isEndless_17 ?_
      refine ws_zret X (rfl) d_M_isEndless_21 ?_
      exact ⟨by simp [mEnd, cz, bI, eq_false h5, eq_true h13], rfl⟩

theorem m_M_plus (S : MS) (a b : UInt64) : MetE y_M_plus c_M_plus 5 ((some .double)) 1 21 [.inl (.double a), .inl (.double b)] S (some (.inl (.double (mPlus a b)))) (S) := by
  refine MetS.of (lv0 := [some (.inl (.double a)), none, some (.inl (.double b)), none, none]) pn_M rfl (Nat.le_of_ble_eq_true rfl) (fun p0 l0 e0 s0 m0 args below meth c0 G X => ?_)
  refine ws_dload_n (i := 0) X d_M_plus_0 rfl rfl ?_
  refine ws_dload_n (i := 0) X d_M_plus_1 rfl rfl ?_
  refine ws_dcmp X d_M_plus_2 ?_
  refine ws_if_ne X d_M_plus_3 (fun h3 => ?_) (fun h3 => ?_)
  · refine ws_iconst (v := 1) X d_M_plus_32 rfl ?_
    refine ws_goto X d_M_plus_33 ?_
    refine ws_ist_4 X rfl d_M_plus_37 (by decide) ?_
    refine ws_iload (i := 4) X d_M_plus_39 rfl ?_
    refine ws_if_eq X d_M_plus_41 (fun h41 => ?_) (fun h41 => ?_)
    · exact absurd h41 (by decide)
    · have hye : mPlusN a b = true := by simp [mPlusN, cz, eq_false h3, eq_false h41]
      refine ws_ldc2d X d_M_plus_44 ct_M_312 ?_
      refine ws_goto X d_M_plus_47 ?_
      refine ws_dret X d_M_plus_53 ?_
      first | exact ⟨by rw [mPlus, hno]; rfl, rfl⟩ | exact ⟨by rw [mPlus, hye]; rfl, rfl⟩
  · refine ws_dload_n (i := 2) X d_M_plus_6 rfl rfl ?_
    refine ws_dload_n (i := 2) X d_M_plus_7 rfl rfl ?_
    refine ws_dcmp X d_M_plus_8 ?_
    refine ws_if_ne X d_M_plus_9 (fun h9 => ?_) (fun h9 => ?_)
    · refine ws_iconst (v := 1) X d_M_plus_32 rfl ?_
      refine ws_goto X d_M_plus_33 ?_
      refine ws_ist_4 X rfl d_M_plus_37 (by decide) ?_
      refine ws_iload (i := 4) X d_M_plus_39 rfl ?_
      refine ws_if_eq X d_M_plus_41 (fun h41 => ?_) (fun h41 => ?_)
      · exact absurd h41 (by decide)
      · have hye : mPlusN a b = true := by simp [mPlusN, cz, eq_true h3, eq_false h9, eq_false h41]
        refine ws_ldc2d X d_M_plus_44 ct_M_312 ?_
        refine ws_goto X d_M_plus_47 ?_
        refine ws_dret X d_M_plus_53 ?_
        first | exact ⟨by rw [mPlus, hno]; rfl, rfl⟩ | exact ⟨by rw [mPlus, hye]; rfl, rfl⟩
    · refine ws_dload_n (i := 0) X d_M_plus_12 rfl rfl ?_
      refine ws_callS1 X (m_M_isEndless _ _) cs_M_isEndless ml_M_308 rfl rfl (Nat.le_of_ble_eq_true rfl) ⟨Nat.le_of_ble_eq_true rfl, Nat.le_of_ble_eq_true rfl⟩ ⟨Nat.zero_le _, Nat.zero_le _⟩ d_M_plus_13 ?_
      refine ws_ifB_eq X d_M_plus_16 (fun h16 => ?_) (fun h16 => ?_)
      · refine ws_iconst (v := 0) X d_M_plus_36 rfl ?_
        refine ws_ist_4 X rfl d_M_plus_37 (by decide) ?_
        refine ws_iload (i := 4) X d_M_plus_39 rfl ?_
        refine ws_if_eq X d_M_plus_41 (fun h41 => ?_) (fun h41 => ?_)
        · have hno : mPlusN a b = false := by simp [mPlusN, cz, eq_true h3, eq_true h9, h16, eq_true h41]
          refine ws_dload_n (i := 0) X d_M_plus_50 rfl rfl ?_
          refine ws_dload_n (i := 2) X d_M_plus_51 rfl rfl ?_
          refine ws_dadd X d_M_plus_52 (n64_of (plus_ok hno)) ?_
          refine ws_dret X d_M_plus_53 ?_
          first | exact ⟨by rw [mPlus, hno]; rfl, rfl⟩ | exact ⟨by rw [mPlus, hye]; rfl, rfl⟩
        · exact absurd h41 (by decide)
      · refine ws_dload_n (i := 2) X d_M_plus_19 rfl rfl ?_
        refine ws_callS1 X (m_M_isEndless _ _) cs_M_isEndless ml_M_308 rfl rfl (Nat.le_of_ble_eq_true rfl) ⟨Nat.le_of_ble_eq_true rfl, Nat.le_of_ble_eq_true rfl⟩ ⟨Nat.zero_le _, Nat.zero_le _⟩ d_M_plus_20 ?_
        refine ws_ifB_eq X d_M_plus_23 (fun h23 => ?_) (fun h23 => ?_)
        · refine ws_iconst (v := 0) X d_M_plus_36 rfl ?_
          refine ws_ist_4 X rfl d_M_plus_37 (by decide) ?_
          refine ws_iload (i := 4) X d_M_plus_39 rfl ?_
          refine ws_if_eq X d_M_plus_41 (fun h41 => ?_) (fun h41 => ?_)
          · have hno : mPlusN a b = false := by simp [mPlusN, cz, eq_true h3, eq_true h9, h16, h23, eq_true h41]
            refine ws_dload_n (i := 0) X d_M_plus_50 rfl rfl ?_
            refine ws_dload_n (i := 2) X d_M_plus_51 rfl rfl ?_
            refine ws_dadd X d_M_plus_52 (n64_of (plus_ok hno)) ?_
            refine ws_dret X d_M_plus_53 ?_
            first | exact ⟨by rw [mPlus, hno]; rfl, rfl⟩ | exact ⟨by rw [mPlus, hye]; rfl, rfl⟩
          · exact absurd h41 (by decide)
        · refine ws_dload_n (i := 0) X d_M_plus_26 rfl rfl ?_
          refine ws_dload_n (i := 2) X d_M_plus_27 rfl rfl ?_
          refine ws_dcmp X d_M_plus_28 ?_
          refine ws_if_eq X d_M_plus_29 (fun h29 => ?_) (fun h29 => ?_)
          · refine ws_iconst (v := 0) X d_M_plus_36 rfl ?_
            refine ws_ist_4 X rfl d_M_plus_37 (by decide) ?_
            refine ws_iload (i := 4) X d_M_plus_39 rfl ?_
            refine ws_if_eq X d_M_plus_41 (fun h41 => ?_) (fun h41 => ?_)
            · have hno : mPlusN a b = false := by simp [mPlusN, cz, eq_true h3, eq_true h9, h16, h23, eq_true h29, eq_true h41]
              refine ws_dload_n (i := 0) X d_M_plus_50 rfl rfl ?_
              refine ws_dload_n (i := 2) X d_M_plus_51 rfl rfl ?_
              refine ws_dadd X d_M_plus_52 (n64_of (plus_ok hno)) ?_
              refine ws_dret X d_M_plus_53 ?_
              first | exact ⟨by rw [mPlus, hno]; rfl, rfl⟩ | exact ⟨by rw [mPlus, hye]; rfl, rfl⟩
            · exact absurd h41 (by decide)
          · refine ws_iconst (v := 1) X d_M_plus_32 rfl ?_
            refine ws_goto X d_M_plus_33 ?_
            refine ws_ist_4 X rfl d_M_plus_37 (by decide) ?_
            refine ws_iload (i := 4) X d_M_plus_39 rfl ?_
            refine ws_if_eq X d_M_plus_41 (fun h41 => ?_) (fun h41 => ?_)
            · exact absurd h41 (by decide)
            · have hye : mPlusN a b = true := by simp [mPlusN, cz, eq_true h3, eq_true h9, h16, h23, eq_false h29, eq_false h41]
              refine ws_ldc2d X d_M_plus_44 ct_M_312 ?_
              refine ws_goto X d_M_plus_47 ?_
              refine ws_dret X d_M_plus_53 ?_
              first | exact ⟨by rw [mPlus, hno]; rfl, rfl⟩ | exact ⟨by rw [mPlus, hye]; rfl, rfl⟩

theorem m_M_minus (S : MS) (a b : UInt64) : MetE y_M_minus c_M_minus 5 ((some .double)) 1 21 [.inl (.double a), .inl (.double b)] S (some (.inl (.double (mMinus a b)))) (S) := by
  refine MetS.of (lv0 := [some (.inl (.double a)), none, some (.inl (.double b)), none, none]) pn_M rfl (Nat.le_of_ble_eq_true rfl) (fun p0 l0 e0 s0 m0 args below meth c0 G X => ?_)
  refine ws_dload_n (i := 0) X d_M_minus_0 rfl rfl ?_
  refine ws_dload_n (i := 0) X d_M_minus_1 rfl rfl ?_
  refine ws_dcmp X d_M_minus_2 ?_
  refine ws_if_ne X d_M_minus_3 (fun h3 => ?_) (fun h3 => ?_)
  · refine ws_iconst (v := 1) X d_M_minus_32 rfl ?_
    refine ws_goto X d_M_minus_33 ?_
    refine ws_ist_4 X rfl d_M_minus_37 (by decide) ?_
    refine ws_iload (i := 4) X d_M_minus_39 rfl ?_
    refine ws_if_eq X d_M_minus_41 (fun h41 => ?_) (fun h41 => ?_)
    · exact absurd h41 (by decide)
    · have hye : mMinusN a b = true := by simp [mMinusN, cz, eq_false h3, eq_false h41]
      refine ws_ldc2d X d_M_minus_44 ct_M_312 ?_
      refine ws_goto X d_M_minus_47 ?_
      refine ws_dret X d_M_minus_53 ?_
      first | exact ⟨by rw [mMinus, hno]; rfl, rfl⟩ | exact ⟨by rw [mMinus, hye]; rfl, rfl⟩
  · refine ws_dload_n (i := 2) X d_M_minus_6 rfl rfl ?_
    refine ws_dload_n (i := 2) X d_M_minus_7 rfl rfl ?_
    refine ws_dcmp X d_M_minus_8 ?_
    refine ws_if_ne X d_M_minus_9 (fun h9 => ?_) (fun h9 => ?_)
    · refine ws_iconst (v := 1) X d_M_minus_32 rfl ?_
      refine ws_goto X d_M_minus_33 ?_
      refine ws_ist_4 X rfl d_M_minus_37 (by decide) ?_
      refine ws_iload (i := 4) X d_M_minus_39 rfl ?_
      refine ws_if_eq X d_M_minus_41 (fun h41 => ?_) (fun h41 => ?_)
      · exact absurd h41 (by decide)
      · have hye : mMinusN a b = true := by simp [mMinusN, cz, eq_true h3, eq_false h9, eq_false h41]
        refine ws_ldc2d X d_M_minus_44 ct_M_312 ?_
        refine ws_goto X d_M_minus_47 ?_
        refine ws_dret X d_M_minus_53 ?_
        first | exact ⟨by rw [mMinus, hno]; rfl, rfl⟩ | exact ⟨by rw [mMinus, hye]; rfl, rfl⟩
    · refine ws_dload_n (i := 0) X d_M_minus_12 rfl rfl ?_
      refine ws_callS1 X (m_M_isEndless _ _) cs_M_isEndless ml_M_308 rfl rfl (Nat.le_of_ble_eq_true rfl) ⟨Nat.le_of_ble_eq_true rfl, Nat.le_of_ble_eq_true rfl⟩ ⟨Nat.zero_le _, Nat.zero_le _⟩ d_M_minus_13 ?_
      refine ws_ifB_eq X d_M_minus_16 (fun h16 => ?_) (fun h16 => ?_)
      · refine ws_iconst (v := 0) X d_M_minus_36 rfl ?_
        refine ws_ist_4 X rfl d_M_minus_37 (by decide) ?_
        refine ws_iload (i := 4) X d_M_minus_39 rfl ?_
        refine ws_if_eq X d_M_minus_41 (fun h41 => ?_) (fun h41 => ?_)
        · have hno : mMinusN a b = false := by simp [mMinusN, cz, eq_true h3, eq_true h9, h16, eq_true h41]
          refine ws_dload_n (i := 0) X d_M_minus_50 rfl rfl ?_
          refine ws_dload_n (i := 2) X d_M_minus_51 rfl rfl ?_
          refine ws_dsub X d_M_minus_52 (n64_of (minus_ok hno)) ?_
          refine ws_dret X d_M_minus_53 ?_
          first | exact ⟨by rw [mMinus, hno]; rfl, rfl⟩ | exact ⟨by rw [mMinus, hye]; rfl, rfl⟩
        · exact absurd h41 (by decide)
      · refine ws_dload_n (i := 2) X d_M_minus_19 rfl rfl ?_
        refine ws_callS1 X (m_M_isEndless _ _) cs_M_isEndless ml_M_308 rfl rfl (Nat.le_of_ble_eq_true rfl) ⟨Nat.le_of_ble_eq_true rfl, Nat.le_of_ble_eq_true rfl⟩ ⟨Nat.zero_le _, Nat.zero_le _⟩ d_M_minus_20 ?_
        refine ws_ifB_eq X d_M_minus_23 (fun h23 => ?_) (fun h23 => ?_)
        · refine ws_iconst (v := 0) X d_M_minus_36 rfl ?_
          refine ws_ist_4 X rfl d_M_minus_37 (by decide) ?_
          refine ws_iload (i := 4) X d_M_minus_39 rfl ?_
          refine ws_if_eq X d_M_minus_41 (fun h41 => ?_) (fun h41 => ?_)
          · have hno : mMinusN a b = false := by simp [mMinusN, cz, eq_true h3, eq_true h9, h16, h23, eq_true h41]
            refine ws_dload_n (i := 0) X d_M_minus_50 rfl rfl ?_
            refine ws_dload_n (i := 2) X d_M_minus_51 rfl rfl ?_
            refine ws_dsub X d_M_minus_52 (n64_of (minus_ok hno)) ?_
            refine ws_dret X d_M_minus_53 ?_
            first | exact ⟨by rw [mMinus, hno]; rfl, rfl⟩ | exact ⟨by rw [mMinus, hye]; rfl, rfl⟩
          · exact absurd h41 (by decide)
        · refine ws_dload_n (i := 0) X d_M_minus_26 rfl rfl ?_
          refine ws_dload_n (i := 2) X d_M_minus_27 rfl rfl ?_
          refine ws_dcmp X d_M_minus_28 ?_
          refine ws_if_ne X d_M_minus_29 (fun h29 => ?_) (fun h29 => ?_)
          · refine ws_iconst (v := 0) X d_M_minus_36 rfl ?_
            refine ws_ist_4 X rfl d_M_minus_37 (by decide) ?_
            refine ws_iload (i := 4) X d_M_minus_39 rfl ?_
            refine ws_if_eq X d_M_minus_41 (fun h41 => ?_) (fun h41 => ?_)
            · have hno : mMinusN a b = false := by simp [mMinusN, cz, eq_true h3, eq_true h9, h16, h23, eq_false h29, eq_true h41]
              refine ws_dload_n (i := 0) X d_M_minus_50 rfl rfl ?_
              refine ws_dload_n (i := 2) X d_M_minus_51 rfl rfl ?_
              refine ws_dsub X d_M_minus_52 (n64_of (minus_ok hno)) ?_
              refine ws_dret X d_M_minus_53 ?_
              first | exact ⟨by rw [mMinus, hno]; rfl, rfl⟩ | exact ⟨by rw [mMinus, hye]; rfl, rfl⟩
            · exact absurd h41 (by decide)
          · refine ws_iconst (v := 1) X d_M_minus_32 rfl ?_
            refine ws_goto X d_M_minus_33 ?_
            refine ws_ist_4 X rfl d_M_minus_37 (by decide) ?_
            refine ws_iload (i := 4) X d_M_minus_39 rfl ?_
            refine ws_if_eq X d_M_minus_41 (fun h41 => ?_) (fun h41 => ?_)
            · exact absurd h41 (by decide)
            · have hye : mMinusN a b = true := by simp [mMinusN, cz, eq_true h3, eq_true h9, h16, h23, eq_true h29, eq_false h41]
              refine ws_ldc2d X d_M_minus_44 ct_M_312 ?_
              refine ws_goto X d_M_minus_47 ?_
              refine ws_dret X d_M_minus_53 ?_
              first | exact ⟨by rw [mMinus, hno]; rfl, rfl⟩ | exact ⟨by rw [mMinus, hye]; rfl, rfl⟩

theorem m_M_times (S : MS) (a b : UInt64) : MetE y_M_times c_M_times 5 ((some .double)) 1 21 [.inl (.double a), .inl (.double b)] S (some (.inl (.double (mTimes a b)))) (S) := by
  refine MetS.of (lv0 := [some (.inl (.double a)), none, some (.inl (.double b)), none, none]) pn_M rfl (Nat.le_of_ble_eq_true rfl) (fun p0 l0 e0 s0 m0 args below meth c0 G X => ?_)
  refine ws_dload_n (i := 0) X d_M_times_0 rfl rfl ?_
  refine ws_dload_n (i := 0) X d_M_times_1 rfl rfl ?_
  refine ws_dcmp X d_M_times_2 ?_
  refine ws_if_ne X d_M_times_3 (fun h3 => ?_) (fun h3 => ?_)
  · refine ws_iconst (v := 1) X d_M_times_38 rfl ?_
    refine ws_goto X d_M_times_39 ?_
    refine ws_ist_4 X rfl d_M_times_43 (by decide) ?_
    refine ws_iload (i := 4) X d_M_times_45 rfl ?_
    refine ws_if_eq X d_M_times_47 (fun h47 => ?_) (fun h47 => ?_)
    · exact absurd h47 (by decide)
    · have hye : mTimesN a b = true := by simp [mTimesN, cz, eq_false h3, eq_false h47]
      refine ws_ldc2d X d_M_times_50 ct_M_312 ?_
      refine ws_goto X d_M_times_53 ?_
      refine ws_dret X d_M_times_59 ?_
      first | exact ⟨by rw [mTimes, hno]; rfl, rfl⟩ | exact ⟨by rw [mTimes, hye]; rfl, rfl⟩
  · refine ws_dload_n (i := 2) X d_M_times_6 rfl rfl ?_
    refine ws_dload_n (i := 2) X d_M_times_7 rfl rfl ?_
    refine ws_dcmp X d_M_times_8 ?_
    refine ws_if_ne X d_M_times_9 (fun h9 => ?_) (fun h9 => ?_)
    · refine ws_iconst (v := 1) X d_M_times_38 rfl ?_
      refine ws_goto X d_M_times_39 ?_
      refine ws_ist_4 X rfl d_M_times_43 (by decide) ?_
      refine ws_iload (i := 4) X d_M_times_45 rfl ?_
      refine ws_if_eq X d_M_times_47 (fun h47 => ?_) (fun h47 => ?_)
      · exact absurd h47 (by decide)
      · have hye : mTimesN a b = true := by simp [mTimesN, cz, eq_true h3, eq_false h9, eq_false h47]
        refine ws_ldc2d X d_M_times_50 ct_M_312 ?_
        refine ws_goto X d_M_times_53 ?_
        refine ws_dret X d_M_times_59 ?_
        first | exact ⟨by rw [mTimes, hno]; rfl, rfl⟩ | exact ⟨by rw [mTimes, hye]; rfl, rfl⟩
    · refine ws_dload_n (i := 0) X d_M_times_12 rfl rfl ?_
      refine ws_dconst0 X d_M_times_13 ?_
      refine ws_dcmp X d_M_times_14 ?_
      refine ws_if_ne X d_M_times_15 (fun h15 => ?_) (fun h15 => ?_)
      · refine ws_dload_n (i := 2) X d_M_times_25 rfl rfl ?_
        refine ws_dconst0 X d_M_times_26 ?_
        refine ws_dcmp X d_M_times_27 ?_
        refine ws_if_ne X d_M_times_28 (fun h28 => ?_) (fun h28 => ?_)
        · refine ws_iconst (v := 0) X d_M_times_42 rfl ?_
          refine ws_ist_4 X rfl d_M_times_43 (by decide) ?_
          refine ws_iload (i := 4) X d_M_times_45 rfl ?_
          refine ws_if_eq X d_M_times_47 (fun h47 => ?_) (fun h47 => ?_)
          · have hno : mTimesN a b = false := by simp [mTimesN, cz, eq_true h3, eq_true h9, eq_false h15, eq_false h28, eq_true h47]
            refine ws_dload_n (i := 0) X d_M_times_56 rfl rfl ?_
            refine ws_dload_n (i := 2) X d_M_times_57 rfl rfl ?_
            refine ws_dmul X d_M_times_58 (n64_of (times_ok hno)) ?_
            refine ws_dret X d_M_times_59 ?_
            first | exact ⟨by rw [mTimes, hno]; rfl, rfl⟩ | exact ⟨by rw [mTimes, hye]; rfl, rfl⟩
          · exact absurd h47 (by decide)
        · refine ws_dload_n (i := 0) X d_M_times_31 rfl rfl ?_
          refine ws_callS1 X (m_M_isEndless _ _) cs_M_isEndless ml_M_308 rfl rfl (Nat.le_of_ble_eq_true rfl) ⟨Nat.le_of_ble_eq_true rfl, Nat.le_of_ble_eq_true rfl⟩ ⟨Nat.zero_le _, Nat.zero_le _⟩ d_M_times_32 ?_
          refine ws_ifB_eq X d_M_times_35 (fun h35 => ?_) (fun h35 => ?_)
          · refine ws_iconst (v := 0) X d_M_times_42 rfl ?_
            refine ws_ist_4 X rfl d_M_times_43 (by decide) ?_
            refine ws_iload (i := 4) X d_M_times_45 rfl ?_
            refine ws_if_eq X d_M_times_47 (fun h47 => ?_) (fun h47 => ?_)
            · have hno : mTimesN a b = false := by simp [mTimesN, cz, eq_true h3, eq_true h9, eq_false h15, eq_true h28, h35, eq_true h47]
              refine ws_dload_n (i := 0) X d_M_times_56 rfl rfl ?_
              refine ws_dload_n (i := 2) X d_M_times_57 rfl rfl ?_
              refine ws_dmul X d_M_times_58 (n64_of (times_ok hno)) ?_
              refine ws_dret X d_M_times_59 ?_
              first | exact ⟨by rw [mTimes, hno]; rfl, rfl⟩ | exact ⟨by rw [mTimes, hye]; rfl, rfl⟩
            · exact absurd h47 (by decide)
          · refine ws_iconst (v := 1) X d_M_times_38 rfl ?_
            refine ws_goto X d_M_times_39 ?_
            refine ws_ist_4 X rfl d_M_times_43 (by decide) ?_
            refine ws_iload (i := 4) X d_M_times_45 rfl ?_
            refine ws_if_eq X d_M_times_47 (fun h47 => ?_) (fun h47 => ?_)
            · exact absurd h47 (by decide)
            · have hye : mTimesN a b = true := by simp [mTimesN, cz, eq_true h3, eq_true h9, eq_false h15, eq_true h28, h35, eq_false h47]
              refine ws_ldc2d X d_M_times_50 ct_M_312 ?_
              refine ws_goto X d_M_times_53 ?_
              refine ws_dret X d_M_times_59 ?_
              first | exact ⟨by rw [mTimes, hno]; rfl, rfl⟩ | exact ⟨by rw [mTimes, hye]; rfl, rfl⟩
      · refine ws_dload_n (i := 2) X d_M_times_18 rfl rfl ?_
        refine ws_callS1 X (m_M_isEndless _ _) cs_M_isEndless ml_M_308 rfl rfl (Nat.le_of_ble_eq_true rfl) ⟨Nat.le_of_ble_eq_true rfl, Nat.le_of_ble_eq_true rfl⟩ ⟨Nat.zero_le _, Nat.zero_le _⟩ d_M_times_19 ?_
        refine ws_ifB_ne X d_M_times_22 (fun h22 => ?_) (fun h22 => ?_)
        · refine ws_iconst (v := 1) X d_M_times_38 rfl ?_
          refine ws_goto X d_M_times_39 ?_
          refine ws_ist_4 X rfl d_M_times_43 (by decide) ?_
          refine ws_iload (i := 4) X d_M_times_45 rfl ?_
          refine ws_if_eq X d_M_times_47 (fun h47 => ?_) (fun h47 => ?_)
          · exact absurd h47 (by decide)
          · have hye : mTimesN a b = true := by simp [mTimesN, cz, eq_true h3, eq_true h9, eq_true h15, h22, eq_false h47]
            refine ws_ldc2d X d_M_times_50 ct_M_312 ?_
            refine ws_goto X d_M_times_53 ?_
            refine ws_dret X d_M_times_59 ?_
            first | exact ⟨by rw [mTimes, hno]; rfl, rfl⟩ | exact ⟨by rw [mTimes, hye]; rfl, rfl⟩
        · refine ws_dload_n (i := 2) X d_M_times_25 rfl rfl ?_
          refine ws_dconst0 X d_M_times_26 ?_
          refine ws_dcmp X d_M_times_27 ?_
          refine ws_if_ne X d_M_times_28 (fun h28 => ?_) (fun h28 => ?_)
          · refine ws_iconst (v := 0) X d_M_times_42 rfl ?_
            refine ws_ist_4 X rfl d_M_times_43 (by decide) ?_
            refine ws_iload (i := 4) X d_M_times_45 rfl ?_
            refine ws_if_eq X d_M_times_47 (fun h47 => ?_) (fun h47 => ?_)
            · have hno : mTimesN a b = false := by simp [mTimesN, cz, eq_true h3, eq_true h9, eq_true h15, h22, eq_false h28, eq_true h47]
              refine ws_dload_n (i := 0) X d_M_times_56 rfl rfl ?_
              refine ws_dload_n (i := 2) X d_M_times_57 rfl rfl ?_
              refine ws_dmul X d_M_times_58 (n64_of (times_ok hno)) ?_
              refine ws_dret X d_M_times_59 ?_
              first | exact ⟨by rw [mTimes, hno]; rfl, rfl⟩ | exact ⟨by rw [mTimes, hye]; rfl, rfl⟩
            · exact absurd h47 (by decide)
          · refine ws_dload_n (i := 0) X d_M_times_31 rfl rfl ?_
            refine ws_callS1 X (m_M_isEndless _ _) cs_M_isEndless ml_M_308 rfl rfl (Nat.le_of_ble_eq_true rfl) ⟨Nat.le_of_ble_eq_true rfl, Nat.le_of_ble_eq_true rfl⟩ ⟨Nat.zero_le _, Nat.zero_le _⟩ d_M_times_32 ?_
            refine ws_ifB_eq X d_M_times_35 (fun h35 => ?_) (fun h35 => ?_)
            · refine ws_iconst (v := 0) X d_M_times_42 rfl ?_
              refine ws_ist_4 X rfl d_M_times_43 (by decide) ?_
              refine ws_iload (i := 4) X d_M_times_45 rfl ?_
              refine ws_if_eq X d_M_times_47 (fun h47 => ?_) (fun h47 => ?_)
              · have hno : mTimesN a b = false := by simp [mTimesN, cz, eq_true h3, eq_true h9, eq_true h15, h22, eq_true h28, h35, eq_true h47]
                refine ws_dload_n (i := 0) X d_M_times_56 rfl rfl ?_
                refine ws_dload_n (i := 2) X d_M_times_57 rfl rfl ?_
                refine ws_dmul X d_M_times_58 (n64_of (times_ok hno)) ?_
                refine ws_dret X d_M_times_59 ?_
                first | exact ⟨by rw [mTimes, hno]; rfl, rfl⟩ | exact ⟨by rw [mTimes, hye]; rfl, rfl⟩
              · exact absurd h47 (by decide)
            · refine ws_iconst (v := 1) X d_M_times_38 rfl ?_
              refine ws_goto X d_M_times_39 ?_
              refine ws_ist_4 X rfl d_M_times_43 (by decide) ?_
              refine ws_iload (i := 4) X d_M_times_45 rfl ?_
              refine ws_if_eq X d_M_times_47 (fun h47 => ?_) (fun h47 => ?_)
              · exact absurd h47 (by decide)
              · have hye : mTimesN a b = true := by simp [mTimesN, cz, eq_true h3, eq_true h9, eq_true h15, h22, eq_true h28, h35, eq_false h47]
                refine ws_ldc2d X d_M_times_50 ct_M_312 ?_
                refine ws_goto X d_M_times_53 ?_
                refine ws_dret X d_M_times_59 ?_
                first | exact ⟨by rw [mTimes, hno]; rfl, rfl⟩ | exact ⟨by rw [mTimes, hye]; rfl, rfl⟩

theorem m_M_by (S : MS) (a b : UInt64) : MetE y_M_by c_M_by 5 ((some .double)) 1 21 [.inl (.double a), .inl (.double b)] S (some (.inl (.double (mBy a b)))) (S) := by
  refine MetS.of (lv0 := [some (.inl (.double a)), none, some (.inl (.double b)), none, none]) pn_M rfl (Nat.le_of_ble_eq_true rfl) (fun p0 l0 e0 s0 m0 args below meth c0 G X => ?_)
  refine ws_dload_n (i := 0) X d_M_by_0 rfl rfl ?_
  refine ws_dload_n (i := 0) X d_M_by_1 rfl rfl ?_
  refine ws_dcmp X d_M_by_2 ?_
  refine ws_if_ne X d_M_by_3 (fun h3 => ?_) (fun h3 => ?_)
  · refine ws_iconst (v := 1) X d_M_by_38 rfl ?_
    refine ws_goto X d_M_by_39 ?_
    refine ws_ist_4 X rfl d_M_by_43 (by decide) ?_
    refine ws_iload (i := 4) X d_M_by_45 rfl ?_
    refine ws_if_eq X d_M_by_47 (fun h47 => ?_) (fun h47 => ?_)
    · exact absurd h47 (by decide)
    · have hye : mByN a b = true := by simp [mByN, cz, eq_false h3, eq_false h47]
      refine ws_ldc2d X d_M_by_50 ct_M_312 ?_
      refine ws_goto X d_M_by_53 ?_
      refine ws_dret X d_M_by_59 ?_
      first | exact ⟨by rw [mBy, hno]; rfl, rfl⟩ | exact ⟨by rw [mBy, hye]; rfl, rfl⟩
  · refine ws_dload_n (i := 2) X d_M_by_6 rfl rfl ?_
    refine ws_dload_n (i := 2) X d_M_by_7 rfl rfl ?_
    refine ws_dcmp X d_M_by_8 ?_
    refine ws_if_ne X d_M_by_9 (fun h9 => ?_) (fun h9 => ?_)
    · refine ws_iconst (v := 1) X d_M_by_38 rfl ?_
      refine ws_goto X d_M_by_39 ?_
      refine ws_ist_4 X rfl d_M_by_43 (by decide) ?_
      refine ws_iload (i := 4) X d_M_by_45 rfl ?_
      refine ws_if_eq X d_M_by_47 (fun h47 => ?_) (fun h47 => ?_)
      · exact absurd h47 (by decide)
      · have hye : mByN a b = true := by simp [mByN, cz, eq_true h3, eq_false h9, eq_false h47]
        refine ws_ldc2d X d_M_by_50 ct_M_312 ?_
        refine ws_goto X d_M_by_53 ?_
        refine ws_dret X d_M_by_59 ?_
        first | exact ⟨by rw [mBy, hno]; rfl, rfl⟩ | exact ⟨by rw [mBy, hye]; rfl, rfl⟩
    · refine ws_dload_n (i := 0) X d_M_by_12 rfl rfl ?_
      refine ws_dconst0 X d_M_by_13 ?_
      refine ws_dcmp X d_M_by_14 ?_
      refine ws_if_ne X d_M_by_15 (fun h15 => ?_) (fun h15 => ?_)
      · refine ws_dload_n (i := 0) X d_M_by_24 rfl rfl ?_
        refine ws_callS1 X (m_M_isEndless _ _) cs_M_isEndless ml_M_308 rfl rfl (Nat.le_of_ble_eq_true rfl) ⟨Nat.le_of_ble_eq_true rfl, Nat.le_of_ble_eq_true rfl⟩ ⟨Nat.zero_le _, Nat.zero_le _⟩ d_M_by_25 ?_
        refine ws_ifB_eq X d_M_by_28 (fun h28 => ?_) (fun h28 => ?_)
        · refine ws_iconst (v := 0) X d_M_by_42 rfl ?_
          refine ws_ist_4 X rfl d_M_by_43 (by decide) ?_
          refine ws_iload (i := 4) X d_M_by_45 rfl ?_
          refine ws_if_eq X d_M_by_47 (fun h47 => ?_) (fun h47 => ?_)
          · have hno : mByN a b = false := by simp [mByN, cz, eq_true h3, eq_true h9, eq_false h15, h28, eq_true h47]
            refine ws_dload_n (i := 0) X d_M_by_56 rfl rfl ?_
            refine ws_dload_n (i := 2) X d_M_by_57 rfl rfl ?_
            refine ws_ddiv X d_M_by_58 (n64_of (by_ok hno)) ?_
            refine ws_dret X d_M_by_59 ?_
            first | exact ⟨by rw [mBy, hno]; rfl, rfl⟩ | exact ⟨by rw [mBy, hye]; rfl, rfl⟩
          · exact absurd h47 (by decide)
        · refine ws_dload_n (i := 2) X d_M_by_31 rfl rfl ?_
          refine ws_callS1 X (m_M_isEndless _ _) cs_M_isEndless ml_M_308 rfl rfl (Nat.le_of_ble_eq_true rfl) ⟨Nat.le_of_ble_eq_true rfl, Nat.le_of_ble_eq_true rfl⟩ ⟨Nat.zero_le _, Nat.zero_le _⟩ d_M_by_32 ?_
          refine ws_ifB_eq X d_M_by_35 (fun h35 => ?_) (fun h35 => ?_)
          · refine ws_iconst (v := 0) X d_M_by_42 rfl ?_
            refine ws_ist_4 X rfl d_M_by_43 (by decide) ?_
            refine ws_iload (i := 4) X d_M_by_45 rfl ?_
            refine ws_if_eq X d_M_by_47 (fun h47 => ?_) (fun h47 => ?_)
            · have hno : mByN a b = false := by simp [mByN, cz, eq_true h3, eq_true h9, eq_false h15, h28, h35, eq_true h47]
              refine ws_dload_n (i := 0) X d_M_by_56 rfl rfl ?_
              refine ws_dload_n (i := 2) X d_M_by_57 rfl rfl ?_
              refine ws_ddiv X d_M_by_58 (n64_of (by_ok hno)) ?_
              refine ws_dret X d_M_by_59 ?_
              first | exact ⟨by rw [mBy, hno]; rfl, rfl⟩ | exact ⟨by rw [mBy, hye]; rfl, rfl⟩
            · exact absurd h47 (by decide)
          · refine ws_iconst (v := 1) X d_M_by_38 rfl ?_
            refine ws_goto X d_M_by_39 ?_
            refine ws_ist_4 X rfl d_M_by_43 (by decide) ?_
            refine ws_iload (i := 4) X d_M_by_45 rfl ?_
            refine ws_if_eq X d_M_by_47 (fun h47 => ?_) (fun h47 => ?_)
            · exact absurd h47 (by decide)
            · have hye : mByN a b = true := by simp [mByN, cz, eq_true h3, eq_true h9, eq_false h15, h28, h35, eq_false h47]
              refine ws_ldc2d X d_M_by_50 ct_M_312 ?_
              refine ws_goto X d_M_by_53 ?_
              refine ws_dret X d_M_by_59 ?_
              first | exact ⟨by rw [mBy, hno]; rfl, rfl⟩ | exact ⟨by rw [mBy, hye]; rfl, rfl⟩
      · refine ws_dload_n (i := 2) X d_M_by_18 rfl rfl ?_
        refine ws_dconst0 X d_M_by_19 ?_
        refine ws_dcmp X d_M_by_20 ?_
        refine ws_if_eq X d_M_by_21 (fun h21 => ?_) (fun h21 => ?_)
        · refine ws_iconst (v := 1) X d_M_by_38 rfl ?_
          refine ws_goto X d_M_by_39 ?_
          refine ws_ist_4 X rfl d_M_by_43 (by decide) ?_
          refine ws_iload (i := 4) X d_M_by_45 rfl ?_
          refine ws_if_eq X d_M_by_47 (fun h47 => ?_) (fun h47 => ?_)
          · exact absurd h47 (by decide)
          · have hye : mByN a b = true := by simp [mByN, cz, eq_true h3, eq_true h9, eq_true h15, eq_true h21, eq_false h47]
            refine ws_ldc2d X d_M_by_50 ct_M_312 ?_
            refine ws_goto X d_M_by_53 ?_
            refine ws_dret X d_M_by_59 ?_
            first | exact ⟨by rw [mBy, hno]; rfl, rfl⟩ | exact ⟨by rw [mBy, hye]; rfl, rfl⟩
        · refine ws_dload_n (i := 0) X d_M_by_24 rfl rfl ?_
          refine ws_callS1 X (m_M_isEndless _ _) cs_M_isEndless ml_M_308 rfl rfl (Nat.le_of_ble_eq_true rfl) ⟨Nat.le_of_ble_eq_true rfl, Nat.le_of_ble_eq_true rfl⟩ ⟨Nat.zero_le _, Nat.zero_le _⟩ d_M_by_25 ?_
          refine ws_ifB_eq X d_M_by_28 (fun h28 => ?_) (fun h28 => ?_)
          · refine ws_iconst (v := 0) X d_M_by_42 rfl ?_
            refine ws_ist_4 X rfl d_M_by_43 (by decide) ?_
            refine ws_iload (i := 4) X d_M_by_45 rfl ?_
            refine ws_if_eq X d_M_by_47 (fun h47 => ?_) (fun h47 => ?_)
            · have hno : mByN a b = false := by simp [mByN, cz, eq_true h3, eq_true h9, eq_true h15, eq_false h21, h28, eq_true h47]
              refine ws_dload_n (i := 0) X d_M_by_56 rfl rfl ?_
              refine ws_dload_n (i := 2) X d_M_by_57 rfl rfl ?_
              refine ws_ddiv X d_M_by_58 (n64_of (by_ok hno)) ?_
              refine ws_dret X d_M_by_59 ?_
              first | exact ⟨by rw [mBy, hno]; rfl, rfl⟩ | exact ⟨by rw [mBy, hye]; rfl, rfl⟩
            · exact absurd h47 (by decide)
          · refine ws_dload_n (i := 2) X d_M_by_31 rfl rfl ?_
            refine ws_callS1 X (m_M_isEndless _ _) cs_M_isEndless ml_M_308 rfl rfl (Nat.le_of_ble_eq_true rfl) ⟨Nat.le_of_ble_eq_true rfl, Nat.le_of_ble_eq_true rfl⟩ ⟨Nat.zero_le _, Nat.zero_le _⟩ d_M_by_32 ?_
            refine ws_ifB_eq X d_M_by_35 (fun h35 => ?_) (fun h35 => ?_)
            · refine ws_iconst (v := 0) X d_M_by_42 rfl ?_
              refine ws_ist_4 X rfl d_M_by_43 (by decide) ?_
              refine ws_iload (i := 4) X d_M_by_45 rfl ?_
              refine ws_if_eq X d_M_by_47 (fun h47 => ?_) (fun h47 => ?_)
              · have hno : mByN a b = false := by simp [mByN, cz, eq_true h3, eq_true h9, eq_true h15, eq_false h21, h28, h35, eq_true h47]
                refine ws_dload_n (i := 0) X d_M_by_56 rfl rfl ?_
                refine ws_dload_n (i := 2) X d_M_by_57 rfl rfl ?_
                refine ws_ddiv X d_M_by_58 (n64_of (by_ok hno)) ?_
                refine ws_dret X d_M_by_59 ?_
                first | exact ⟨by rw [mBy, hno]; rfl, rfl⟩ | exact ⟨by rw [mBy, hye]; rfl, rfl⟩
              · exact absurd h47 (by decide)
            · refine ws_iconst (v := 1) X d_M_by_38 rfl ?_
              refine ws_goto X d_M_by_39 ?_
              refine ws_ist_4 X rfl d_M_by_43 (by decide) ?_
              refine ws_iload (i := 4) X d_M_by_45 rfl ?_
              refine ws_if_eq X d_M_by_47 (fun h47 => ?_) (fun h47 => ?_)
              · exact absurd h47 (by decide)
              · have hye : mByN a b = true := by simp [mByN, cz, eq_true h3, eq_true h9, eq_true h15, eq_false h21, h28, h35, eq_false h47]
                refine ws_ldc2d X d_M_by_50 ct_M_312 ?_
                refine ws_goto X d_M_by_53 ?_
                refine ws_dret X d_M_by_59 ?_
                first | exact ⟨by rw [mBy, hno]; rfl, rfl⟩ | exact ⟨by rw [mBy, hye]; rfl, rfl⟩


