/-! Doubles: what each function of it answers, as it is written -/
def dNan (b : Int64) : Bool := decide (¬ (b &&& 9223372036854775807) ≤ 9218868437227405312)
def dCanon (b : Int64) : Int64 := if dNan b = true then 9221120237041090560 else b
def dAbs (b : Int64) : Int64 := b &&& 9223372036854775807
def dNeg (b : Int64) : Int64 := dCanon (b ^^^ (-9223372036854775808))
def dScale (b : Int64) : Int32 := maxI (ushr64 (b &&& 9218868437227405312) 52).toInt32 1
def dDig (b : Int64) : Int64 := if (b &&& 9218868437227405312) = 0 then b &&& 4503599627370495 else (b &&& 4503599627370495) ||| 4503599627370496
theorem m_Dbl_isNan (S : MS) (b : Int64) : MetE y_Dbl_isNan c_Dbl_isNan 2 ((some .boolean)) 0 0 [.inl (.long b)] S (some (.inl (.int (bI (dNan b))))) (S) := by
  refine MetS.of (lv0 := [some (.inl (.long b)), none]) pn_Dbl rfl (Nat.le_of_ble_eq_true rfl) (fun p l e0 s m0 args below meth c0 G X => ?_)
  refine ws_lload_n (i := 0) X d_Dbl_isNan_0 rfl rfl ?_
  refine ws_ldc2 X d_Dbl_isNan_1 ct_Dbl_15 ?_
  refine ws_land X d_Dbl_isNan_4 ?_
  refine ws_ldc2 X d_Dbl_isNan_5 ct_Dbl_17 ?_
  refine ws_lcmp_le X d_Dbl_isNan_8 d_Dbl_isNan_9 (fun h8 => ?_) (fun h8 => ?_)
  · refine ws_iconst (v := 0) X d_Dbl_isNan_16 rfl ?_
    refine ws_zret X (rfl) d_Dbl_isNan_17 ?_
    exact ⟨by simp [dNan, bI, *], rfl⟩
  · refine ws_iconst (v := 1) X d_Dbl_isNan_12 rfl ?_
    refine ws_goto X d_Dbl_isNan_13 ?_
    refine ws_zret X (rfl) d_Dbl_isNan_17 ?_
    exact ⟨by simp [dNan, bI, *], rfl⟩

theorem m_Dbl_canonical (S : MS) (b : Int64) : MetE y_Dbl_canonical c_Dbl_canonical 2 ((some .long)) 1 21 [.inl (.long b)] S (some (.inl (.long (dCanon b)))) (S) := by
  refine MetS.of (lv0 := [some (.inl (.long b)), none]) pn_Dbl rfl (Nat.le_of_ble_eq_true rfl) (fun p l e0 s m0 args below meth c0 G X => ?_)
  refine ws_lload_n (i := 0) X d_Dbl_canonical_0 rfl rfl ?_
  refine ws_callS1 X (m_Dbl_isNan _ _) cs_Dbl_isNan ml_Dbl_7 rfl rfl (Nat.le_of_ble_eq_true rfl) ⟨Nat.le_of_ble_eq_true rfl, Nat.le_of_ble_eq_true rfl⟩ ⟨Nat.zero_le _, Nat.zero_le _⟩ d_Dbl_canonical_1 ?_
  refine ws_ifB_eq X d_Dbl_canonical_4 (fun h4 => ?_) (fun h4 => ?_)
  · refine ws_lload_n (i := 0) X d_Dbl_canonical_13 rfl rfl ?_
    refine ws_lret X d_Dbl_canonical_14 ?_
    exact ⟨by simp [dCanon, *], rfl⟩
  · refine ws_ldc2 X d_Dbl_canonical_7 ct_Dbl_13 ?_
    refine ws_goto X d_Dbl_canonical_10 ?_
    refine ws_lret X d_Dbl_canonical_14 ?_
    exact ⟨by simp [dCanon, *], rfl⟩

theorem m_Dbl_absolute (S : MS) (b : Int64) : MetE y_Dbl_absolute c_Dbl_absolute 2 ((some .long)) 0 0 [.inl (.long b)] S (some (.inl (.long (dAbs b)))) (S) := by
  refine MetS.of (lv0 := [some (.inl (.long b)), none]) pn_Dbl rfl (Nat.le_of_ble_eq_true rfl) (fun p l e0 s m0 args below meth c0 G X => ?_)
  refine ws_lload_n (i := 0) X d_Dbl_absolute_0 rfl rfl ?_
  refine ws_ldc2 X d_Dbl_absolute_1 ct_Dbl_15 ?_
  refine ws_land X d_Dbl_absolute_4 ?_
  refine ws_lret X d_Dbl_absolute_5 ?_
  exact ⟨rfl, rfl⟩

theorem m_Dbl_negate (S : MS) (b : Int64) : MetE y_Dbl_negate c_Dbl_negate 2 ((some .long)) 2 42 [.inl (.long b)] S (some (.inl (.long (dNeg b)))) (S) := by
  refine MetS.of (lv0 := [some (.inl (.long b)), none]) pn_Dbl rfl (Nat.le_of_ble_eq_true rfl) (fun p l e0 s m0 args below meth c0 G X => ?_)
  refine ws_lload_n (i := 0) X d_Dbl_negate_0 rfl rfl ?_
  refine ws_ldc2 X d_Dbl_negate_1 ct_Dbl_19 ?_
  refine ws_lxor X d_Dbl_negate_4 ?_
  refine ws_callS1 X (m_Dbl_canonical _ _) cs_Dbl_canonical ml_Dbl_21 rfl rfl (Nat.le_of_ble_eq_true rfl) ⟨Nat.le_of_ble_eq_true rfl, Nat.le_of_ble_eq_true rfl⟩ ⟨Nat.zero_le _, Nat.zero_le _⟩ d_Dbl_negate_5 ?_
  refine ws_lret X d_Dbl_negate_8 ?_
  exact ⟨rfl, rfl⟩

theorem m_Dbl_scaleOf (S : MS) (b : Int64) : MetE y_Dbl_scaleOf c_Dbl_scaleOf 2 ((some .int)) 1 21 [.inl (.long b)] S (some (.inl (.int (dScale b)))) (S) := by
  refine MetS.of (lv0 := [some (.inl (.long b)), none]) pn_Dbl rfl (Nat.le_of_ble_eq_true rfl) (fun p l e0 s m0 args below meth c0 G X => ?_)
  refine ws_lload_n (i := 0) X d_Dbl_scaleOf_0 rfl rfl ?_
  refine ws_ldc2 X d_Dbl_scaleOf_1 ct_Dbl_17 ?_
  refine ws_land X d_Dbl_scaleOf_4 ?_
  refine ws_bipush (v := 52) X d_Dbl_scaleOf_5 rfl ?_
  refine ws_lushr X d_Dbl_scaleOf_7 ?_
  refine ws_l2i X d_Dbl_scaleOf_8 ?_
  refine ws_iconst (v := 1) X d_Dbl_scaleOf_9 rfl ?_
  refine ws_mmax X cs_JM_max ml_Dbl_25 ⟨Nat.le_of_ble_eq_true rfl, Nat.le_of_ble_eq_true rfl⟩ ⟨Nat.zero_le _, Nat.zero_le _⟩ d_Dbl_scaleOf_10 ?_
  refine ws_iret X d_Dbl_scaleOf_13 ?_
  exact ⟨rfl, rfl⟩

theorem m_Dbl_digitsOf (S : MS) (b : Int64) : MetE y_Dbl_digitsOf c_Dbl_digitsOf 4 ((some .long)) 0 0 [.inl (.long b)] S (some (.inl (.long (dDig b)))) (S) := by
  refine MetS.of (lv0 := [some (.inl (.long b)), none, none, none]) pn_Dbl rfl (Nat.le_of_ble_eq_true rfl) (fun p l e0 s m0 args below meth c0 G X => ?_)
  refine ws_lload_n (i := 0) X d_Dbl_digitsOf_0 rfl rfl ?_
  refine ws_ldc2 X d_Dbl_digitsOf_1 ct_Dbl_31 ?_
  refine ws_land X d_Dbl_digitsOf_4 ?_
  refine ws_lstn_2 X rfl d_Dbl_digitsOf_5 (by decide) ?_
  refine ws_lload_n (i := 0) X d_Dbl_digitsOf_6 rfl rfl ?_
  refine ws_ldc2 X d_Dbl_digitsOf_7 ct_Dbl_17 ?_
  refine ws_land X d_Dbl_digitsOf_10 ?_
  refine ws_lconst (v := 0) X d_Dbl_digitsOf_11 rfl ?_
  refine ws_lcmp_ne X d_Dbl_digitsOf_12 d_Dbl_digitsOf_13 (fun h12 => ?_) (fun h12 => ?_)
  · refine ws_lload_n (i := 2) X d_Dbl_digitsOf_20 rfl rfl ?_
    refine ws_ldc2 X d_Dbl_digitsOf_21 ct_Dbl_33 ?_
    refine ws_lor X d_Dbl_digitsOf_24 ?_
    refine ws_lret X d_Dbl_digitsOf_25 ?_
    exact ⟨by simp [dDig, *], rfl⟩
  · refine ws_lload_n (i := 2) X d_Dbl_digitsOf_16 rfl rfl ?_
    refine ws_goto X d_Dbl_digitsOf_17 ?_
    refine ws_lret X d_Dbl_digitsOf_25 ?_
    exact ⟨by simp [dDig, *], rfl⟩

def dShift (d : Int64) (k : Int32) : Int64 := if ¬ k ≤ 62 then (if d = 0 then 0 else 1) else if shl64 (ushr64 d k) k = d then ushr64 d k else ushr64 d k ||| 1
theorem m_Dbl_shiftedDown (S : MS) (d : Int64) (k : Int32) : MetE y_Dbl_shiftedDown c_Dbl_shiftedDown 5 ((some .long)) 0 0 [.inl (.long d), .inl (.int k)] S (some (.inl (.long (dShift d k)))) (S) := by
  refine MetS.of (lv0 := [some (.inl (.long d)), none, some (.inl (.int k)), none, none]) pn_Dbl rfl (Nat.le_of_ble_eq_true rfl) (fun p l e0 s m0 args below meth c0 G X => ?_)
  refine ws_iload_n (i := 2) X d_Dbl_shiftedDown_0 rfl rfl ?_
  refine ws_bipush (v := 62) X d_Dbl_shiftedDown_1 rfl ?_
  refine ws_icmp_le X d_Dbl_shiftedDown_3 (fun h3 => ?_) (fun h3 => ?_)
  · refine ws_lload_n (i := 0) X d_Dbl_shiftedDown_18 rfl rfl ?_
    refine ws_iload_n (i := 2) X d_Dbl_shiftedDown_19 rfl rfl ?_
    refine ws_lushr X d_Dbl_shiftedDown_20 ?_
    refine ws_lstn_3 X rfl d_Dbl_shiftedDown_21 (by decide) ?_
    refine ws_lload_n (i := 3) X d_Dbl_shiftedDown_22 rfl rfl ?_
    refine ws_iload_n (i := 2) X d_Dbl_shiftedDown_23 rfl rfl ?_
    refine ws_lshl X d_Dbl_shiftedDown_24 ?_
    refine ws_lload_n (i := 0) X d_Dbl_shiftedDown_25 rfl rfl ?_
    refine ws_lcmp_ne X d_Dbl_shiftedDown_26 d_Dbl_shiftedDown_27 (fun h26 => ?_) (fun h26 => ?_)
    · refine ws_lload_n (i := 3) X d_Dbl_shiftedDown_34 rfl rfl ?_
      refine ws_lconst (v := 1) X d_Dbl_shiftedDown_35 rfl ?_
      refine ws_lor X d_Dbl_shiftedDown_36 ?_
      refine ws_lret X d_Dbl_shiftedDown_37 ?_
      exact ⟨by simp [dShift, *], rfl⟩
    · refine ws_lload_n (i := 3) X d_Dbl_shiftedDown_30 rfl rfl ?_
      refine ws_goto X d_Dbl_shiftedDown_31 ?_
      refine ws_lret X d_Dbl_shiftedDown_37 ?_
      exact ⟨by simp [dShift, *], rfl⟩
  · refine ws_lload_n (i := 0) X d_Dbl_shiftedDown_6 rfl rfl ?_
    refine ws_lconst (v := 0) X d_Dbl_shiftedDown_7 rfl ?_
    refine ws_lcmp_ne X d_Dbl_shiftedDown_8 d_Dbl_shiftedDown_9 (fun h8 => ?_) (fun h8 => ?_)
    · refine ws_lconst (v := 1) X d_Dbl_shiftedDown_16 rfl ?_
      refine ws_lret X d_Dbl_shiftedDown_17 ?_
      exact ⟨by simp [dShift, *], rfl⟩
    · refine ws_lconst (v := 0) X d_Dbl_shiftedDown_12 rfl ?_
      refine ws_goto X d_Dbl_shiftedDown_13 ?_
      refine ws_lret X d_Dbl_shiftedDown_17 ?_
      exact ⟨by simp [dShift, *], rfl⟩

def lzGo : Nat → Int32 → Int32 → Int64 → Int32
  | 0, _, z, _ => z
  | n + 1, h, z, r => if h ≤ 0 then z else if r = 0 then z else if ushr64 r (64 - h) = 0 then lzGo n (shr32 h 1) (z + h) (shl64 r h) else lzGo n (shr32 h 1) z r
def dLz (d : Int64) : Int32 := lzGo 6 32 (if d = 0 then 64 else 0) d
theorem shr1 {h : Int32} {n : Nat} (h0 : 0 ≤ h.toInt) (h1 : h.toInt < 2 ^ (n + 1)) : 0 ≤ (shr32 h 1).toInt ∧ (shr32 h 1).toInt < 2 ^ n := by
  have e : (shr32 h 1).toInt = h.toInt >>> 1 := pk_shr h ((1 : Int32) &&& 31) 1 (by decide)
  rw [e, Int.shiftRight_eq_div_pow]
  rw [Int.pow_succ] at h1
  omega
section LZ
variable {p : Program} {l : Launch} {e0 : Env} {s : State} {m0 : MethodId} {args : Array Value} {below : List Frame} {meth : Method} {c0 : Code} {G : GG} {A : Nat → Prop} {Q : State → Prop}
theorem l_lz (X : CX p s m0 args meth c0 G A c_Dbl_leadingZeros y_Dbl_leadingZeros.cls 6 ((some .int))) {S : MS} {a0 : Option MV} : ∀ (n : Nat) (h z : Int32) (r : Int64), 0 ≤ h.toInt → h.toInt < 2 ^ n → (∀ (r' : Int64) (h' : Int32), WS p l e0 (rmS 0 0) s m0 args below meth c0 G A 6 0 0 Q 61 [a0, none, some (.inl (.int (lzGo n h z r))), some (.inl (.long r')), none, some (.inl (.int h'))] [] (S)) → WS p l e0 (rmS 0 0) s m0 args below meth c0 G A 6 0 0 Q 19 [a0, none, some (.inl (.int z)), some (.inl (.long r)), none, some (.inl (.int h))] [] (S) := by
  intro n
  induction n with
  | zero =>
    intro h z r h0 h1 K
    have hh : h ≤ 0 := Int32.le_iff_toInt_le.mpr (by show h.toInt ≤ 0; omega)
    refine ws_iload (i := 5) X d_Dbl_leadingZeros_19 rfl ?_
    refine ws_if_le X d_Dbl_leadingZeros_21 (fun h21 => ?_) (fun h21 => ?_)
    · exact K r h
    · exact absurd hh h21
  | succ n ih =>
    intro h z r h0 h1 K
    obtain ⟨g0, g1⟩ := shr1 h0 h1
    refine ws_iload (i := 5) X d_Dbl_leadingZeros_19 rfl ?_
    refine ws_if_le X d_Dbl_leadingZeros_21 (fun h21 => ?_) (fun h21 => ?_)
    · have K := K r h; simp only [lzGo, eq_true h21, if_true, if_false] at K; exact K
    · refine ws_lload_n (i := 3) X d_Dbl_leadingZeros_24 rfl rfl ?_
      refine ws_lconst (v := 0) X d_Dbl_leadingZeros_25 rfl ?_
      refine ws_lcmp_eq X d_Dbl_leadingZeros_26 d_Dbl_leadingZeros_27 (fun h26 => ?_) (fun h26 => ?_)
      · have K := K r h; simp only [lzGo, eq_false h21, eq_true h26, if_true, if_false] at K; exact K
      · refine ws_lload_n (i := 3) X d_Dbl_leadingZeros_30 rfl rfl ?_
        refine ws_bipush (v := 64) X d_Dbl_leadingZeros_31 rfl ?_
        refine ws_iload (i := 5) X d_Dbl_leadingZeros_33 rfl ?_
        refine ws_isub X d_Dbl_leadingZeros_35 ?_
        refine ws_lushr X d_Dbl_leadingZeros_36 ?_
        refine ws_lconst (v := 0) X d_Dbl_leadingZeros_37 rfl ?_
        refine ws_lcmp_ne X d_Dbl_leadingZeros_38 d_Dbl_leadingZeros_39 (fun h38 => ?_) (fun h38 => ?_)
        · refine ws_iload (i := 5) X d_Dbl_leadingZeros_52 rfl ?_
          refine ws_iconst (v := 1) X d_Dbl_leadingZeros_54 rfl ?_
          refine ws_ishr X d_Dbl_leadingZeros_55 ?_
          refine ws_ist_5 X rfl d_Dbl_leadingZeros_56 (by decide) ?_
          refine ws_goto X d_Dbl_leadingZeros_58 ?_
          refine ih _ _ _ g0 g1 (fun r' h' => ?_); have K := K r' h'; simp only [lzGo, eq_false h21, eq_false h26, eq_false h38, if_true, if_false] at K; exact K
        · refine ws_iload_n (i := 2) X d_Dbl_leadingZeros_42 rfl rfl ?_
          refine ws_iload (i := 5) X d_Dbl_leadingZeros_43 rfl ?_
          refine ws_iadd X d_Dbl_leadingZeros_45 ?_
          refine ws_istn_2 X rfl d_Dbl_leadingZeros_46 (by decide) ?_
          refine ws_lload_n (i := 3) X d_Dbl_leadingZeros_47 rfl rfl ?_
          refine ws_iload (i := 5) X d_Dbl_leadingZeros_48 rfl ?_
          refine ws_lshl X d_Dbl_leadingZeros_50 ?_
          refine ws_lstn_3 X rfl d_Dbl_leadingZeros_51 (by decide) ?_
          refine ws_iload (i := 5) X d_Dbl_leadingZeros_52 rfl ?_
          refine ws_iconst (v := 1) X d_Dbl_leadingZeros_54 rfl ?_
          refine ws_ishr X d_Dbl_leadingZeros_55 ?_
          refine ws_ist_5 X rfl d_Dbl_leadingZeros_56 (by decide) ?_
          refine ws_goto X d_Dbl_leadingZeros_58 ?_
          refine ih _ _ _ g0 g1 (fun r' h' => ?_); have K := K r' h'; simp only [lzGo, eq_false h21, eq_false h26, eq_true h38, if_true, if_false] at K; exact K
end LZ
theorem m_Dbl_leadingZeros (S : MS) (d : Int64) : MetE y_Dbl_leadingZeros c_Dbl_leadingZeros 6 ((some .int)) 0 0 [.inl (.long d)] S (some (.inl (.int (dLz d)))) (S) := by
  refine MetS.of (lv0 := [some (.inl (.long d)), none, none, none, none, none]) pn_Dbl rfl (Nat.le_of_ble_eq_true rfl) (fun p l e0 s m0 args below meth c0 G X => ?_)
  refine ws_lload_n (i := 0) X d_Dbl_leadingZeros_0 rfl rfl ?_
  refine ws_lconst (v := 0) X d_Dbl_leadingZeros_1 rfl ?_
  refine ws_lcmp_ne X d_Dbl_leadingZeros_2 d_Dbl_leadingZeros_3 (fun h2 => ?_) (fun h2 => ?_)
  · refine ws_iconst (v := 0) X d_Dbl_leadingZeros_11 rfl ?_
    refine ws_istn_2 X rfl d_Dbl_leadingZeros_12 (by decide) ?_
    refine ws_lload_n (i := 0) X d_Dbl_leadingZeros_13 rfl rfl ?_
    refine ws_lstn_3 X rfl d_Dbl_leadingZeros_14 (by decide) ?_
    refine ws_bipush (v := 32) X d_Dbl_leadingZeros_15 rfl ?_
    refine ws_ist_5 X rfl d_Dbl_leadingZeros_17 (by decide) ?_
    refine l_lz X 6 _ _ _ (by decide) (by decide) (fun r' h' => ?_)
    refine ws_iload_n (i := 2) X d_Dbl_leadingZeros_61 rfl rfl ?_
    refine ws_iret X d_Dbl_leadingZeros_62 ?_
    exact ⟨by simp [dLz, *], rfl⟩
  · refine ws_bipush (v := 64) X d_Dbl_leadingZeros_6 rfl ?_
    refine ws_goto X d_Dbl_leadingZeros_8 ?_
    refine ws_istn_2 X rfl d_Dbl_leadingZeros_12 (by decide) ?_
    refine ws_lload_n (i := 0) X d_Dbl_leadingZeros_13 rfl rfl ?_
    refine ws_lstn_3 X rfl d_Dbl_leadingZeros_14 (by decide) ?_
    refine ws_bipush (v := 32) X d_Dbl_leadingZeros_15 rfl ?_
    refine ws_ist_5 X rfl d_Dbl_leadingZeros_17 (by decide) ?_
    refine l_lz X 6 _ _ _ (by decide) (by decide) (fun r' h' => ?_)
    refine ws_iload_n (i := 2) X d_Dbl_leadingZeros_61 rfl rfl ?_
    refine ws_iret X d_Dbl_leadingZeros_62 ?_
    exact ⟨by simp [dLz, *], rfl⟩

def rUp (c : Int32) (d : Int64) : Int32 := minI (dLz d - 11 + 3) (c - 1)
def rFit (c : Int32) (d : Int64) : Int64 := if rUp c d < 0 then dShift d (-(rUp c d)) else shl64 d (rUp c d)
def rKept (f : Int64) : Int64 := if 4 < (f &&& 7) then ushr64 f 3 + 1 else if (f &&& 7) = 4 then (if (ushr64 f 3 &&& 1) = 1 then ushr64 f 3 + 1 else ushr64 f 3) else ushr64 f 3
def dRound (s : Int64) (c : Int32) (d : Int64) : Int64 := if c - rUp c d ≤ 2046 then s ||| (shl64 (c - rUp c d - 1).toInt64 52 + rKept (rFit c d)) else s ||| 9218868437227405312
theorem m_Dbl_rounded (S : MS) (g : Int64) (k : Int32) (d : Int64) : MetE y_Dbl_rounded c_Dbl_rounded 13 ((some .long)) 1 25 [.inl (.long g), .inl (.int k), .inl (.long d)] S (some (.inl (.long (dRound g k d)))) (S) := by
  refine MetS.of (lv0 := [some (.inl (.long g)), none, some (.inl (.int k)), some (.inl (.long d)), none, none, none, none, none, none, none, none, none]) pn_Dbl rfl (Nat.le_of_ble_eq_true rfl) (fun p l e0 s m0 args below meth c0 G X => ?_)
  refine ws_lload_n (i := 3) X d_Dbl_rounded_0 rfl rfl ?_
  refine ws_callS1 X (m_Dbl_leadingZeros _ _) cs_Dbl_leadingZeros ml_Dbl_53 rfl rfl (Nat.le_of_ble_eq_true rfl) ⟨Nat.le_of_ble_eq_true rfl, Nat.le_of_ble_eq_true rfl⟩ ⟨Nat.zero_le _, Nat.zero_le _⟩ d_Dbl_rounded_1 ?_
  refine ws_bipush (v := 11) X d_Dbl_rounded_4 rfl ?_
  refine ws_isub X d_Dbl_rounded_6 ?_
  refine ws_iconst (v := 3) X d_Dbl_rounded_7 rfl ?_
  refine ws_iadd X d_Dbl_rounded_8 ?_
  refine ws_iload_n (i := 2) X d_Dbl_rounded_9 rfl rfl ?_
  refine ws_iconst (v := 1) X d_Dbl_rounded_10 rfl ?_
  refine ws_isub X d_Dbl_rounded_11 ?_
  refine ws_mmin X cs_JM_min ml_Dbl_83 ⟨Nat.le_of_ble_eq_true rfl, Nat.le_of_ble_eq_true rfl⟩ ⟨Nat.zero_le _, Nat.zero_le _⟩ d_Dbl_rounded_12 ?_
  refine ws_ist_5 X rfl d_Dbl_rounded_15 (by decide) ?_
  refine ws_iload (i := 5) X d_Dbl_rounded_17 rfl ?_
  refine ws_if_lt X d_Dbl_rounded_19 (fun h19 => ?_) (fun h19 => ?_)
  · refine ws_lload_n (i := 3) X d_Dbl_rounded_29 rfl rfl ?_
    refine ws_iload (i := 5) X d_Dbl_rounded_30 rfl ?_
    refine ws_ineg X d_Dbl_rounded_32 ?_
    refine ws_callS1 X (m_Dbl_shiftedDown _ _ _) cs_Dbl_shiftedDown ml_Dbl_45 rfl rfl (Nat.le_of_ble_eq_true rfl) ⟨Nat.le_of_ble_eq_true rfl, Nat.le_of_ble_eq_true rfl⟩ ⟨Nat.zero_le _, Nat.zero_le _⟩ d_Dbl_rounded_33 ?_
    refine ws_lst_6 X rfl d_Dbl_rounded_36 (by decide) ?_
    refine ws_iload_n (i := 2) X d_Dbl_rounded_38 rfl rfl ?_
    refine ws_iload (i := 5) X d_Dbl_rounded_39 rfl ?_
    refine ws_isub X d_Dbl_rounded_41 ?_
    refine ws_ist_8 X rfl d_Dbl_rounded_42 (by decide) ?_
    refine ws_iload (i := 8) X d_Dbl_rounded_44 rfl ?_
    refine ws_sipush (v := 2046) X d_Dbl_rounded_46 rfl ?_
    refine ws_icmp_le X d_Dbl_rounded_49 (fun h49 => ?_) (fun h49 => ?_)
    · refine ws_lload (i := 6) X d_Dbl_rounded_58 rfl ?_
      refine ws_ldc2 X d_Dbl_rounded_60 ct_Dbl_86 ?_
      refine ws_land X d_Dbl_rounded_63 ?_
      refine ws_lst_9 X rfl d_Dbl_rounded_64 (by decide) ?_
      refine ws_lload (i := 6) X d_Dbl_rounded_66 rfl ?_
      refine ws_iconst (v := 3) X d_Dbl_rounded_68 rfl ?_
      refine ws_lushr X d_Dbl_rounded_69 ?_
      refine ws_lst_11 X rfl d_Dbl_rounded_70 (by decide) ?_
      refine ws_lload (i := 9) X d_Dbl_rounded_72 rfl ?_
      refine ws_ldc2 X d_Dbl_rounded_74 ct_Dbl_88 ?_
      refine ws_lcmp_gt X d_Dbl_rounded_77 d_Dbl_rounded_78 (fun h77 => ?_) (fun h77 => ?_)
      · refine ws_lload (i := 11) X d_Dbl_rounded_99 rfl ?_
        refine ws_lconst (v := 1) X d_Dbl_rounded_101 rfl ?_
        refine ws_ladd X d_Dbl_rounded_102 ?_
        refine ws_lst_11 X rfl d_Dbl_rounded_103 (by decide) ?_
        refine ws_lload_n (i := 0) X d_Dbl_rounded_105 rfl rfl ?_
        refine ws_iload (i := 8) X d_Dbl_rounded_106 rfl ?_
        refine ws_iconst (v := 1) X d_Dbl_rounded_108 rfl ?_
        refine ws_isub X d_Dbl_rounded_109 ?_
        refine ws_i2l X d_Dbl_rounded_110 ?_
        refine ws_bipush (v := 52) X d_Dbl_rounded_111 rfl ?_
        refine ws_lshl X d_Dbl_rounded_113 ?_
        refine ws_lload (i := 11) X d_Dbl_rounded_114 rfl ?_
        refine ws_ladd X d_Dbl_rounded_116 ?_
        refine ws_lor X d_Dbl_rounded_117 ?_
        refine ws_lret X d_Dbl_rounded_118 ?_
        exact ⟨by simp [dRound, rUp, rFit, rKept, eq_true h19, eq_true h49, eq_true h77], rfl⟩
      · refine ws_lload (i := 9) X d_Dbl_rounded_81 rfl ?_
        refine ws_ldc2 X d_Dbl_rounded_83 ct_Dbl_88 ?_
        refine ws_lcmp_ne X d_Dbl_rounded_86 d_Dbl_rounded_87 (fun h86 => ?_) (fun h86 => ?_)
        · refine ws_lload_n (i := 0) X d_Dbl_rounded_105 rfl rfl ?_
          refine ws_iload (i := 8) X d_Dbl_rounded_106 rfl ?_
          refine ws_iconst (v := 1) X d_Dbl_rounded_108 rfl ?_
          refine ws_isub X d_Dbl_rounded_109 ?_
          refine ws_i2l X d_Dbl_rounded_110 ?_
          refine ws_bipush (v := 52) X d_Dbl_rounded_111 rfl ?_
          refine ws_lshl X d_Dbl_rounded_113 ?_
          refine ws_lload (i := 11) X d_Dbl_rounded_114 rfl ?_
          refine ws_ladd X d_Dbl_rounded_116 ?_
          refine ws_lor X d_Dbl_rounded_117 ?_
          refine ws_lret X d_Dbl_rounded_118 ?_
          exact ⟨by simp [dRound, rUp, rFit, rKept, eq_true h19, eq_true h49, eq_false h77, eq_false h86], rfl⟩
        · refine ws_lload (i := 11) X d_Dbl_rounded_90 rfl ?_
          refine ws_lconst (v := 1) X d_Dbl_rounded_92 rfl ?_
          refine ws_land X d_Dbl_rounded_93 ?_
          refine ws_lconst (v := 1) X d_Dbl_rounded_94 rfl ?_
          refine ws_lcmp_ne X d_Dbl_rounded_95 d_Dbl_rounded_96 (fun h95 => ?_) (fun h95 => ?_)
          · refine ws_lload_n (i := 0) X d_Dbl_rounded_105 rfl rfl ?_
            refine ws_iload (i := 8) X d_Dbl_rounded_106 rfl ?_
            refine ws_iconst (v := 1) X d_Dbl_rounded_108 rfl ?_
            refine ws_isub X d_Dbl_rounded_109 ?_
            refine ws_i2l X d_Dbl_rounded_110 ?_
            refine ws_bipush (v := 52) X d_Dbl_rounded_111 rfl ?_
            refine ws_lshl X d_Dbl_rounded_113 ?_
            refine ws_lload (i := 11) X d_Dbl_rounded_114 rfl ?_
            refine ws_ladd X d_Dbl_rounded_116 ?_
            refine ws_lor X d_Dbl_rounded_117 ?_
            refine ws_lret X d_Dbl_rounded_118 ?_
            exact ⟨by simp [dRound, rUp, rFit, rKept, eq_true h19, eq_true h49, eq_false h77, eq_true h86, eq_false h95], rfl⟩
          · refine ws_lload (i := 11) X d_Dbl_rounded_99 rfl ?_
            refine ws_lconst (v := 1) X d_Dbl_rounded_101 rfl ?_
            refine ws_ladd X d_Dbl_rounded_102 ?_
            refine ws_lst_11 X rfl d_Dbl_rounded_103 (by decide) ?_
            refine ws_lload_n (i := 0) X d_Dbl_rounded_105 rfl rfl ?_
            refine ws_iload (i := 8) X d_Dbl_rounded_106 rfl ?_
            refine ws_iconst (v := 1) X d_Dbl_rounded_108 rfl ?_
            refine ws_isub X d_Dbl_rounded_109 ?_
            refine ws_i2l X d_Dbl_rounded_110 ?_
            refine ws_bipush (v := 52) X d_Dbl_rounded_111 rfl ?_
            refine ws_lshl X d_Dbl_rounded_113 ?_
            refine ws_lload (i := 11) X d_Dbl_rounded_114 rfl ?_
            refine ws_ladd X d_Dbl_rounded_116 ?_
            refine ws_lor X d_Dbl_rounded_117 ?_
            refine ws_lret X d_Dbl_rounded_118 ?_
            exact ⟨by simp [dRound, rUp, rFit, rKept, eq_true h19, eq_true h49, eq_false h77, eq_true h86, eq_true h95], rfl⟩
    · refine ws_lload_n (i := 0) X d_Dbl_rounded_52 rfl rfl ?_
      refine ws_ldc2 X d_Dbl_rounded_53 ct_Dbl_17 ?_
      refine ws_lor X d_Dbl_rounded_56 ?_
      refine ws_lret X d_Dbl_rounded_57 ?_
      exact ⟨by simp [dRound, rUp, rFit, rKept, eq_true h19, eq_false h49], rfl⟩
  · refine ws_lload_n (i := 3) X d_Dbl_rounded_22 rfl rfl ?_
    refine ws_iload (i := 5) X d_Dbl_rounded_23 rfl ?_
    refine ws_lshl X d_Dbl_rounded_25 ?_
    refine ws_goto X d_Dbl_rounded_26 ?_
    refine ws_lst_6 X rfl d_Dbl_rounded_36 (by decide) ?_
    refine ws_iload_n (i := 2) X d_Dbl_rounded_38 rfl rfl ?_
    refine ws_iload (i := 5) X d_Dbl_rounded_39 rfl ?_
    refine ws_isub X d_Dbl_rounded_41 ?_
    refine ws_ist_8 X rfl d_Dbl_rounded_42 (by decide) ?_
    refine ws_iload (i := 8) X d_Dbl_rounded_44 rfl ?_
    refine ws_sipush (v := 2046) X d_Dbl_rounded_46 rfl ?_
    refine ws_icmp_le X d_Dbl_rounded_49 (fun h49 => ?_) (fun h49 => ?_)
    · refine ws_lload (i := 6) X d_Dbl_rounded_58 rfl ?_
      refine ws_ldc2 X d_Dbl_rounded_60 ct_Dbl_86 ?_
      refine ws_land X d_Dbl_rounded_63 ?_
      refine ws_lst_9 X rfl d_Dbl_rounded_64 (by decide) ?_
      refine ws_lload (i := 6) X d_Dbl_rounded_66 rfl ?_
      refine ws_iconst (v := 3) X d_Dbl_rounded_68 rfl ?_
      refine ws_lushr X d_Dbl_rounded_69 ?_
      refine ws_lst_11 X rfl d_Dbl_rounded_70 (by decide) ?_
      refine ws_lload (i := 9) X d_Dbl_rounded_72 rfl ?_
      refine ws_ldc2 X d_Dbl_rounded_74 ct_Dbl_88 ?_
      refine ws_lcmp_gt X d_Dbl_rounded_77 d_Dbl_rounded_78 (fun h77 => ?_) (fun h77 => ?_)
      · refine ws_lload (i := 11) X d_Dbl_rounded_99 rfl ?_
        refine ws_lconst (v := 1) X d_Dbl_rounded_101 rfl ?_
        refine ws_ladd X d_Dbl_rounded_102 ?_
        refine ws_lst_11 X rfl d_Dbl_rounded_103 (by decide) ?_
        refine ws_lload_n (i := 0) X d_Dbl_rounded_105 rfl rfl ?_
        refine ws_iload (i := 8) X d_Dbl_rounded_106 rfl ?_
        refine ws_iconst (v := 1) X d_Dbl_rounded_108 rfl ?_
        refine ws_isub X d_Dbl_rounded_109 ?_
        refine ws_i2l X d_Dbl_rounded_110 ?_
        refine ws_bipush (v := 52) X d_Dbl_rounded_111 rfl ?_
        refine ws_lshl X d_Dbl_rounded_113 ?_
        refine ws_lload (i := 11) X d_Dbl_rounded_114 rfl ?_
        refine ws_ladd X d_Dbl_rounded_116 ?_
        refine ws_lor X d_Dbl_rounded_117 ?_
        refine ws_lret X d_Dbl_rounded_118 ?_
        exact ⟨by simp [dRound, rUp, rFit, rKept, eq_false h19, eq_true h49, eq_true h77], rfl⟩
      · refine ws_lload (i := 9) X d_Dbl_rounded_81 rfl ?_
        refine ws_ldc2 X d_Dbl_rounded_83 ct_Dbl_88 ?_
        refine ws_lcmp_ne X d_Dbl_rounded_86 d_Dbl_rounded_87 (fun h86 => ?_) (fun h86 => ?_)
        · refine ws_lload_n (i := 0) X d_Dbl_rounded_105 rfl rfl ?_
          refine ws_iload (i := 8) X d_Dbl_rounded_106 rfl ?_
          refine ws_iconst (v := 1) X d_Dbl_rounded_108 rfl ?_
          refine ws_isub X d_Dbl_rounded_109 ?_
          refine ws_i2l X d_Dbl_rounded_110 ?_
          refine ws_bipush (v := 52) X d_Dbl_rounded_111 rfl ?_
          refine ws_lshl X d_Dbl_rounded_113 ?_
          refine ws_lload (i := 11) X d_Dbl_rounded_114 rfl ?_
          refine ws_ladd X d_Dbl_rounded_116 ?_
          refine ws_lor X d_Dbl_rounded_117 ?_
          refine ws_lret X d_Dbl_rounded_118 ?_
          exact ⟨by simp [dRound, rUp, rFit, rKept, eq_false h19, eq_true h49, eq_false h77, eq_false h86], rfl⟩
        · refine ws_lload (i := 11) X d_Dbl_rounded_90 rfl ?_
          refine ws_lconst (v := 1) X d_Dbl_rounded_92 rfl ?_
          refine ws_land X d_Dbl_rounded_93 ?_
          refine ws_lconst (v := 1) X d_Dbl_rounded_94 rfl ?_
          refine ws_lcmp_ne X d_Dbl_rounded_95 d_Dbl_rounded_96 (fun h95 => ?_) (fun h95 => ?_)
          · refine ws_lload_n (i := 0) X d_Dbl_rounded_105 rfl rfl ?_
            refine ws_iload (i := 8) X d_Dbl_rounded_106 rfl ?_
            refine ws_iconst (v := 1) X d_Dbl_rounded_108 rfl ?_
            refine ws_isub X d_Dbl_rounded_109 ?_
            refine ws_i2l X d_Dbl_rounded_110 ?_
            refine ws_bipush (v := 52) X d_Dbl_rounded_111 rfl ?_
            refine ws_lshl X d_Dbl_rounded_113 ?_
            refine ws_lload (i := 11) X d_Dbl_rounded_114 rfl ?_
            refine ws_ladd X d_Dbl_rounded_116 ?_
            refine ws_lor X d_Dbl_rounded_117 ?_
            refine ws_lret X d_Dbl_rounded_118 ?_
            exact ⟨by simp [dRound, rUp, rFit, rKept, eq_false h19, eq_true h49, eq_false h77, eq_true h86, eq_false h95], rfl⟩
          · refine ws_lload (i := 11) X d_Dbl_rounded_99 rfl ?_
            refine ws_lconst (v := 1) X d_Dbl_rounded_101 rfl ?_
            refine ws_ladd X d_Dbl_rounded_102 ?_
            refine ws_lst_11 X rfl d_Dbl_rounded_103 (by decide) ?_
            refine ws_lload_n (i := 0) X d_Dbl_rounded_105 rfl rfl ?_
            refine ws_iload (i := 8) X d_Dbl_rounded_106 rfl ?_
            refine ws_iconst (v := 1) X d_Dbl_rounded_108 rfl ?_
            refine ws_isub X d_Dbl_rounded_109 ?_
            refine ws_i2l X d_Dbl_rounded_110 ?_
            refine ws_bipush (v := 52) X d_Dbl_rounded_111 rfl ?_
            refine ws_lshl X d_Dbl_rounded_113 ?_
            refine ws_lload (i := 11) X d_Dbl_rounded_114 rfl ?_
            refine ws_ladd X d_Dbl_rounded_116 ?_
            refine ws_lor X d_Dbl_rounded_117 ?_
            refine ws_lret X d_Dbl_rounded_118 ?_
            exact ⟨by simp [dRound, rUp, rFit, rKept, eq_false h19, eq_true h49, eq_false h77, eq_true h86, eq_true h95], rfl⟩
    · refine ws_lload_n (i := 0) X d_Dbl_rounded_52 rfl rfl ?_
      refine ws_ldc2 X d_Dbl_rounded_53 ct_Dbl_17 ?_
      refine ws_lor X d_Dbl_rounded_56 ?_
      refine ws_lret X d_Dbl_rounded_57 ?_
      exact ⟨by simp [dRound, rUp, rFit, rKept, eq_false h19, eq_false h49], rfl⟩

def dAddX (a b u v : Int64) : Int64 := if dAbs u = 9218868437227405312 then (if dAbs v = 9218868437227405312 then (if (a ^^^ b) < 0 then 9221120237041090560 else u) else u) else if shl64 (dDig u) 3 = dShift (shl64 (dDig v) 3) (dScale u - dScale v) ∧ (a ^^^ b) < 0 then 0 else dRound (u &&& (-9223372036854775808)) (dScale u) (if (a ^^^ b) < 0 then shl64 (dDig u) 3 - dShift (shl64 (dDig v) 3) (dScale u - dScale v) else shl64 (dDig u) 3 + dShift (shl64 (dDig v) 3) (dScale u - dScale v))
def dAdd (a b : Int64) : Int64 := if dNan a = true then 9221120237041090560 else if dNan b = true then 9221120237041090560 else if dAbs a < dAbs b then dAddX a b b a else dAddX a b a b
theorem m_Dbl_add (S : MS) (a b : Int64) : MetE y_Dbl_add c_Dbl_add 14 ((some .long)) 2 57 [.inl (.long a), .inl (.long b)] S (some (.inl (.long (dAdd a b)))) (S) := by
  refine MetS.of (lv0 := [some (.inl (.long a)), none, some (.inl (.long b)), none, none, none, none, none, none, none, none, none, none, none]) pn_Dbl rfl (Nat.le_of_ble_eq_true rfl) (fun p l e0 s m0 args below meth c0 G X => ?_)
  refine ws_lload_n (i := 0) X d_Dbl_add_0 rfl rfl ?_
  refine ws_callS1 X (m_Dbl_isNan _ _) cs_Dbl_isNan ml_Dbl_7 rfl rfl (Nat.le_of_ble_eq_true rfl) ⟨Nat.le_of_ble_eq_true rfl, Nat.le_of_ble_eq_true rfl⟩ ⟨Nat.zero_le _, Nat.zero_le _⟩ d_Dbl_add_1 ?_
  refine ws_ifB_ne X d_Dbl_add_4 (fun h4 => ?_) (fun h4 => ?_)
  · refine ws_ldc2 X d_Dbl_add_14 ct_Dbl_13 ?_
    refine ws_lret X d_Dbl_add_17 ?_
    first | contradiction | exact ⟨by simp [dAdd, dAddX, h4], rfl⟩
  · refine ws_lload_n (i := 2) X d_Dbl_add_7 rfl rfl ?_
    refine ws_callS1 X (m_Dbl_isNan _ _) cs_Dbl_isNan ml_Dbl_7 rfl rfl (Nat.le_of_ble_eq_true rfl) ⟨Nat.le_of_ble_eq_true rfl, Nat.le_of_ble_eq_true rfl⟩ ⟨Nat.zero_le _, Nat.zero_le _⟩ d_Dbl_add_8 ?_
    refine ws_ifB_eq X d_Dbl_add_11 (fun h11 => ?_) (fun h11 => ?_)
    · refine ws_lload_n (i := 0) X d_Dbl_add_18 rfl rfl ?_
      refine ws_callS1 X (m_Dbl_absolute _ _) cs_Dbl_absolute ml_Dbl_35 rfl rfl (Nat.le_of_ble_eq_true rfl) ⟨Nat.le_of_ble_eq_true rfl, Nat.le_of_ble_eq_true rfl⟩ ⟨Nat.zero_le _, Nat.zero_le _⟩ d_Dbl_add_19 ?_
      refine ws_lload_n (i := 2) X d_Dbl_add_22 rfl rfl ?_
      refine ws_callS1 X (m_Dbl_absolute _ _) cs_Dbl_absolute ml_Dbl_35 rfl rfl (Nat.le_of_ble_eq_true rfl) ⟨Nat.le_of_ble_eq_true rfl, Nat.le_of_ble_eq_true rfl⟩ ⟨Nat.zero_le _, Nat.zero_le _⟩ d_Dbl_add_23 ?_
      refine ws_lcmp_lt X d_Dbl_add_26 d_Dbl_add_27 (fun h26 => ?_) (fun h26 => ?_)
      · refine ws_lload_n (i := 2) X d_Dbl_add_34 rfl rfl ?_
        refine ws_lst_4 X rfl d_Dbl_add_35 (by decide) ?_
        refine ws_lload_n (i := 0) X d_Dbl_add_37 rfl rfl ?_
        refine ws_callS1 X (m_Dbl_absolute _ _) cs_Dbl_absolute ml_Dbl_35 rfl rfl (Nat.le_of_ble_eq_true rfl) ⟨Nat.le_of_ble_eq_true rfl, Nat.le_of_ble_eq_true rfl⟩ ⟨Nat.zero_le _, Nat.zero_le _⟩ d_Dbl_add_38 ?_
        refine ws_lload_n (i := 2) X d_Dbl_add_41 rfl rfl ?_
        refine ws_callS1 X (m_Dbl_absolute _ _) cs_Dbl_absolute ml_Dbl_35 rfl rfl (Nat.le_of_ble_eq_true rfl) ⟨Nat.le_of_ble_eq_true rfl, Nat.le_of_ble_eq_true rfl⟩ ⟨Nat.zero_le _, Nat.zero_le _⟩ d_Dbl_add_42 ?_
        refine ws_lcmp_lt X d_Dbl_add_45 d_Dbl_add_46 (fun h45 => ?_) (fun h45 => ?_)
        · refine ws_lload_n (i := 0) X d_Dbl_add_53 rfl rfl ?_
          refine ws_lst_6 X rfl d_Dbl_add_54 (by decide) ?_
          refine ws_lload_n (i := 0) X d_Dbl_add_56 rfl rfl ?_
          refine ws_lload_n (i := 2) X d_Dbl_add_57 rfl rfl ?_
          refine ws_lxor X d_Dbl_add_58 ?_
          refine ws_lconst (v := 0) X d_Dbl_add_59 rfl ?_
          refine ws_lcmp_lt X d_Dbl_add_60 d_Dbl_add_61 (fun h60 => ?_) (fun h60 => ?_)
          · refine ws_iconst (v := 0) X d_Dbl_add_68 rfl ?_
            refine ws_ist_8 X rfl d_Dbl_add_69 (by decide) ?_
            refine ws_lload (i := 4) X d_Dbl_add_71 rfl ?_
            refine ws_callS1 X (m_Dbl_absolute _ _) cs_Dbl_absolute ml_Dbl_35 rfl rfl (Nat.le_of_ble_eq_true rfl) ⟨Nat.le_of_ble_eq_true rfl, Nat.le_of_ble_eq_true rfl⟩ ⟨Nat.zero_le _, Nat.zero_le _⟩ d_Dbl_add_73 ?_
            refine ws_ldc2 X d_Dbl_add_76 ct_Dbl_17 ?_
            refine ws_lcmp_ne X d_Dbl_add_79 d_Dbl_add_80 (fun h79 => ?_) (fun h79 => ?_)
            · refine ws_lload (i := 4) X d_Dbl_add_109 rfl ?_
              refine ws_callS1 X (m_Dbl_scaleOf _ _) cs_Dbl_scaleOf ml_Dbl_38 rfl rfl (Nat.le_of_ble_eq_true rfl) ⟨Nat.le_of_ble_eq_true rfl, Nat.le_of_ble_eq_true rfl⟩ ⟨Nat.zero_le _, Nat.zero_le _⟩ d_Dbl_add_111 ?_
              refine ws_ist_9 X rfl d_Dbl_add_114 (by decide) ?_
              refine ws_lload (i := 4) X d_Dbl_add_116 rfl ?_
              refine ws_callS1 X (m_Dbl_digitsOf _ _) cs_Dbl_digitsOf ml_Dbl_42 rfl rfl (Nat.le_of_ble_eq_true rfl) ⟨Nat.le_of_ble_eq_true rfl, Nat.le_of_ble_eq_true rfl⟩ ⟨Nat.zero_le _, Nat.zero_le _⟩ d_Dbl_add_118 ?_
              refine ws_iconst (v := 3) X d_Dbl_add_121 rfl ?_
              refine ws_lshl X d_Dbl_add_122 ?_
              refine ws_lst_10 X rfl d_Dbl_add_123 (by decide) ?_
              refine ws_lload (i := 6) X d_Dbl_add_125 rfl ?_
              refine ws_callS1 X (m_Dbl_digitsOf _ _) cs_Dbl_digitsOf ml_Dbl_42 rfl rfl (Nat.le_of_ble_eq_true rfl) ⟨Nat.le_of_ble_eq_true rfl, Nat.le_of_ble_eq_true rfl⟩ ⟨Nat.zero_le _, Nat.zero_le _⟩ d_Dbl_add_127 ?_
              refine ws_iconst (v := 3) X d_Dbl_add_130 rfl ?_
              refine ws_lshl X d_Dbl_add_131 ?_
              refine ws_iload (i := 9) X d_Dbl_add_132 rfl ?_
              refine ws_lload (i := 6) X d_Dbl_add_134 rfl ?_
              refine ws_callS1 X (m_Dbl_scaleOf _ _) cs_Dbl_scaleOf ml_Dbl_38 rfl rfl (Nat.le_of_ble_eq_true rfl) ⟨Nat.le_of_ble_eq_true rfl, Nat.le_of_ble_eq_true rfl⟩ ⟨Nat.zero_le _, Nat.zero_le _⟩ d_Dbl_add_136 ?_
              refine ws_isub X d_Dbl_add_139 ?_
              refine ws_callS1 X (m_Dbl_shiftedDown _ _ _) cs_Dbl_shiftedDown ml_Dbl_45 rfl rfl (Nat.le_of_ble_eq_true rfl) ⟨Nat.le_of_ble_eq_true rfl, Nat.le_of_ble_eq_true rfl⟩ ⟨Nat.zero_le _, Nat.zero_le _⟩ d_Dbl_add_140 ?_
              refine ws_lst_12 X rfl d_Dbl_add_143 (by decide) ?_
              refine ws_lload (i := 10) X d_Dbl_add_145 rfl ?_
              refine ws_lload (i := 12) X d_Dbl_add_147 rfl ?_
              refine ws_lcmp_ne X d_Dbl_add_149 d_Dbl_add_150 (fun h149 => ?_) (fun h149 => ?_)
              · refine ws_lload (i := 4) X d_Dbl_add_160 rfl ?_
                refine ws_ldc2 X d_Dbl_add_162 ct_Dbl_19 ?_
                refine ws_land X d_Dbl_add_165 ?_
                refine ws_iload (i := 9) X d_Dbl_add_166 rfl ?_
                refine ws_iload (i := 8) X d_Dbl_add_168 rfl ?_
                refine ws_if_eq X d_Dbl_add_170 (fun h170 => ?_) (fun h170 => ?_)
                · refine ws_lload (i := 10) X d_Dbl_add_181 rfl ?_
                  refine ws_lload (i := 12) X d_Dbl_add_183 rfl ?_
                  refine ws_lsub X d_Dbl_add_185 ?_
                  refine ws_callS1 X (m_Dbl_rounded _ _ _ _) cs_Dbl_rounded ml_Dbl_49 rfl rfl (Nat.le_of_ble_eq_true rfl) ⟨Nat.le_of_ble_eq_true rfl, Nat.le_of_ble_eq_true rfl⟩ ⟨Nat.zero_le _, Nat.zero_le _⟩ d_Dbl_add_186 ?_
                  refine ws_lret X d_Dbl_add_189 ?_
                  first | contradiction | exact ⟨by simp [dAdd, dAddX, h4, h11, eq_true h26, eq_true h45, eq_true h60, eq_false h79, eq_false h149, eq_true h170], rfl⟩
                · exact absurd h170 (by decide)
              · refine ws_iload (i := 8) X d_Dbl_add_153 rfl ?_
                refine ws_if_ne X d_Dbl_add_155 (fun h155 => ?_) (fun h155 => ?_)
                · exact absurd h155 (by decide)
                · refine ws_lconst (v := 0) X d_Dbl_add_158 rfl ?_
                  refine ws_lret X d_Dbl_add_159 ?_
                  first | contradiction | exact ⟨by simp [dAdd, dAddX, h4, h11, eq_true h26, eq_true h45, eq_true h60, eq_false h79, eq_true h149, eq_true h155], rfl⟩
            · refine ws_lload (i := 6) X d_Dbl_add_83 rfl ?_
              refine ws_callS1 X (m_Dbl_absolute _ _) cs_Dbl_absolute ml_Dbl_35 rfl rfl (Nat.le_of_ble_eq_true rfl) ⟨Nat.le_of_ble_eq_true rfl, Nat.le_of_ble_eq_true rfl⟩ ⟨Nat.zero_le _, Nat.zero_le _⟩ d_Dbl_add_85 ?_
              refine ws_ldc2 X d_Dbl_add_88 ct_Dbl_17 ?_
              refine ws_lcmp_ne X d_Dbl_add_91 d_Dbl_add_92 (fun h91 => ?_) (fun h91 => ?_)
              · refine ws_lload (i := 4) X d_Dbl_add_106 rfl ?_
                refine ws_lret X d_Dbl_add_108 ?_
                first | contradiction | exact ⟨by simp [dAdd, dAddX, h4, h11, eq_true h26, eq_true h45, eq_true h60, eq_true h79, eq_false h91], rfl⟩
              · refine ws_iload (i := 8) X d_Dbl_add_95 rfl ?_
                refine ws_if_ne X d_Dbl_add_97 (fun h97 => ?_) (fun h97 => ?_)
                · exact absurd h97 (by decide)
                · refine ws_ldc2 X d_Dbl_add_100 ct_Dbl_13 ?_
                  refine ws_goto X d_Dbl_add_103 ?_
                  refine ws_lret X d_Dbl_add_108 ?_
                  first | contradiction | exact ⟨by simp [dAdd, dAddX, h4, h11, eq_true h26, eq_true h45, eq_true h60, eq_true h79, eq_true h91, eq_true h97], rfl⟩
          · refine ws_iconst (v := 1) X d_Dbl_add_64 rfl ?_
            refine ws_goto X d_Dbl_add_65 ?_
            refine ws_ist_8 X rfl d_Dbl_add_69 (by decide) ?_
            refine ws_lload (i := 4) X d_Dbl_add_71 rfl ?_
            refine ws_callS1 X (m_Dbl_absolute _ _) cs_Dbl_absolute ml_Dbl_35 rfl rfl (Nat.le_of_ble_eq_true rfl) ⟨Nat.le_of_ble_eq_true rfl, Nat.le_of_ble_eq_true rfl⟩ ⟨Nat.zero_le _, Nat.zero_le _⟩ d_Dbl_add_73 ?_
            refine ws_ldc2 X d_Dbl_add_76 ct_Dbl_17 ?_
            refine ws_lcmp_ne X d_Dbl_add_79 d_Dbl_add_80 (fun h79 => ?_) (fun h79 => ?_)
            · refine ws_lload (i := 4) X d_Dbl_add_109 rfl ?_
              refine ws_callS1 X (m_Dbl_scaleOf _ _) cs_Dbl_scaleOf ml_Dbl_38 rfl rfl (Nat.le_of_ble_eq_true rfl) ⟨Nat.le_of_ble_eq_true rfl, Nat.le_of_ble_eq_true rfl⟩ ⟨Nat.zero_le _, Nat.zero_le _⟩ d_Dbl_add_111 ?_
              refine ws_ist_9 X rfl d_Dbl_add_114 (by decide) ?_
              refine ws_lload (i := 4) X d_Dbl_add_116 rfl ?_
              refine ws_callS1 X (m_Dbl_digitsOf _ _) cs_Dbl_digitsOf ml_Dbl_42 rfl rfl (Nat.le_of_ble_eq_true rfl) ⟨Nat.le_of_ble_eq_true rfl, Nat.le_of_ble_eq_true rfl⟩ ⟨Nat.zero_le _, Nat.zero_le _⟩ d_Dbl_add_118 ?_
              refine ws_iconst (v := 3) X d_Dbl_add_121 rfl ?_
              refine ws_lshl X d_Dbl_add_122 ?_
              refine ws_lst_10 X rfl d_Dbl_add_123 (by decide) ?_
              refine ws_lload (i := 6) X d_Dbl_add_125 rfl ?_
              refine ws_callS1 X (m_Dbl_digitsOf _ _) cs_Dbl_digitsOf ml_Dbl_42 rfl rfl (Nat.le_of_ble_eq_true rfl) ⟨Nat.le_of_ble_eq_true rfl, Nat.le_of_ble_eq_true rfl⟩ ⟨Nat.zero_le _, Nat.zero_le _⟩ d_Dbl_add_127 ?_
              refine ws_iconst (v := 3) X d_Dbl_add_130 rfl ?_
              refine ws_lshl X d_Dbl_add_131 ?_
              refine ws_iload (i := 9) X d_Dbl_add_132 rfl ?_
              refine ws_lload (i := 6) X d_Dbl_add_134 rfl ?_
              refine ws_callS1 X (m_Dbl_scaleOf _ _) cs_Dbl_scaleOf ml_Dbl_38 rfl rfl (Nat.le_of_ble_eq_true rfl) ⟨Nat.le_of_ble_eq_true rfl, Nat.le_of_ble_eq_true rfl⟩ ⟨Nat.zero_le _, Nat.zero_le _⟩ d_Dbl_add_136 ?_
              refine ws_isub X d_Dbl_add_139 ?_
              refine ws_callS1 X (m_Dbl_shiftedDown _ _ _) cs_Dbl_shiftedDown ml_Dbl_45 rfl rfl (Nat.le_of_ble_eq_true rfl) ⟨Nat.le_of_ble_eq_true rfl, Nat.le_of_ble_eq_true rfl⟩ ⟨Nat.zero_le _, Nat.zero_le _⟩ d_Dbl_add_140 ?_
              refine ws_lst_12 X rfl d_Dbl_add_143 (by decide) ?_
              refine ws_lload (i := 10) X d_Dbl_add_145 rfl ?_
              refine ws_lload (i := 12) X d_Dbl_add_147 rfl ?_
              refine ws_lcmp_ne X d_Dbl_add_149 d_Dbl_add_150 (fun h149 => ?_) (fun h149 => ?_)
              · refine ws_lload (i := 4) X d_Dbl_add_160 rfl ?_
                refine ws_ldc2 X d_Dbl_add_162 ct_Dbl_19 ?_
                refine ws_land X d_Dbl_add_165 ?_
                refine ws_iload (i := 9) X d_Dbl_add_166 rfl ?_
                refine ws_iload (i := 8) X d_Dbl_add_168 rfl ?_
                refine ws_if_eq X d_Dbl_add_170 (fun h170 => ?_) (fun h170 => ?_)
                · exact absurd h170 (by decide)
                · refine ws_lload (i := 10) X d_Dbl_add_173 rfl ?_
                  refine ws_lload (i := 12) X d_Dbl_add_175 rfl ?_
                  refine ws_ladd X d_Dbl_add_177 ?_
                  refine ws_goto X d_Dbl_add_178 ?_
                  refine ws_callS1 X (m_Dbl_rounded _ _ _ _) cs_Dbl_rounded ml_Dbl_49 rfl rfl (Nat.le_of_ble_eq_true rfl) ⟨Nat.le_of_ble_eq_true rfl, Nat.le_of_ble_eq_true rfl⟩ ⟨Nat.zero_le _, Nat.zero_le _⟩ d_Dbl_add_186 ?_
                  refine ws_lret X d_Dbl_add_189 ?_
                  first | contradiction | exact ⟨by simp [dAdd, dAddX, h4, h11, eq_true h26, eq_true h45, eq_false h60, eq_false h79, eq_false h149, eq_false h170], rfl⟩
              · refine ws_iload (i := 8) X d_Dbl_add_153 rfl ?_
                refine ws_if_ne X d_Dbl_add_155 (fun h155 => ?_) (fun h155 => ?_)
                · refine ws_lload (i := 4) X d_Dbl_add_160 rfl ?_
                  refine ws_ldc2 X d_Dbl_add_162 ct_Dbl_19 ?_
                  refine ws_land X d_Dbl_add_165 ?_
                  refine ws_iload (i := 9) X d_Dbl_add_166 rfl ?_
                  refine ws_iload (i := 8) X d_Dbl_add_168 rfl ?_
                  refine ws_if_eq X d_Dbl_add_170 (fun h170 => ?_) (fun h170 => ?_)
                  · exact absurd h170 (by decide)
                  · refine ws_lload (i := 10) X d_Dbl_add_173 rfl ?_
                    refine ws_lload (i := 12) X d_Dbl_add_175 rfl ?_
                    refine ws_ladd X d_Dbl_add_177 ?_
                    refine ws_goto X d_Dbl_add_178 ?_
                    refine ws_callS1 X (m_Dbl_rounded _ _ _ _) cs_Dbl_rounded ml_Dbl_49 rfl rfl (Nat.le_of_ble_eq_true rfl) ⟨Nat.le_of_ble_eq_true rfl, Nat.le_of_ble_eq_true rfl⟩ ⟨Nat.zero_le _, Nat.zero_le _⟩ d_Dbl_add_186 ?_
                    refine ws_lret X d_Dbl_add_189 ?_
                    first | contradiction | exact ⟨by simp [dAdd, dAddX, h4, h11, eq_true h26, eq_true h45, eq_false h60, eq_false h79, eq_true h149, eq_false h155, eq_false h170], rfl⟩
                · exact absurd h155 (by decide)
            · refine ws_lload (i := 6) X d_Dbl_add_83 rfl ?_
              refine ws_callS1 X (m_Dbl_absolute _ _) cs_Dbl_absolute ml_Dbl_35 rfl rfl (Nat.le_of_ble_eq_true rfl) ⟨Nat.le_of_ble_eq_true rfl, Nat.le_of_ble_eq_true rfl⟩ ⟨Nat.zero_le _, Nat.zero_le _⟩ d_Dbl_add_85 ?_
              refine ws_ldc2 X d_Dbl_add_88 ct_Dbl_17 ?_
              refine ws_lcmp_ne X d_Dbl_add_91 d_Dbl_add_92 (fun h91 => ?_) (fun h91 => ?_)
              · refine ws_lload (i := 4) X d_Dbl_add_106 rfl ?_
                refine ws_lret X d_Dbl_add_108 ?_
                first | contradiction | exact ⟨by simp [dAdd, dAddX, h4, h11, eq_true h26, eq_true h45, eq_false h60, eq_true h79, eq_false h91], rfl⟩
              · refine ws_iload (i := 8) X d_Dbl_add_95 rfl ?_
                refine ws_if_ne X d_Dbl_add_97 (fun h97 => ?_) (fun h97 => ?_)
                · refine ws_lload (i := 4) X d_Dbl_add_106 rfl ?_
                  refine ws_lret X d_Dbl_add_108 ?_
                  first | contradiction | exact ⟨by simp [dAdd, dAddX, h4, h11, eq_true h26, eq_true h45, eq_false h60, eq_true h79, eq_true h91, eq_false h97], rfl⟩
                · exact absurd h97 (by decide)
        · refine ws_lload_n (i := 2) X d_Dbl_add_49 rfl rfl ?_
          refine ws_goto X d_Dbl_add_50 ?_
          refine ws_lst_6 X rfl d_Dbl_add_54 (by decide) ?_
          refine ws_lload_n (i := 0) X d_Dbl_add_56 rfl rfl ?_
          refine ws_lload_n (i := 2) X d_Dbl_add_57 rfl rfl ?_
          refine ws_lxor X d_Dbl_add_58 ?_
          refine ws_lconst (v := 0) X d_Dbl_add_59 rfl ?_
          refine ws_lcmp_lt X d_Dbl_add_60 d_Dbl_add_61 (fun h60 => ?_) (fun h60 => ?_)
          · refine ws_iconst (v := 0) X d_Dbl_add_68 rfl ?_
            refine ws_ist_8 X rfl d_Dbl_add_69 (by decide) ?_
            refine ws_lload (i := 4) X d_Dbl_add_71 rfl ?_
            refine ws_callS1 X (m_Dbl_absolute _ _) cs_Dbl_absolute ml_Dbl_35 rfl rfl (Nat.le_of_ble_eq_true rfl) ⟨Nat.le_of_ble_eq_true rfl, Nat.le_of_ble_eq_true rfl⟩ ⟨Nat.zero_le _, Nat.zero_le _⟩ d_Dbl_add_73 ?_
            refine ws_ldc2 X d_Dbl_add_76 ct_Dbl_17 ?_
            refine ws_lcmp_ne X d_Dbl_add_79 d_Dbl_add_80 (fun h79 => ?_) (fun h79 => ?_)
            · refine ws_lload (i := 4) X d_Dbl_add_109 rfl ?_
              refine ws_callS1 X (m_Dbl_scaleOf _ _) cs_Dbl_scaleOf ml_Dbl_38 rfl rfl (Nat.le_of_ble_eq_true rfl) ⟨Nat.le_of_ble_eq_true rfl, Nat.le_of_ble_eq_true rfl⟩ ⟨Nat.zero_le _, Nat.zero_le _⟩ d_Dbl_add_111 ?_
              refine ws_ist_9 X rfl d_Dbl_add_114 (by decide) ?_
              refine ws_lload (i := 4) X d_Dbl_add_116 rfl ?_
              refine ws_callS1 X (m_Dbl_digitsOf _ _) cs_Dbl_digitsOf ml_Dbl_42 rfl rfl (Nat.le_of_ble_eq_true rfl) ⟨Nat.le_of_ble_eq_true rfl, Nat.le_of_ble_eq_true rfl⟩ ⟨Nat.zero_le _, Nat.zero_le _⟩ d_Dbl_add_118 ?_
              refine ws_iconst (v := 3) X d_Dbl_add_121 rfl ?_
              refine ws_lshl X d_Dbl_add_122 ?_
              refine ws_lst_10 X rfl d_Dbl_add_123 (by decide) ?_
              refine ws_lload (i := 6) X d_Dbl_add_125 rfl ?_
              refine ws_callS1 X (m_Dbl_digitsOf _ _) cs_Dbl_digitsOf ml_Dbl_42 rfl rfl (Nat.le_of_ble_eq_true rfl) ⟨Nat.le_of_ble_eq_true rfl, Nat.le_of_ble_eq_true rfl⟩ ⟨Nat.zero_le _, Nat.zero_le _⟩ d_Dbl_add_127 ?_
              refine ws_iconst (v := 3) X d_Dbl_add_130 rfl ?_
              refine ws_lshl X d_Dbl_add_131 ?_
              refine ws_iload (i := 9) X d_Dbl_add_132 rfl ?_
              refine ws_lload (i := 6) X d_Dbl_add_134 rfl ?_
              refine ws_callS1 X (m_Dbl_scaleOf _ _) cs_Dbl_scaleOf ml_Dbl_38 rfl rfl (Nat.le_of_ble_eq_true rfl) ⟨Nat.le_of_ble_eq_true rfl, Nat.le_of_ble_eq_true rfl⟩ ⟨Nat.zero_le _, Nat.zero_le _⟩ d_Dbl_add_136 ?_
              refine ws_isub X d_Dbl_add_139 ?_
              refine ws_callS1 X (m_Dbl_shiftedDown _ _ _) cs_Dbl_shiftedDown ml_Dbl_45 rfl rfl (Nat.le_of_ble_eq_true rfl) ⟨Nat.le_of_ble_eq_true rfl, Nat.le_of_ble_eq_true rfl⟩ ⟨Nat.zero_le _, Nat.zero_le _⟩ d_Dbl_add_140 ?_
              refine ws_lst_12 X rfl d_Dbl_add_143 (by decide) ?_
              refine ws_lload (i := 10) X d_Dbl_add_145 rfl ?_
              refine ws_lload (i := 12) X d_Dbl_add_147 rfl ?_
              refine ws_lcmp_ne X d_Dbl_add_149 d_Dbl_add_150 (fun h149 => ?_) (fun h149 => ?_)
              · refine ws_lload (i := 4) X d_Dbl_add_160 rfl ?_
                refine ws_ldc2 X d_Dbl_add_162 ct_Dbl_19 ?_
                refine ws_land X d_Dbl_add_165 ?_
                refine ws_iload (i := 9) X d_Dbl_add_166 rfl ?_
                refine ws_iload (i := 8) X d_Dbl_add_168 rfl ?_
                refine ws_if_eq X d_Dbl_add_170 (fun h170 => ?_) (fun h170 => ?_)
                · refine ws_lload (i := 10) X d_Dbl_add_181 rfl ?_
                  refine ws_lload (i := 12) X d_Dbl_add_183 rfl ?_
                  refine ws_lsub X d_Dbl_add_185 ?_
                  refine ws_callS1 X (m_Dbl_rounded _ _ _ _) cs_Dbl_rounded ml_Dbl_49 rfl rfl (Nat.le_of_ble_eq_true rfl) ⟨Nat.le_of_ble_eq_true rfl, Nat.le_of_ble_eq_true rfl⟩ ⟨Nat.zero_le _, Nat.zero_le _⟩ d_Dbl_add_186 ?_
                  refine ws_lret X d_Dbl_add_189 ?_
                  first | contradiction | exact ⟨by simp [dAdd, dAddX, h4, h11, eq_true h26, eq_false h45, eq_true h60, eq_false h79, eq_false h149, eq_true h170], rfl⟩
                · exact absurd h170 (by decide)
              · refine ws_iload (i := 8) X d_Dbl_add_153 rfl ?_
                refine ws_if_ne X d_Dbl_add_155 (fun h155 => ?_) (fun h155 => ?_)
                · exact absurd h155 (by decide)
                · refine ws_lconst (v := 0) X d_Dbl_add_158 rfl ?_
                  refine ws_lret X d_Dbl_add_159 ?_
                  first | contradiction | exact ⟨by simp [dAdd, dAddX, h4, h11, eq_true h26, eq_false h45, eq_true h60, eq_false h79, eq_true h149, eq_true h155], rfl⟩
            · refine ws_lload (i := 6) X d_Dbl_add_83 rfl ?_
              refine ws_callS1 X (m_Dbl_absolute _ _) cs_Dbl_absolute ml_Dbl_35 rfl rfl (Nat.le_of_ble_eq_true rfl) ⟨Nat.le_of_ble_eq_true rfl, Nat.le_of_ble_eq_true rfl⟩ ⟨Nat.zero_le _, Nat.zero_le _⟩ d_Dbl_add_85 ?_
              refine ws_ldc2 X d_Dbl_add_88 ct_Dbl_17 ?_
              refine ws_lcmp_ne X d_Dbl_add_91 d_Dbl_add_92 (fun h91 => ?_) (fun h91 => ?_)
              · refine ws_lload (i := 4) X d_Dbl_add_106 rfl ?_
                refine ws_lret X d_Dbl_add_108 ?_
                first | contradiction | exact ⟨by simp [dAdd, dAddX, h4, h11, eq_true h26, eq_false h45, eq_true h60, eq_true h79, eq_false h91], rfl⟩
              · refine ws_iload (i := 8) X d_Dbl_add_95 rfl ?_
                refine ws_if_ne X d_Dbl_add_97 (fun h97 => ?_) (fun h97 => ?_)
                · exact absurd h97 (by decide)
                · refine ws_ldc2 X d_Dbl_add_100 ct_Dbl_13 ?_
                  refine ws_goto X d_Dbl_add_103 ?_
                  refine ws_lret X d_Dbl_add_108 ?_
                  first | contradiction | exact ⟨by simp [dAdd, dAddX, h4, h11, eq_true h26, eq_false h45, eq_true h60, eq_true h79, eq_true h91, eq_true h97], rfl⟩
          · refine ws_iconst (v := 1) X d_Dbl_add_64 rfl ?_
            refine ws_goto X d_Dbl_add_65 ?_
            refine ws_ist_8 X rfl d_Dbl_add_69 (by decide) ?_
            refine ws_lload (i := 4) X d_Dbl_add_71 rfl ?_
            refine ws_callS1 X (m_Dbl_absolute _ _) cs_Dbl_absolute ml_Dbl_35 rfl rfl (Nat.le_of_ble_eq_true rfl) ⟨Nat.le_of_ble_eq_true rfl, Nat.le_of_ble_eq_true rfl⟩ ⟨Nat.zero_le _, Nat.zero_le _⟩ d_Dbl_add_73 ?_
            refine ws_ldc2 X d_Dbl_add_76 ct_Dbl_17 ?_
            refine ws_lcmp_ne X d_Dbl_add_79 d_Dbl_add_80 (fun h79 => ?_) (fun h79 => ?_)
            · refine ws_lload (i := 4) X d_Dbl_add_109 rfl ?_
              refine ws_callS1 X (m_Dbl_scaleOf _ _) cs_Dbl_scaleOf ml_Dbl_38 rfl rfl (Nat.le_of_ble_eq_true rfl) ⟨Nat.le_of_ble_eq_true rfl, Nat.le_of_ble_eq_true rfl⟩ ⟨Nat.zero_le _, Nat.zero_le _⟩ d_Dbl_add_111 ?_
              refine ws_ist_9 X rfl d_Dbl_add_114 (by decide) ?_
              refine ws_lload (i := 4) X d_Dbl_add_116 rfl ?_
              refine ws_callS1 X (m_Dbl_digitsOf _ _) cs_Dbl_digitsOf ml_Dbl_42 rfl rfl (Nat.le_of_ble_eq_true rfl) ⟨Nat.le_of_ble_eq_true rfl, Nat.le_of_ble_eq_true rfl⟩ ⟨Nat.zero_le _, Nat.zero_le _⟩ d_Dbl_add_118 ?_
              refine ws_iconst (v := 3) X d_Dbl_add_121 rfl ?_
              refine ws_lshl X d_Dbl_add_122 ?_
              refine ws_lst_10 X rfl d_Dbl_add_123 (by decide) ?_
              refine ws_lload (i := 6) X d_Dbl_add_125 rfl ?_
              refine ws_callS1 X (m_Dbl_digitsOf _ _) cs_Dbl_digitsOf ml_Dbl_42 rfl rfl (Nat.le_of_ble_eq_true rfl) ⟨Nat.le_of_ble_eq_true rfl, Nat.le_of_ble_eq_true rfl⟩ ⟨Nat.zero_le _, Nat.zero_le _⟩ d_Dbl_add_127 ?_
              refine ws_iconst (v := 3) X d_Dbl_add_130 rfl ?_
              refine ws_lshl X d_Dbl_add_131 ?_
              refine ws_iload (i := 9) X d_Dbl_add_132 rfl ?_
              refine ws_lload (i := 6) X d_Dbl_add_134 rfl ?_
              refine ws_callS1 X (m_Dbl_scaleOf _ _) cs_Dbl_scaleOf ml_Dbl_38 rfl rfl (Nat.le_of_ble_eq_true rfl) ⟨Nat.le_of_ble_eq_true rfl, Nat.le_of_ble_eq_true rfl⟩ ⟨Nat.zero_le _, Nat.zero_le _⟩ d_Dbl_add_136 ?_
              refine ws_isub X d_Dbl_add_139 ?_
              refine ws_callS1 X (m_Dbl_shiftedDown _ _ _) cs_Dbl_shiftedDown ml_Dbl_45 rfl rfl (Nat.le_of_ble_eq_true rfl) ⟨Nat.le_of_ble_eq_true rfl, Nat.le_of_ble_eq_true rfl⟩ ⟨Nat.zero_le _, Nat.zero_le _⟩ d_Dbl_add_140 ?_
              refine ws_lst_12 X rfl d_Dbl_add_143 (by decide) ?_
              refine ws_lload (i := 10) X d_Dbl_add_145 rfl ?_
              refine ws_lload (i := 12) X d_Dbl_add_147 rfl ?_
              refine ws_lcmp_ne X d_Dbl_add_149 d_Dbl_add_150 (fun h149 => ?_) (fun h149 => ?_)
              · refine ws_lload (i := 4) X d_Dbl_add_160 rfl ?_
                refine ws_ldc2 X d_Dbl_add_162 ct_Dbl_19 ?_
                refine ws_land X d_Dbl_add_165 ?_
                refine ws_iload (i := 9) X d_Dbl_add_166 rfl ?_
                refine ws_iload (i := 8) X d_Dbl_add_168 rfl ?_
                refine ws_if_eq X d_Dbl_add_170 (fun h170 => ?_) (fun h170 => ?_)
                · exact absurd h170 (by decide)
                · refine ws_lload (i := 10) X d_Dbl_add_173 rfl ?_
                  refine ws_lload (i := 12) X d_Dbl_add_175 rfl ?_
                  refine ws_ladd X d_Dbl_add_177 ?_
                  refine ws_goto X d_Dbl_add_178 ?_
                  refine ws_callS1 X (m_Dbl_rounded _ _ _ _) cs_Dbl_rounded ml_Dbl_49 rfl rfl (Nat.le_of_ble_eq_true rfl) ⟨Nat.le_of_ble_eq_true rfl, Nat.le_of_ble_eq_true rfl⟩ ⟨Nat.zero_le _, Nat.zero_le _⟩ d_Dbl_add_186 ?_
                  refine ws_lret X d_Dbl_add_189 ?_
                  first | contradiction | exact ⟨by simp [dAdd, dAddX, h4, h11, eq_true h26, eq_false h45, eq_false h60, eq_false h79, eq_false h149, eq_false h170], rfl⟩
              · refine ws_iload (i := 8) X d_Dbl_add_153 rfl ?_
                refine ws_if_ne X d_Dbl_add_155 (fun h155 => ?_) (fun h155 => ?_)
                · refine ws_lload (i := 4) X d_Dbl_add_160 rfl ?_
                  refine ws_ldc2 X d_Dbl_add_162 ct_Dbl_19 ?_
                  refine ws_land X d_Dbl_add_165 ?_
                  refine ws_iload (i := 9) X d_Dbl_add_166 rfl ?_
                  refine ws_iload (i := 8) X d_Dbl_add_168 rfl ?_
                  refine ws_if_eq X d_Dbl_add_170 (fun h170 => ?_) (fun h170 => ?_)
                  · exact absurd h170 (by decide)
                  · refine ws_lload (i := 10) X d_Dbl_add_173 rfl ?_
                    refine ws_lload (i := 12) X d_Dbl_add_175 rfl ?_
                    refine ws_ladd X d_Dbl_add_177 ?_
                    refine ws_goto X d_Dbl_add_178 ?_
                    refine ws_callS1 X (m_Dbl_rounded _ _ _ _) cs_Dbl_rounded ml_Dbl_49 rfl rfl (Nat.le_of_ble_eq_true rfl) ⟨Nat.le_of_ble_eq_true rfl, Nat.le_of_ble_eq_true rfl⟩ ⟨Nat.zero_le _, Nat.zero_le _⟩ d_Dbl_add_186 ?_
                    refine ws_lret X d_Dbl_add_189 ?_
                    first | contradiction | exact ⟨by simp [dAdd, dAddX, h4, h11, eq_true h26, eq_false h45, eq_false h60, eq_false h79, eq_true h149, eq_false h155, eq_false h170], rfl⟩
                · exact absurd h155 (by decide)
            · refine ws_lload (i := 6) X d_Dbl_add_83 rfl ?_
              refine ws_callS1 X (m_Dbl_absolute _ _) cs_Dbl_absolute ml_Dbl_35 rfl rfl (Nat.le_of_ble_eq_true rfl) ⟨Nat.le_of_ble_eq_true rfl, Nat.le_of_ble_eq_true rfl⟩ ⟨Nat.zero_le _, Nat.zero_le _⟩ d_Dbl_add_85 ?_
              refine ws_ldc2 X d_Dbl_add_88 ct_Dbl_17 ?_
              refine ws_lcmp_ne X d_Dbl_add_91 d_Dbl_add_92 (fun h91 => ?_) (fun h91 => ?_)
              · refine ws_lload (i := 4) X d_Dbl_add_106 rfl ?_
                refine ws_lret X d_Dbl_add_108 ?_
                first | contradiction | exact ⟨by simp [dAdd, dAddX, h4, h11, eq_true h26, eq_false h45, eq_false h60, eq_true h79, eq_false h91], rfl⟩
              · refine ws_iload (i := 8) X d_Dbl_add_95 rfl ?_
                refine ws_if_ne X d_Dbl_add_97 (fun h97 => ?_) (fun h97 => ?_)
                · refine ws_lload (i := 4) X d_Dbl_add_106 rfl ?_
                  refine ws_lret X d_Dbl_add_108 ?_
                  first | contradiction | exact ⟨by simp [dAdd, dAddX, h4, h11, eq_true h26, eq_false h45, eq_false h60, eq_true h79, eq_true h91, eq_false h97], rfl⟩
                · exact absurd h97 (by decide)
      · refine ws_lload_n (i := 0) X d_Dbl_add_30 rfl rfl ?_
        refine ws_goto X d_Dbl_add_31 ?_
        refine ws_lst_4 X rfl d_Dbl_add_35 (by decide) ?_
        refine ws_lload_n (i := 0) X d_Dbl_add_37 rfl rfl ?_
        refine ws_callS1 X (m_Dbl_absolute _ _) cs_Dbl_absolute ml_Dbl_35 rfl rfl (Nat.le_of_ble_eq_true rfl) ⟨Nat.le_of_ble_eq_true rfl, Nat.le_of_ble_eq_true rfl⟩ ⟨Nat.zero_le _, Nat.zero_le _⟩ d_Dbl_add_38 ?_
        refine ws_lload_n (i := 2) X d_Dbl_add_41 rfl rfl ?_
        refine ws_callS1 X (m_Dbl_absolute _ _) cs_Dbl_absolute ml_Dbl_35 rfl rfl (Nat.le_of_ble_eq_true rfl) ⟨Nat.le_of_ble_eq_true rfl, Nat.le_of_ble_eq_true rfl⟩ ⟨Nat.zero_le _, Nat.zero_le _⟩ d_Dbl_add_42 ?_
        refine ws_lcmp_lt X d_Dbl_add_45 d_Dbl_add_46 (fun h45 => ?_) (fun h45 => ?_)
        · refine ws_lload_n (i := 0) X d_Dbl_add_53 rfl rfl ?_
          refine ws_lst_6 X rfl d_Dbl_add_54 (by decide) ?_
          refine ws_lload_n (i := 0) X d_Dbl_add_56 rfl rfl ?_
          refine ws_lload_n (i := 2) X d_Dbl_add_57 rfl rfl ?_
          refine ws_lxor X d_Dbl_add_58 ?_
          refine ws_lconst (v := 0) X d_Dbl_add_59 rfl ?_
          refine ws_lcmp_lt X d_Dbl_add_60 d_Dbl_add_61 (fun h60 => ?_) (fun h60 => ?_)
          · refine ws_iconst (v := 0) X d_Dbl_add_68 rfl ?_
            refine ws_ist_8 X rfl d_Dbl_add_69 (by decide) ?_
            refine ws_lload (i := 4) X d_Dbl_add_71 rfl ?_
            refine ws_callS1 X (m_Dbl_absolute _ _) cs_Dbl_absolute ml_Dbl_35 rfl rfl (Nat.le_of_ble_eq_true rfl) ⟨Nat.le_of_ble_eq_true rfl, Nat.le_of_ble_eq_true rfl⟩ ⟨Nat.zero_le _, Nat.zero_le _⟩ d_Dbl_add_73 ?_
            refine ws_ldc2 X d_Dbl_add_76 ct_Dbl_17 ?_
            refine ws_lcmp_ne X d_Dbl_add_79 d_Dbl_add_80 (fun h79 => ?_) (fun h79 => ?_)
            · refine ws_lload (i := 4) X d_Dbl_add_109 rfl ?_
              refine ws_callS1 X (m_Dbl_scaleOf _ _) cs_Dbl_scaleOf ml_Dbl_38 rfl rfl (Nat.le_of_ble_eq_true rfl) ⟨Nat.le_of_ble_eq_true rfl, Nat.le_of_ble_eq_true rfl⟩ ⟨Nat.zero_le _, Nat.zero_le _⟩ d_Dbl_add_111 ?_
              refine ws_ist_9 X rfl d_Dbl_add_114 (by decide) ?_
              refine ws_lload (i := 4) X d_Dbl_add_116 rfl ?_
              refine ws_callS1 X (m_Dbl_digitsOf _ _) cs_Dbl_digitsOf ml_Dbl_42 rfl rfl (Nat.le_of_ble_eq_true rfl) ⟨Nat.le_of_ble_eq_true rfl, Nat.le_of_ble_eq_true rfl⟩ ⟨Nat.zero_le _, Nat.zero_le _⟩ d_Dbl_add_118 ?_
              refine ws_iconst (v := 3) X d_Dbl_add_121 rfl ?_
              refine ws_lshl X d_Dbl_add_122 ?_
              refine ws_lst_10 X rfl d_Dbl_add_123 (by decide) ?_
              refine ws_lload (i := 6) X d_Dbl_add_125 rfl ?_
              refine ws_callS1 X (m_Dbl_digitsOf _ _) cs_Dbl_digitsOf ml_Dbl_42 rfl rfl (Nat.le_of_ble_eq_true rfl) ⟨Nat.le_of_ble_eq_true rfl, Nat.le_of_ble_eq_true rfl⟩ ⟨Nat.zero_le _, Nat.zero_le _⟩ d_Dbl_add_127 ?_
              refine ws_iconst (v := 3) X d_Dbl_add_130 rfl ?_
              refine ws_lshl X d_Dbl_add_131 ?_
              refine ws_iload (i := 9) X d_Dbl_add_132 rfl ?_
              refine ws_lload (i := 6) X d_Dbl_add_134 rfl ?_
              refine ws_callS1 X (m_Dbl_scaleOf _ _) cs_Dbl_scaleOf ml_Dbl_38 rfl rfl (Nat.le_of_ble_eq_true rfl) ⟨Nat.le_of_ble_eq_true rfl, Nat.le_of_ble_eq_true rfl⟩ ⟨Nat.zero_le _, Nat.zero_le _⟩ d_Dbl_add_136 ?_
              refine ws_isub X d_Dbl_add_139 ?_
              refine ws_callS1 X (m_Dbl_shiftedDown _ _ _) cs_Dbl_shiftedDown ml_Dbl_45 rfl rfl (Nat.le_of_ble_eq_true rfl) ⟨Nat.le_of_ble_eq_true rfl, Nat.le_of_ble_eq_true rfl⟩ ⟨Nat.zero_le _, Nat.zero_le _⟩ d_Dbl_add_140 ?_
              refine ws_lst_12 X rfl d_Dbl_add_143 (by decide) ?_
              refine ws_lload (i := 10) X d_Dbl_add_145 rfl ?_
              refine ws_lload (i := 12) X d_Dbl_add_147 rfl ?_
              refine ws_lcmp_ne X d_Dbl_add_149 d_Dbl_add_150 (fun h149 => ?_) (fun h149 => ?_)
              · refine ws_lload (i := 4) X d_Dbl_add_160 rfl ?_
                refine ws_ldc2 X d_Dbl_add_162 ct_Dbl_19 ?_
                refine ws_land X d_Dbl_add_165 ?_
                refine ws_iload (i := 9) X d_Dbl_add_166 rfl ?_
                refine ws_iload (i := 8) X d_Dbl_add_168 rfl ?_
                refine ws_if_eq X d_Dbl_add_170 (fun h170 => ?_) (fun h170 => ?_)
                · refine ws_lload (i := 10) X d_Dbl_add_181 rfl ?_
                  refine ws_lload (i := 12) X d_Dbl_add_183 rfl ?_
                  refine ws_lsub X d_Dbl_add_185 ?_
                  refine ws_callS1 X (m_Dbl_rounded _ _ _ _) cs_Dbl_rounded ml_Dbl_49 rfl rfl (Nat.le_of_ble_eq_true rfl) ⟨Nat.le_of_ble_eq_true rfl, Nat.le_of_ble_eq_true rfl⟩ ⟨Nat.zero_le _, Nat.zero_le _⟩ d_Dbl_add_186 ?_
                  refine ws_lret X d_Dbl_add_189 ?_
                  first | contradiction | exact ⟨by simp [dAdd, dAddX, h4, h11, eq_false h26, eq_true h45, eq_true h60, eq_false h79, eq_false h149, eq_true h170], rfl⟩
                · exact absurd h170 (by decide)
              · refine ws_iload (i := 8) X d_Dbl_add_153 rfl ?_
                refine ws_if_ne X d_Dbl_add_155 (fun h155 => ?_) (fun h155 => ?_)
                · exact absurd h155 (by decide)
                · refine ws_lconst (v := 0) X d_Dbl_add_158 rfl ?_
                  refine ws_lret X d_Dbl_add_159 ?_
                  first | contradiction | exact ⟨by simp [dAdd, dAddX, h4, h11, eq_false h26, eq_true h45, eq_true h60, eq_false h79, eq_true h149, eq_true h155], rfl⟩
            · refine ws_lload (i := 6) X d_Dbl_add_83 rfl ?_
              refine ws_callS1 X (m_Dbl_absolute _ _) cs_Dbl_absolute ml_Dbl_35 rfl rfl (Nat.le_of_ble_eq_true rfl) ⟨Nat.le_of_ble_eq_true rfl, Nat.le_of_ble_eq_true rfl⟩ ⟨Nat.zero_le _, Nat.zero_le _⟩ d_Dbl_add_85 ?_
              refine ws_ldc2 X d_Dbl_add_88 ct_Dbl_17 ?_
              refine ws_lcmp_ne X d_Dbl_add_91 d_Dbl_add_92 (fun h91 => ?_) (fun h91 => ?_)
              · refine ws_lload (i := 4) X d_Dbl_add_106 rfl ?_
                refine ws_lret X d_Dbl_add_108 ?_
                first | contradiction | exact ⟨by simp [dAdd, dAddX, h4, h11, eq_false h26, eq_true h45, eq_true h60, eq_true h79, eq_false h91], rfl⟩
              · refine ws_iload (i := 8) X d_Dbl_add_95 rfl ?_
                refine ws_if_ne X d_Dbl_add_97 (fun h97 => ?_) (fun h97 => ?_)
                · exact absurd h97 (by decide)
                · refine ws_ldc2 X d_Dbl_add_100 ct_Dbl_13 ?_
                  refine ws_goto X d_Dbl_add_103 ?_
                  refine ws_lret X d_Dbl_add_108 ?_
                  first | contradiction | exact ⟨by simp [dAdd, dAddX, h4, h11, eq_false h26, eq_true h45, eq_true h60, eq_true h79, eq_true h91, eq_true h97], rfl⟩
          · refine ws_iconst (v := 1) X d_Dbl_add_64 rfl ?_
            refine ws_goto X d_Dbl_add_65 ?_
            refine ws_ist_8 X rfl d_Dbl_add_69 (by decide) ?_
            refine ws_lload (i := 4) X d_Dbl_add_71 rfl ?_
            refine ws_callS1 X (m_Dbl_absolute _ _) cs_Dbl_absolute ml_Dbl_35 rfl rfl (Nat.le_of_ble_eq_true rfl) ⟨Nat.le_of_ble_eq_true rfl, Nat.le_of_ble_eq_true rfl⟩ ⟨Nat.zero_le _, Nat.zero_le _⟩ d_Dbl_add_73 ?_
            refine ws_ldc2 X d_Dbl_add_76 ct_Dbl_17 ?_
            refine ws_lcmp_ne X d_Dbl_add_79 d_Dbl_add_80 (fun h79 => ?_) (fun h79 => ?_)
            · refine ws_lload (i := 4) X d_Dbl_add_109 rfl ?_
              refine ws_callS1 X (m_Dbl_scaleOf _ _) cs_Dbl_scaleOf ml_Dbl_38 rfl rfl (Nat.le_of_ble_eq_true rfl) ⟨Nat.le_of_ble_eq_true rfl, Nat.le_of_ble_eq_true rfl⟩ ⟨Nat.zero_le _, Nat.zero_le _⟩ d_Dbl_add_111 ?_
              refine ws_ist_9 X rfl d_Dbl_add_114 (by decide) ?_
              refine ws_lload (i := 4) X d_Dbl_add_116 rfl ?_
              refine ws_callS1 X (m_Dbl_digitsOf _ _) cs_Dbl_digitsOf ml_Dbl_42 rfl rfl (Nat.le_of_ble_eq_true rfl) ⟨Nat.le_of_ble_eq_true rfl, Nat.le_of_ble_eq_true rfl⟩ ⟨Nat.zero_le _, Nat.zero_le _⟩ d_Dbl_add_118 ?_
              refine ws_iconst (v := 3) X d_Dbl_add_121 rfl ?_
              refine ws_lshl X d_Dbl_add_122 ?_
              refine ws_lst_10 X rfl d_Dbl_add_123 (by decide) ?_
              refine ws_lload (i := 6) X d_Dbl_add_125 rfl ?_
              refine ws_callS1 X (m_Dbl_digitsOf _ _) cs_Dbl_digitsOf ml_Dbl_42 rfl rfl (Nat.le_of_ble_eq_true rfl) ⟨Nat.le_of_ble_eq_true rfl, Nat.le_of_ble_eq_true rfl⟩ ⟨Nat.zero_le _, Nat.zero_le _⟩ d_Dbl_add_127 ?_
              refine ws_iconst (v := 3) X d_Dbl_add_130 rfl ?_
              refine ws_lshl X d_Dbl_add_131 ?_
              refine ws_iload (i := 9) X d_Dbl_add_132 rfl ?_
              refine ws_lload (i := 6) X d_Dbl_add_134 rfl ?_
              refine ws_callS1 X (m_Dbl_scaleOf _ _) cs_Dbl_scaleOf ml_Dbl_38 rfl rfl (Nat.le_of_ble_eq_true rfl) ⟨Nat.le_of_ble_eq_true rfl, Nat.le_of_ble_eq_true rfl⟩ ⟨Nat.zero_le _, Nat.zero_le _⟩ d_Dbl_add_136 ?_
              refine ws_isub X d_Dbl_add_139 ?_
              refine ws_callS1 X (m_Dbl_shiftedDown _ _ _) cs_Dbl_shiftedDown ml_Dbl_45 rfl rfl (Nat.le_of_ble_eq_true rfl) ⟨Nat.le_of_ble_eq_true rfl, Nat.le_of_ble_eq_true rfl⟩ ⟨Nat.zero_le _, Nat.zero_le _⟩ d_Dbl_add_140 ?_
              refine ws_lst_12 X rfl d_Dbl_add_143 (by decide) ?_
              refine ws_lload (i := 10) X d_Dbl_add_145 rfl ?_
              refine ws_lload (i := 12) X d_Dbl_add_147 rfl ?_
              refine ws_lcmp_ne X d_Dbl_add_149 d_Dbl_add_150 (fun h149 => ?_) (fun h149 => ?_)
              · refine ws_lload (i := 4) X d_Dbl_add_160 rfl ?_
                refine ws_ldc2 X d_Dbl_add_162 ct_Dbl_19 ?_
                refine ws_land X d_Dbl_add_165 ?_
                refine ws_iload (i := 9) X d_Dbl_add_166 rfl ?_
                refine ws_iload (i := 8) X d_Dbl_add_168 rfl ?_
                refine ws_if_eq X d_Dbl_add_170 (fun h170 => ?_) (fun h170 => ?_)
                · exact absurd h170 (by decide)
                · refine ws_lload (i := 10) X d_Dbl_add_173 rfl ?_
                  refine ws_lload (i := 12) X d_Dbl_add_175 rfl ?_
                  refine ws_ladd X d_Dbl_add_177 ?_
                  refine ws_goto X d_Dbl_add_178 ?_
                  refine ws_callS1 X (m_Dbl_rounded _ _ _ _) cs_Dbl_rounded ml_Dbl_49 rfl rfl (Nat.le_of_ble_eq_true rfl) ⟨Nat.le_of_ble_eq_true rfl, Nat.le_of_ble_eq_true rfl⟩ ⟨Nat.zero_le _, Nat.zero_le _⟩ d_Dbl_add_186 ?_
                  refine ws_lret X d_Dbl_add_189 ?_
                  first | contradiction | exact ⟨by simp [dAdd, dAddX, h4, h11, eq_false h26, eq_true h45, eq_false h60, eq_false h79, eq_false h149, eq_false h170], rfl⟩
              · refine ws_iload (i := 8) X d_Dbl_add_153 rfl ?_
                refine ws_if_ne X d_Dbl_add_155 (fun h155 => ?_) (fun h155 => ?_)
                · refine ws_lload (i := 4) X d_Dbl_add_160 rfl ?_
                  refine ws_ldc2 X d_Dbl_add_162 ct_Dbl_19 ?_
                  refine ws_land X d_Dbl_add_165 ?_
                  refine ws_iload (i := 9) X d_Dbl_add_166 rfl ?_
                  refine ws_iload (i := 8) X d_Dbl_add_168 rfl ?_
                  refine ws_if_eq X d_Dbl_add_170 (fun h170 => ?_) (fun h170 => ?_)
                  · exact absurd h170 (by decide)
                  · refine ws_lload (i := 10) X d_Dbl_add_173 rfl ?_
                    refine ws_lload (i := 12) X d_Dbl_add_175 rfl ?_
                    refine ws_ladd X d_Dbl_add_177 ?_
                    refine ws_goto X d_Dbl_add_178 ?_
                    refine ws_callS1 X (m_Dbl_rounded _ _ _ _) cs_Dbl_rounded ml_Dbl_49 rfl rfl (Nat.le_of_ble_eq_true rfl) ⟨Nat.le_of_ble_eq_true rfl, Nat.le_of_ble_eq_true rfl⟩ ⟨Nat.zero_le _, Nat.zero_le _⟩ d_Dbl_add_186 ?_
                    refine ws_lret X d_Dbl_add_189 ?_
                    first | contradiction | exact ⟨by simp [dAdd, dAddX, h4, h11, eq_false h26, eq_true h45, eq_false h60, eq_false h79, eq_true h149, eq_false h155, eq_false h170], rfl⟩
                · exact absurd h155 (by decide)
            · refine ws_lload (i := 6) X d_Dbl_add_83 rfl ?_
              refine ws_callS1 X (m_Dbl_absolute _ _) cs_Dbl_absolute ml_Dbl_35 rfl rfl (Nat.le_of_ble_eq_true rfl) ⟨Nat.le_of_ble_eq_true rfl, Nat.le_of_ble_eq_true rfl⟩ ⟨Nat.zero_le _, Nat.zero_le _⟩ d_Dbl_add_85 ?_
              refine ws_ldc2 X d_Dbl_add_88 ct_Dbl_17 ?_
              refine ws_lcmp_ne X d_Dbl_add_91 d_Dbl_add_92 (fun h91 => ?_) (fun h91 => ?_)
              · refine ws_lload (i := 4) X d_Dbl_add_106 rfl ?_
                refine ws_lret X d_Dbl_add_108 ?_
                first | contradiction | exact ⟨by simp [dAdd, dAddX, h4, h11, eq_false h26, eq_true h45, eq_false h60, eq_true h79, eq_false h91], rfl⟩
              · refine ws_iload (i := 8) X d_Dbl_add_95 rfl ?_
                refine ws_if_ne X d_Dbl_add_97 (fun h97 => ?_) (fun h97 => ?_)
                · refine ws_lload (i := 4) X d_Dbl_add_106 rfl ?_
                  refine ws_lret X d_Dbl_add_108 ?_
                  first | contradiction | exact ⟨by simp [dAdd, dAddX, h4, h11, eq_false h26, eq_true h45, eq_false h60, eq_true h79, eq_true h91, eq_false h97], rfl⟩
                · exact absurd h97 (by decide)
        · refine ws_lload_n (i := 2) X d_Dbl_add_49 rfl rfl ?_
          refine ws_goto X d_Dbl_add_50 ?_
          refine ws_lst_6 X rfl d_Dbl_add_54 (by decide) ?_
          refine ws_lload_n (i := 0) X d_Dbl_add_56 rfl rfl ?_
          refine ws_lload_n (i := 2) X d_Dbl_add_57 rfl rfl ?_
          refine ws_lxor X d_Dbl_add_58 ?_
          refine ws_lconst (v := 0) X d_Dbl_add_59 rfl ?_
          refine ws_lcmp_lt X d_Dbl_add_60 d_Dbl_add_61 (fun h60 => ?_) (fun h60 => ?_)
          · refine ws_iconst (v := 0) X d_Dbl_add_68 rfl ?_
            refine ws_ist_8 X rfl d_Dbl_add_69 (by decide) ?_
            refine ws_lload (i := 4) X d_Dbl_add_71 rfl ?_
            refine ws_callS1 X (m_Dbl_absolute _ _) cs_Dbl_absolute ml_Dbl_35 rfl rfl (Nat.le_of_ble_eq_true rfl) ⟨Nat.le_of_ble_eq_true rfl, Nat.le_of_ble_eq_true rfl⟩ ⟨Nat.zero_le _, Nat.zero_le _⟩ d_Dbl_add_73 ?_
            refine ws_ldc2 X d_Dbl_add_76 ct_Dbl_17 ?_
            refine ws_lcmp_ne X d_Dbl_add_79 d_Dbl_add_80 (fun h79 => ?_) (fun h79 => ?_)
            · refine ws_lload (i := 4) X d_Dbl_add_109 rfl ?_
              refine ws_callS1 X (m_Dbl_scaleOf _ _) cs_Dbl_scaleOf ml_Dbl_38 rfl rfl (Nat.le_of_ble_eq_true rfl) ⟨Nat.le_of_ble_eq_true rfl, Nat.le_of_ble_eq_true rfl⟩ ⟨Nat.zero_le _, Nat.zero_le _⟩ d_Dbl_add_111 ?_
              refine ws_ist_9 X rfl d_Dbl_add_114 (by decide) ?_
              refine ws_lload (i := 4) X d_Dbl_add_116 rfl ?_
              refine ws_callS1 X (m_Dbl_digitsOf _ _) cs_Dbl_digitsOf ml_Dbl_42 rfl rfl (Nat.le_of_ble_eq_true rfl) ⟨Nat.le_of_ble_eq_true rfl, Nat.le_of_ble_eq_true rfl⟩ ⟨Nat.zero_le _, Nat.zero_le _⟩ d_Dbl_add_118 ?_
              refine ws_iconst (v := 3) X d_Dbl_add_121 rfl ?_
              refine ws_lshl X d_Dbl_add_122 ?_
              refine ws_lst_10 X rfl d_Dbl_add_123 (by decide) ?_
              refine ws_lload (i := 6) X d_Dbl_add_125 rfl ?_
              refine ws_callS1 X (m_Dbl_digitsOf _ _) cs_Dbl_digitsOf ml_Dbl_42 rfl rfl (Nat.le_of_ble_eq_true rfl) ⟨Nat.le_of_ble_eq_true rfl, Nat.le_of_ble_eq_true rfl⟩ ⟨Nat.zero_le _, Nat.zero_le _⟩ d_Dbl_add_127 ?_
              refine ws_iconst (v := 3) X d_Dbl_add_130 rfl ?_
              refine ws_lshl X d_Dbl_add_131 ?_
              refine ws_iload (i := 9) X d_Dbl_add_132 rfl ?_
              refine ws_lload (i := 6) X d_Dbl_add_134 rfl ?_
              refine ws_callS1 X (m_Dbl_scaleOf _ _) cs_Dbl_scaleOf ml_Dbl_38 rfl rfl (Nat.le_of_ble_eq_true rfl) ⟨Nat.le_of_ble_eq_true rfl, Nat.le_of_ble_eq_true rfl⟩ ⟨Nat.zero_le _, Nat.zero_le _⟩ d_Dbl_add_136 ?_
              refine ws_isub X d_Dbl_add_139 ?_
              refine ws_callS1 X (m_Dbl_shiftedDown _ _ _) cs_Dbl_shiftedDown ml_Dbl_45 rfl rfl (Nat.le_of_ble_eq_true rfl) ⟨Nat.le_of_ble_eq_true rfl, Nat.le_of_ble_eq_true rfl⟩ ⟨Nat.zero_le _, Nat.zero_le _⟩ d_Dbl_add_140 ?_
              refine ws_lst_12 X rfl d_Dbl_add_143 (by decide) ?_
              refine ws_lload (i := 10) X d_Dbl_add_145 rfl ?_
              refine ws_lload (i := 12) X d_Dbl_add_147 rfl ?_
              refine ws_lcmp_ne X d_Dbl_add_149 d_Dbl_add_150 (fun h149 => ?_) (fun h149 => ?_)
              · refine ws_lload (i := 4) X d_Dbl_add_160 rfl ?_
                refine ws_ldc2 X d_Dbl_add_162 ct_Dbl_19 ?_
                refine ws_land X d_Dbl_add_165 ?_
                refine ws_iload (i := 9) X d_Dbl_add_166 rfl ?_
                refine ws_iload (i := 8) X d_Dbl_add_168 rfl ?_
                refine ws_if_eq X d_Dbl_add_170 (fun h170 => ?_) (fun h170 => ?_)
                · refine ws_lload (i := 10) X d_Dbl_add_181 rfl ?_
                  refine ws_lload (i := 12) X d_Dbl_add_183 rfl ?_
                  refine ws_lsub X d_Dbl_add_185 ?_
                  refine ws_callS1 X (m_Dbl_rounded _ _ _ _) cs_Dbl_rounded ml_Dbl_49 rfl rfl (Nat.le_of_ble_eq_true rfl) ⟨Nat.le_of_ble_eq_true rfl, Nat.le_of_ble_eq_true rfl⟩ ⟨Nat.zero_le _, Nat.zero_le _⟩ d_Dbl_add_186 ?_
                  refine ws_lret X d_Dbl_add_189 ?_
                  first | contradiction | exact ⟨by simp [dAdd, dAddX, h4, h11, eq_false h26, eq_false h45, eq_true h60, eq_false h79, eq_false h149, eq_true h170], rfl⟩
                · exact absurd h170 (by decide)
              · refine ws_iload (i := 8) X d_Dbl_add_153 rfl ?_
                refine ws_if_ne X d_Dbl_add_155 (fun h155 => ?_) (fun h155 => ?_)
                · exact absurd h155 (by decide)
                · refine ws_lconst (v := 0) X d_Dbl_add_158 rfl ?_
                  refine ws_lret X d_Dbl_add_159 ?_
                  first | contradiction | exact ⟨by simp [dAdd, dAddX, h4, h11, eq_false h26, eq_false h45, eq_true h60, eq_false h79, eq_true h149, eq_true h155], rfl⟩
            · refine ws_lload (i := 6) X d_Dbl_add_83 rfl ?_
              refine ws_callS1 X (m_Dbl_absolute _ _) cs_Dbl_absolute ml_Dbl_35 rfl rfl (Nat.le_of_ble_eq_true rfl) ⟨Nat.le_of_ble_eq_true rfl, Nat.le_of_ble_eq_true rfl⟩ ⟨Nat.zero_le _, Nat.zero_le _⟩ d_Dbl_add_85 ?_
              refine ws_ldc2 X d_Dbl_add_88 ct_Dbl_17 ?_
              refine ws_lcmp_ne X d_Dbl_add_91 d_Dbl_add_92 (fun h91 => ?_) (fun h91 => ?_)
              · refine ws_lload (i := 4) X d_Dbl_add_106 rfl ?_
                refine ws_lret X d_Dbl_add_108 ?_
                first | contradiction | exact ⟨by simp [dAdd, dAddX, h4, h11, eq_false h26, eq_false h45, eq_true h60, eq_true h79, eq_false h91], rfl⟩
              · refine ws_iload (i := 8) X d_Dbl_add_95 rfl ?_
                refine ws_if_ne X d_Dbl_add_97 (fun h97 => ?_) (fun h97 => ?_)
                · exact absurd h97 (by decide)
                · refine ws_ldc2 X d_Dbl_add_100 ct_Dbl_13 ?_
                  refine ws_goto X d_Dbl_add_103 ?_
                  refine ws_lret X d_Dbl_add_108 ?_
                  first | contradiction | exact ⟨by simp [dAdd, dAddX, h4, h11, eq_false h26, eq_false h45, eq_true h60, eq_true h79, eq_true h91, eq_true h97], rfl⟩
          · refine ws_iconst (v := 1) X d_Dbl_add_64 rfl ?_
            refine ws_goto X d_Dbl_add_65 ?_
            refine ws_ist_8 X rfl d_Dbl_add_69 (by decide) ?_
            refine ws_lload (i := 4) X d_Dbl_add_71 rfl ?_
            refine ws_callS1 X (m_Dbl_absolute _ _) cs_Dbl_absolute ml_Dbl_35 rfl rfl (Nat.le_of_ble_eq_true rfl) ⟨Nat.le_of_ble_eq_true rfl, Nat.le_of_ble_eq_true rfl⟩ ⟨Nat.zero_le _, Nat.zero_le _⟩ d_Dbl_add_73 ?_
            refine ws_ldc2 X d_Dbl_add_76 ct_Dbl_17 ?_
            refine ws_lcmp_ne X d_Dbl_add_79 d_Dbl_add_80 (fun h79 => ?_) (fun h79 => ?_)
            · refine ws_lload (i := 4) X d_Dbl_add_109 rfl ?_
              refine ws_callS1 X (m_Dbl_scaleOf _ _) cs_Dbl_scaleOf ml_Dbl_38 rfl rfl (Nat.le_of_ble_eq_true rfl) ⟨Nat.le_of_ble_eq_true rfl, Nat.le_of_ble_eq_true rfl⟩ ⟨Nat.zero_le _, Nat.zero_le _⟩ d_Dbl_add_111 ?_
              refine ws_ist_9 X rfl d_Dbl_add_114 (by decide) ?_
              refine ws_lload (i := 4) X d_Dbl_add_116 rfl ?_
              refine ws_callS1 X (m_Dbl_digitsOf _ _) cs_Dbl_digitsOf ml_Dbl_42 rfl rfl (Nat.le_of_ble_eq_true rfl) ⟨Nat.le_of_ble_eq_true rfl, Nat.le_of_ble_eq_true rfl⟩ ⟨Nat.zero_le _, Nat.zero_le _⟩ d_Dbl_add_118 ?_
              refine ws_iconst (v := 3) X d_Dbl_add_121 rfl ?_
              refine ws_lshl X d_Dbl_add_122 ?_
              refine ws_lst_10 X rfl d_Dbl_add_123 (by decide) ?_
              refine ws_lload (i := 6) X d_Dbl_add_125 rfl ?_
              refine ws_callS1 X (m_Dbl_digitsOf _ _) cs_Dbl_digitsOf ml_Dbl_42 rfl rfl (Nat.le_of_ble_eq_true rfl) ⟨Nat.le_of_ble_eq_true rfl, Nat.le_of_ble_eq_true rfl⟩ ⟨Nat.zero_le _, Nat.zero_le _⟩ d_Dbl_add_127 ?_
              refine ws_iconst (v := 3) X d_Dbl_add_130 rfl ?_
              refine ws_lshl X d_Dbl_add_131 ?_
              refine ws_iload (i := 9) X d_Dbl_add_132 rfl ?_
              refine ws_lload (i := 6) X d_Dbl_add_134 rfl ?_
              refine ws_callS1 X (m_Dbl_scaleOf _ _) cs_Dbl_scaleOf ml_Dbl_38 rfl rfl (Nat.le_of_ble_eq_true rfl) ⟨Nat.le_of_ble_eq_true rfl, Nat.le_of_ble_eq_true rfl⟩ ⟨Nat.zero_le _, Nat.zero_le _⟩ d_Dbl_add_136 ?_
              refine ws_isub X d_Dbl_add_139 ?_
              refine ws_callS1 X (m_Dbl_shiftedDown _ _ _) cs_Dbl_shiftedDown ml_Dbl_45 rfl rfl (Nat.le_of_ble_eq_true rfl) ⟨Nat.le_of_ble_eq_true rfl, Nat.le_of_ble_eq_true rfl⟩ ⟨Nat.zero_le _, Nat.zero_le _⟩ d_Dbl_add_140 ?_
              refine ws_lst_12 X rfl d_Dbl_add_143 (by decide) ?_
              refine ws_lload (i := 10) X d_Dbl_add_145 rfl ?_
              refine ws_lload (i := 12) X d_Dbl_add_147 rfl ?_
              refine ws_lcmp_ne X d_Dbl_add_149 d_Dbl_add_150 (fun h149 => ?_) (fun h149 => ?_)
              · refine ws_lload (i := 4) X d_Dbl_add_160 rfl ?_
                refine ws_ldc2 X d_Dbl_add_162 ct_Dbl_19 ?_
                refine ws_land X d_Dbl_add_165 ?_
                refine ws_iload (i := 9) X d_Dbl_add_166 rfl ?_
                refine ws_iload (i := 8) X d_Dbl_add_168 rfl ?_
                refine ws_if_eq X d_Dbl_add_170 (fun h170 => ?_) (fun h170 => ?_)
                · exact absurd h170 (by decide)
                · refine ws_lload (i := 10) X d_Dbl_add_173 rfl ?_
                  refine ws_lload (i := 12) X d_Dbl_add_175 rfl ?_
                  refine ws_ladd X d_Dbl_add_177 ?_
                  refine ws_goto X d_Dbl_add_178 ?_
                  refine ws_callS1 X (m_Dbl_rounded _ _ _ _) cs_Dbl_rounded ml_Dbl_49 rfl rfl (Nat.le_of_ble_eq_true rfl) ⟨Nat.le_of_ble_eq_true rfl, Nat.le_of_ble_eq_true rfl⟩ ⟨Nat.zero_le _, Nat.zero_le _⟩ d_Dbl_add_186 ?_
                  refine ws_lret X d_Dbl_add_189 ?_
                  first | contradiction | exact ⟨by simp [dAdd, dAddX, h4, h11, eq_false h26, eq_false h45, eq_false h60, eq_false h79, eq_false h149, eq_false h170], rfl⟩
              · refine ws_iload (i := 8) X d_Dbl_add_153 rfl ?_
                refine ws_if_ne X d_Dbl_add_155 (fun h155 => ?_) (fun h155 => ?_)
                · refine ws_lload (i := 4) X d_Dbl_add_160 rfl ?_
                  refine ws_ldc2 X d_Dbl_add_162 ct_Dbl_19 ?_
                  refine ws_land X d_Dbl_add_165 ?_
                  refine ws_iload (i := 9) X d_Dbl_add_166 rfl ?_
                  refine ws_iload (i := 8) X d_Dbl_add_168 rfl ?_
                  refine ws_if_eq X d_Dbl_add_170 (fun h170 => ?_) (fun h170 => ?_)
                  · exact absurd h170 (by decide)
                  · refine ws_lload (i := 10) X d_Dbl_add_173 rfl ?_
                    refine ws_lload (i := 12) X d_Dbl_add_175 rfl ?_
                    refine ws_ladd X d_Dbl_add_177 ?_
                    refine ws_goto X d_Dbl_add_178 ?_
                    refine ws_callS1 X (m_Dbl_rounded _ _ _ _) cs_Dbl_rounded ml_Dbl_49 rfl rfl (Nat.le_of_ble_eq_true rfl) ⟨Nat.le_of_ble_eq_true rfl, Nat.le_of_ble_eq_true rfl⟩ ⟨Nat.zero_le _, Nat.zero_le _⟩ d_Dbl_add_186 ?_
                    refine ws_lret X d_Dbl_add_189 ?_
                    first | contradiction | exact ⟨by simp [dAdd, dAddX, h4, h11, eq_false h26, eq_false h45, eq_false h60, eq_false h79, eq_true h149, eq_false h155, eq_false h170], rfl⟩
                · exact absurd h155 (by decide)
            · refine ws_lload (i := 6) X d_Dbl_add_83 rfl ?_
              refine ws_callS1 X (m_Dbl_absolute _ _) cs_Dbl_absolute ml_Dbl_35 rfl rfl (Nat.le_of_ble_eq_true rfl) ⟨Nat.le_of_ble_eq_true rfl, Nat.le_of_ble_eq_true rfl⟩ ⟨Nat.zero_le _, Nat.zero_le _⟩ d_Dbl_add_85 ?_
              refine ws_ldc2 X d_Dbl_add_88 ct_Dbl_17 ?_
              refine ws_lcmp_ne X d_Dbl_add_91 d_Dbl_add_92 (fun h91 => ?_) (fun h91 => ?_)
              · refine ws_lload (i := 4) X d_Dbl_add_106 rfl ?_
                refine ws_lret X d_Dbl_add_108 ?_
                first | contradiction | exact ⟨by simp [dAdd, dAddX, h4, h11, eq_false h26, eq_false h45, eq_false h60, eq_true h79, eq_false h91], rfl⟩
              · refine ws_iload (i := 8) X d_Dbl_add_95 rfl ?_
                refine ws_if_ne X d_Dbl_add_97 (fun h97 => ?_) (fun h97 => ?_)
                · refine ws_lload (i := 4) X d_Dbl_add_106 rfl ?_
                  refine ws_lret X d_Dbl_add_108 ?_
                  first | contradiction | exact ⟨by simp [dAdd, dAddX, h4, h11, eq_false h26, eq_false h45, eq_false h60, eq_true h79, eq_true h91, eq_false h97], rfl⟩
                · exact absurd h97 (by decide)
    · refine ws_ldc2 X d_Dbl_add_14 ct_Dbl_13 ?_
      refine ws_lret X d_Dbl_add_17 ?_
      first | contradiction | exact ⟨by simp [dAdd, dAddX, h4, h11], rfl⟩

def dProd (x y : Int64) : Int64 :=
  shl64 (ushr64 x 26 * ushr64 y 26 + ushr64 (ushr64 x 26 * (y &&& 67108863) + (x &&& 67108863) * ushr64 y 26) 26 + ushr64 ((x &&& 67108863) * (y &&& 67108863) + shl64 ((ushr64 x 26 * (y &&& 67108863) + (x &&& 67108863) * ushr64 y 26) &&& 67108863) 26) 52) 3 ||| dShift (((x &&& 67108863) * (y &&& 67108863) + shl64 ((ushr64 x 26 * (y &&& 67108863) + (x &&& 67108863) * ushr64 y 26) &&& 67108863) 26) &&& 4503599627370495) 49
theorem m_Dbl_productAbove49 (S : MS) (x y : Int64) : MetE y_Dbl_productAbove49 c_Dbl_productAbove49 12 ((some .long)) 1 24 [.inl (.long x), .inl (.long y)] S (some (.inl (.long (dProd x y)))) (S) := by
  refine MetS.of (lv0 := [some (.inl (.long x)), none, some (.inl (.long y)), none, none, none, none, none, none, none, none, none]) pn_Dbl rfl (Nat.le_of_ble_eq_true rfl) (fun p l e0 s m0 args below meth c0 G X => ?_)
  refine ws_ldc2 X d_Dbl_productAbove49_0 ct_Dbl_60 ?_
  refine ws_lst_4 X rfl d_Dbl_productAbove49_3 (by decide) ?_
  refine ws_lload_n (i := 0) X d_Dbl_productAbove49_5 rfl rfl ?_
  refine ws_bipush (v := 26) X d_Dbl_productAbove49_6 rfl ?_
  refine ws_lushr X d_Dbl_productAbove49_8 ?_
  refine ws_lload_n (i := 2) X d_Dbl_productAbove49_9 rfl rfl ?_
  refine ws_lload (i := 4) X d_Dbl_productAbove49_10 rfl ?_
  refine ws_land X d_Dbl_productAbove49_12 ?_
  refine ws_lmul X d_Dbl_productAbove49_13 ?_
  refine ws_lload_n (i := 0) X d_Dbl_productAbove49_14 rfl rfl ?_
  refine ws_lload (i := 4) X d_Dbl_productAbove49_15 rfl ?_
  refine ws_land X d_Dbl_productAbove49_17 ?_
  refine ws_lload_n (i := 2) X d_Dbl_productAbove49_18 rfl rfl ?_
  refine ws_bipush (v := 26) X d_Dbl_productAbove49_19 rfl ?_
  refine ws_lushr X d_Dbl_productAbove49_21 ?_
  refine ws_lmul X d_Dbl_productAbove49_22 ?_
  refine ws_ladd X d_Dbl_productAbove49_23 ?_
  refine ws_lst_6 X rfl d_Dbl_productAbove49_24 (by decide) ?_
  refine ws_lload_n (i := 0) X d_Dbl_productAbove49_26 rfl rfl ?_
  refine ws_lload (i := 4) X d_Dbl_productAbove49_27 rfl ?_
  refine ws_land X d_Dbl_productAbove49_29 ?_
  refine ws_lload_n (i := 2) X d_Dbl_productAbove49_30 rfl rfl ?_
  refine ws_lload (i := 4) X d_Dbl_productAbove49_31 rfl ?_
  refine ws_land X d_Dbl_productAbove49_33 ?_
  refine ws_lmul X d_Dbl_productAbove49_34 ?_
  refine ws_lload (i := 6) X d_Dbl_productAbove49_35 rfl ?_
  refine ws_lload (i := 4) X d_Dbl_productAbove49_37 rfl ?_
  refine ws_land X d_Dbl_productAbove49_39 ?_
  refine ws_bipush (v := 26) X d_Dbl_productAbove49_40 rfl ?_
  refine ws_lshl X d_Dbl_productAbove49_42 ?_
  refine ws_ladd X d_Dbl_productAbove49_43 ?_
  refine ws_lst_8 X rfl d_Dbl_productAbove49_44 (by decide) ?_
  refine ws_lload_n (i := 0) X d_Dbl_productAbove49_46 rfl rfl ?_
  refine ws_bipush (v := 26) X d_Dbl_productAbove49_47 rfl ?_
  refine ws_lushr X d_Dbl_productAbove49_49 ?_
  refine ws_lload_n (i := 2) X d_Dbl_productAbove49_50 rfl rfl ?_
  refine ws_bipush (v := 26) X d_Dbl_productAbove49_51 rfl ?_
  refine ws_lushr X d_Dbl_productAbove49_53 ?_
  refine ws_lmul X d_Dbl_productAbove49_54 ?_
  refine ws_lload (i := 6) X d_Dbl_productAbove49_55 rfl ?_
  refine ws_bipush (v := 26) X d_Dbl_productAbove49_57 rfl ?_
  refine ws_lushr X d_Dbl_productAbove49_59 ?_
  refine ws_ladd X d_Dbl_productAbove49_60 ?_
  refine ws_lload (i := 8) X d_Dbl_productAbove49_61 rfl ?_
  refine ws_bipush (v := 52) X d_Dbl_productAbove49_63 rfl ?_
  refine ws_lushr X d_Dbl_productAbove49_65 ?_
  refine ws_ladd X d_Dbl_productAbove49_66 ?_
  refine ws_lst_10 X rfl d_Dbl_productAbove49_67 (by decide) ?_
  refine ws_lload (i := 10) X d_Dbl_productAbove49_69 rfl ?_
  refine ws_iconst (v := 3) X d_Dbl_productAbove49_71 rfl ?_
  refine ws_lshl X d_Dbl_productAbove49_72 ?_
  refine ws_lload (i := 8) X d_Dbl_productAbove49_73 rfl ?_
  refine ws_ldc2 X d_Dbl_productAbove49_75 ct_Dbl_31 ?_
  refine ws_land X d_Dbl_productAbove49_78 ?_
  refine ws_bipush (v := 49) X d_Dbl_productAbove49_79 rfl ?_
  refine ws_callS1 X (m_Dbl_shiftedDown _ _ _) cs_Dbl_shiftedDown ml_Dbl_45 rfl rfl (Nat.le_of_ble_eq_true rfl) ⟨Nat.le_of_ble_eq_true rfl, Nat.le_of_ble_eq_true rfl⟩ ⟨Nat.zero_le _, Nat.zero_le _⟩ d_Dbl_productAbove49_81 ?_
  refine ws_lor X d_Dbl_productAbove49_84 ?_
  refine ws_lret X d_Dbl_productAbove49_85 ?_
  exact ⟨rfl, rfl⟩

def dUp (x : Int64) : Int64 := shl64 (dDig x) (dLz (dDig x) - 11)
def dMulX (s x y : Int64) : Int64 := if ¬ 9218868437227405312 < x then (if y ≤ 9218868437227405312 then (if x = 9218868437227405312 ∨ y = 9218868437227405312 then (if x = 0 ∨ y = 0 then 9221120237041090560 else s ||| 9218868437227405312) else if x = 0 ∨ y = 0 then s else dRound s (dScale x - (dLz (dDig x) - 11) + dScale y - (dLz (dDig y) - 11) - 1075 + 49 + 3) (dProd (dUp x) (dUp y))) else 9221120237041090560) else 9221120237041090560
def dMul (a b : Int64) : Int64 := dMulX ((a ^^^ b) &&& (-9223372036854775808)) (dAbs a) (dAbs b)
theorem m_Dbl_multiply (S : MS) (a b : Int64) : MetE y_Dbl_multiply c_Dbl_multiply 14 ((some .long)) 2 57 [.inl (.long a), .inl (.long b)] S (some (.inl (.long (dMul a b)))) (S) := by
  refine MetS.of (lv0 := [some (.inl (.long a)), none, some (.inl (.long b)), none, none, none, none, none, none, none, none, none, none, none]) pn_Dbl rfl (Nat.le_of_ble_eq_true rfl) (fun p l e0 s m0 args below meth c0 G X => ?_)
  refine ws_lload_n (i := 0) X d_Dbl_multiply_0 rfl rfl ?_
  refine ws_lload_n (i := 2) X d_Dbl_multiply_1 rfl rfl ?_
  refine ws_lxor X d_Dbl_multiply_2 ?_
  refine ws_ldc2 X d_Dbl_multiply_3 ct_Dbl_19 ?_
  refine ws_land X d_Dbl_multiply_6 ?_
  refine ws_lst_4 X rfl d_Dbl_multiply_7 (by decide) ?_
  refine ws_lload_n (i := 0) X d_Dbl_multiply_9 rfl rfl ?_
  refine ws_callS1 X (m_Dbl_absolute _ _) cs_Dbl_absolute ml_Dbl_35 rfl rfl (Nat.le_of_ble_eq_true rfl) ⟨Nat.le_of_ble_eq_true rfl, Nat.le_of_ble_eq_true rfl⟩ ⟨Nat.zero_le _, Nat.zero_le _⟩ d_Dbl_multiply_10 ?_
  refine ws_lst_6 X rfl d_Dbl_multiply_13 (by decide) ?_
  refine ws_lload_n (i := 2) X d_Dbl_multiply_15 rfl rfl ?_
  refine ws_callS1 X (m_Dbl_absolute _ _) cs_Dbl_absolute ml_Dbl_35 rfl rfl (Nat.le_of_ble_eq_true rfl) ⟨Nat.le_of_ble_eq_true rfl, Nat.le_of_ble_eq_true rfl⟩ ⟨Nat.zero_le _, Nat.zero_le _⟩ d_Dbl_multiply_16 ?_
  refine ws_lst_8 X rfl d_Dbl_multiply_19 (by decide) ?_
  refine ws_lload (i := 6) X d_Dbl_multiply_21 rfl ?_
  refine ws_ldc2 X d_Dbl_multiply_23 ct_Dbl_17 ?_
  refine ws_lcmp_gt X d_Dbl_multiply_26 d_Dbl_multiply_27 (fun h26 => ?_) (fun h26 => ?_)
  · refine ws_ldc2 X d_Dbl_multiply_39 ct_Dbl_13 ?_
    refine ws_lret X d_Dbl_multiply_42 ?_
    exact ⟨by simp [dMul, dMulX, dUp, eq_true h26], rfl⟩
  · refine ws_lload (i := 8) X d_Dbl_multiply_30 rfl ?_
    refine ws_ldc2 X d_Dbl_multiply_32 ct_Dbl_17 ?_
    refine ws_lcmp_le X d_Dbl_multiply_35 d_Dbl_multiply_36 (fun h35 => ?_) (fun h35 => ?_)
    · refine ws_lload (i := 6) X d_Dbl_multiply_43 rfl ?_
      refine ws_ldc2 X d_Dbl_multiply_45 ct_Dbl_17 ?_
      refine ws_lcmp_eq X d_Dbl_multiply_48 d_Dbl_multiply_49 (fun h48 => ?_) (fun h48 => ?_)
      · refine ws_lload (i := 6) X d_Dbl_multiply_61 rfl ?_
        refine ws_lconst (v := 0) X d_Dbl_multiply_63 rfl ?_
        refine ws_lcmp_eq X d_Dbl_multiply_64 d_Dbl_multiply_65 (fun h64 => ?_) (fun h64 => ?_)
        · refine ws_ldc2 X d_Dbl_multiply_75 ct_Dbl_13 ?_
          refine ws_goto X d_Dbl_multiply_78 ?_
          refine ws_lret X d_Dbl_multiply_87 ?_
          exact ⟨by simp [dMul, dMulX, dUp, eq_false h26, eq_true h35, eq_true h48, eq_true h64], rfl⟩
        · refine ws_lload (i := 8) X d_Dbl_multiply_68 rfl ?_
          refine ws_lconst (v := 0) X d_Dbl_multiply_70 rfl ?_
          refine ws_lcmp_ne X d_Dbl_multiply_71 d_Dbl_multiply_72 (fun h71 => ?_) (fun h71 => ?_)
          · refine ws_lload (i := 4) X d_Dbl_multiply_81 rfl ?_
            refine ws_ldc2 X d_Dbl_multiply_83 ct_Dbl_17 ?_
            refine ws_lor X d_Dbl_multiply_86 ?_
            refine ws_lret X d_Dbl_multiply_87 ?_
            exact ⟨by simp [dMul, dMulX, dUp, eq_false h26, eq_true h35, eq_true h48, eq_false h64, eq_false h71], rfl⟩
          · refine ws_ldc2 X d_Dbl_multiply_75 ct_Dbl_13 ?_
            refine ws_goto X d_Dbl_multiply_78 ?_
            refine ws_lret X d_Dbl_multiply_87 ?_
            exact ⟨by simp [dMul, dMulX, dUp, eq_false h26, eq_true h35, eq_true h48, eq_false h64, eq_true h71], rfl⟩
      · refine ws_lload (i := 8) X d_Dbl_multiply_52 rfl ?_
        refine ws_ldc2 X d_Dbl_multiply_54 ct_Dbl_17 ?_
        refine ws_lcmp_ne X d_Dbl_multiply_57 d_Dbl_multiply_58 (fun h57 => ?_) (fun h57 => ?_)
        · refine ws_lload (i := 6) X d_Dbl_multiply_88 rfl ?_
          refine ws_lconst (v := 0) X d_Dbl_multiply_90 rfl ?_
          refine ws_lcmp_eq X d_Dbl_multiply_91 d_Dbl_multiply_92 (fun h91 => ?_) (fun h91 => ?_)
          · refine ws_lload (i := 4) X d_Dbl_multiply_102 rfl ?_
            refine ws_lret X d_Dbl_multiply_104 ?_
            exact ⟨by simp [dMul, dMulX, dUp, eq_false h26, eq_true h35, eq_false h48, eq_false h57, eq_true h91], rfl⟩
          · refine ws_lload (i := 8) X d_Dbl_multiply_95 rfl ?_
            refine ws_lconst (v := 0) X d_Dbl_multiply_97 rfl ?_
            refine ws_lcmp_ne X d_Dbl_multiply_98 d_Dbl_multiply_99 (fun h98 => ?_) (fun h98 => ?_)
            · refine ws_lload (i := 6) X d_Dbl_multiply_105 rfl ?_
              refine ws_callS1 X (m_Dbl_digitsOf _ _) cs_Dbl_digitsOf ml_Dbl_42 rfl rfl (Nat.le_of_ble_eq_true rfl) ⟨Nat.le_of_ble_eq_true rfl, Nat.le_of_ble_eq_true rfl⟩ ⟨Nat.zero_le _, Nat.zero_le _⟩ d_Dbl_multiply_107 ?_
              refine ws_callS1 X (m_Dbl_leadingZeros _ _) cs_Dbl_leadingZeros ml_Dbl_53 rfl rfl (Nat.le_of_ble_eq_true rfl) ⟨Nat.le_of_ble_eq_true rfl, Nat.le_of_ble_eq_true rfl⟩ ⟨Nat.zero_le _, Nat.zero_le _⟩ d_Dbl_multiply_110 ?_
              refine ws_bipush (v := 11) X d_Dbl_multiply_113 rfl ?_
              refine ws_isub X d_Dbl_multiply_115 ?_
              refine ws_ist_10 X rfl d_Dbl_multiply_116 (by decide) ?_
              refine ws_lload (i := 8) X d_Dbl_multiply_118 rfl ?_
              refine ws_callS1 X (m_Dbl_digitsOf _ _) cs_Dbl_digitsOf ml_Dbl_42 rfl rfl (Nat.le_of_ble_eq_true rfl) ⟨Nat.le_of_ble_eq_true rfl, Nat.le_of_ble_eq_true rfl⟩ ⟨Nat.zero_le _, Nat.zero_le _⟩ d_Dbl_multiply_120 ?_
              refine ws_callS1 X (m_Dbl_leadingZeros _ _) cs_Dbl_leadingZeros ml_Dbl_53 rfl rfl (Nat.le_of_ble_eq_true rfl) ⟨Nat.le_of_ble_eq_true rfl, Nat.le_of_ble_eq_true rfl⟩ ⟨Nat.zero_le _, Nat.zero_le _⟩ d_Dbl_multiply_123 ?_
              refine ws_bipush (v := 11) X d_Dbl_multiply_126 rfl ?_
              refine ws_isub X d_Dbl_multiply_128 ?_
              refine ws_ist_11 X rfl d_Dbl_multiply_129 (by decide) ?_
              refine ws_lload (i := 6) X d_Dbl_multiply_131 rfl ?_
              refine ws_callS1 X (m_Dbl_digitsOf _ _) cs_Dbl_digitsOf ml_Dbl_42 rfl rfl (Nat.le_of_ble_eq_true rfl) ⟨Nat.le_of_ble_eq_true rfl, Nat.le_of_ble_eq_true rfl⟩ ⟨Nat.zero_le _, Nat.zero_le _⟩ d_Dbl_multiply_133 ?_
              refine ws_iload (i := 10) X d_Dbl_multiply_136 rfl ?_
              refine ws_lshl X d_Dbl_multiply_138 ?_
              refine ws_lload (i := 8) X d_Dbl_multiply_139 rfl ?_
              refine ws_callS1 X (m_Dbl_digitsOf _ _) cs_Dbl_digitsOf ml_Dbl_42 rfl rfl (Nat.le_of_ble_eq_true rfl) ⟨Nat.le_of_ble_eq_true rfl, Nat.le_of_ble_eq_true rfl⟩ ⟨Nat.zero_le _, Nat.zero_le _⟩ d_Dbl_multiply_141 ?_
              refine ws_iload (i := 11) X d_Dbl_multiply_144 rfl ?_
              refine ws_lshl X d_Dbl_multiply_146 ?_
              refine ws_callS1 X (m_Dbl_productAbove49 _ _ _) cs_Dbl_productAbove49 ml_Dbl_56 rfl rfl (Nat.le_of_ble_eq_true rfl) ⟨Nat.le_of_ble_eq_true rfl, Nat.le_of_ble_eq_true rfl⟩ ⟨Nat.zero_le _, Nat.zero_le _⟩ d_Dbl_multiply_147 ?_
              refine ws_lst_12 X rfl d_Dbl_multiply_150 (by decide) ?_
              refine ws_lload (i := 4) X d_Dbl_multiply_152 rfl ?_
              refine ws_lload (i := 6) X d_Dbl_multiply_154 rfl ?_
              refine ws_callS1 X (m_Dbl_scaleOf _ _) cs_Dbl_scaleOf ml_Dbl_38 rfl rfl (Nat.le_of_ble_eq_true rfl) ⟨Nat.le_of_ble_eq_true rfl, Nat.le_of_ble_eq_true rfl⟩ ⟨Nat.zero_le _, Nat.zero_le _⟩ d_Dbl_multiply_156 ?_
              refine ws_iload (i := 10) X d_Dbl_multiply_159 rfl ?_
              refine ws_isub X d_Dbl_multiply_161 ?_
              refine ws_lload (i := 8) X d_Dbl_multiply_162 rfl ?_
              refine ws_callS1 X (m_Dbl_scaleOf _ _) cs_Dbl_scaleOf ml_Dbl_38 rfl rfl (Nat.le_of_ble_eq_true rfl) ⟨Nat.le_of_ble_eq_true rfl, Nat.le_of_ble_eq_true rfl⟩ ⟨Nat.zero_le _, Nat.zero_le _⟩ d_Dbl_multiply_164 ?_
              refine ws_iadd X d_Dbl_multiply_167 ?_
              refine ws_iload (i := 11) X d_Dbl_multiply_168 rfl ?_
              refine ws_isub X d_Dbl_multiply_170 ?_
              refine ws_sipush (v := 1075) X d_Dbl_multiply_171 rfl ?_
              refine ws_isub X d_Dbl_multiply_174 ?_
              refine ws_bipush (v := 49) X d_Dbl_multiply_175 rfl ?_
              refine ws_iadd X d_Dbl_multiply_177 ?_
              refine ws_iconst (v := 3) X d_Dbl_multiply_178 rfl ?_
              refine ws_iadd X d_Dbl_multiply_179 ?_
              refine ws_lload (i := 12) X d_Dbl_multiply_180 rfl ?_
              refine ws_callS1 X (m_Dbl_rounded _ _ _ _) cs_Dbl_rounded ml_Dbl_49 rfl rfl (Nat.le_of_ble_eq_true rfl) ⟨Nat.le_of_ble_eq_true rfl, Nat.le_of_ble_eq_true rfl⟩ ⟨Nat.zero_le _, Nat.zero_le _⟩ d_Dbl_multiply_182 ?_
              refine ws_lret X d_Dbl_multiply_185 ?_
              exact ⟨by simp [dMul, dMulX, dUp, eq_false h26, eq_true h35, eq_false h48, eq_false h57, eq_false h91, eq_false h98], rfl⟩
            · refine ws_lload (i := 4) X d_Dbl_multiply_102 rfl ?_
              refine ws_lret X d_Dbl_multiply_104 ?_
              exact ⟨by simp [dMul, dMulX, dUp, eq_false h26, eq_true h35, eq_false h48, eq_false h57, eq_false h91, eq_true h98], rfl⟩
        · refine ws_lload (i := 6) X d_Dbl_multiply_61 rfl ?_
          refine ws_lconst (v := 0) X d_Dbl_multiply_63 rfl ?_
          refine ws_lcmp_eq X d_Dbl_multiply_64 d_Dbl_multiply_65 (fun h64 => ?_) (fun h64 => ?_)
          · refine ws_ldc2 X d_Dbl_multiply_75 ct_Dbl_13 ?_
            refine ws_goto X d_Dbl_multiply_78 ?_
            refine ws_lret X d_Dbl_multiply_87 ?_
            exact ⟨by simp [dMul, dMulX, dUp, eq_false h26, eq_true h35, eq_false h48, eq_true h57, eq_true h64], rfl⟩
          · refine ws_lload (i := 8) X d_Dbl_multiply_68 rfl ?_
            refine ws_lconst (v := 0) X d_Dbl_multiply_70 rfl ?_
            refine ws_lcmp_ne X d_Dbl_multiply_71 d_Dbl_multiply_72 (fun h71 => ?_) (fun h71 => ?_)
            · refine ws_lload (i := 4) X d_Dbl_multiply_81 rfl ?_
              refine ws_ldc2 X d_Dbl_multiply_83 ct_Dbl_17 ?_
              refine ws_lor X d_Dbl_multiply_86 ?_
              refine ws_lret X d_Dbl_multiply_87 ?_
              exact ⟨by simp [dMul, dMulX, dUp, eq_false h26, eq_true h35, eq_false h48, eq_true h57, eq_false h64, eq_false h71], rfl⟩
            · refine ws_ldc2 X d_Dbl_multiply_75 ct_Dbl_13 ?_
              refine ws_goto X d_Dbl_multiply_78 ?_
              refine ws_lret X d_Dbl_multiply_87 ?_
              exact ⟨by simp [dMul, dMulX, dUp, eq_false h26, eq_true h35, eq_false h48, eq_true h57, eq_false h64, eq_true h71], rfl⟩
    · refine ws_ldc2 X d_Dbl_multiply_39 ct_Dbl_13 ?_
      refine ws_lret X d_Dbl_multiply_42 ?_
      exact ⟨by simp [dMul, dMulX, dUp, eq_false h26, eq_false h35], rfl⟩

def qGo : Nat → Int64 → Int64 → Int64 → Int64 × Int64
  | 0, _, q, r => (q, r)
  | n + 1, y, q, r => qGo n y (shl64 q 10 ||| shl64 r 10 / y) (shl64 r 10 - shl64 r 10 / y * y)
def dQuo (x y : Int64) : Int64 := if y = 0 then 0 else if (qGo 6 y (x / y) (x - x / y * y)).2 = 0 then (qGo 6 y (x / y) (x - x / y * y)).1 else (qGo 6 y (x / y) (x - x / y * y)).1 ||| 1
section QU
variable {p : Program} {l : Launch} {e0 : Env} {s : State} {m0 : MethodId} {args : Array Value} {below : List Frame} {meth : Method} {c0 : Code} {G : GG} {A : Nat → Prop} {Q : State → Prop}
theorem l_quo (X : CX p s m0 args meth c0 G A c_Dbl_quotientWith60 y_Dbl_quotientWith60.cls 9 ((some .long))) {S : MS} {a0 a1 : Option MV} {y : Int64} (hy : ¬ y = 0) : ∀ (n : Nat) (q r : Int64), n ≤ 6 → (∀ i : Int32, WS p l e0 (rmS 0 0) s m0 args below meth c0 G A 9 0 0 Q 58 [a0, a1, some (.inl (.long y)), none, some (.inl (.long (qGo n y q r).1)), none, some (.inl (.long (qGo n y q r).2)), none, some (.inl (.int i))] [] (S)) → WS p l e0 (rmS 0 0) s m0 args below meth c0 G A 9 0 0 Q 21 [a0, a1, some (.inl (.long y)), none, some (.inl (.long q)), none, some (.inl (.long r)), none, some (.inl (.int (nI (6 - n))))] [] (S) := by
  intro n
  induction n with
  | zero =>
    intro q r hn K
    refine ws_iload (i := 8) X d_Dbl_quotientWith60_21 rfl ?_
    refine ws_bipush (v := 6) X d_Dbl_quotientWith60_23 rfl ?_
    refine ws_icmp_ge X d_Dbl_quotientWith60_25 (fun h25 => ?_) (fun h25 => ?_)
    · exact K _
    · exact absurd (by decide) h25
  | succ n ih =>
    intro q r hn K
    have e : nI (6 - (n + 1)) + Int32.ofInt 1 = nI (6 - n) := by
      rw [show (Int32.ofInt 1) = 1 from rfl, nI_1]; congr 1; omega
    refine ws_iload (i := 8) X d_Dbl_quotientWith60_21 rfl ?_
    refine ws_bipush (v := 6) X d_Dbl_quotientWith60_23 rfl ?_
    refine ws_icmp_ge X d_Dbl_quotientWith60_25 (fun h25 => ?_) (fun h25 => ?_)
    · exact absurd h25 (by have h6 : (6 : Int32) = nI 6 := rfl; rw [h6, nI_leI (by omega) (by omega)]; omega)
    · refine ws_lload (i := 4) X d_Dbl_quotientWith60_28 rfl ?_
      refine ws_bipush (v := 10) X d_Dbl_quotientWith60_30 rfl ?_
      refine ws_lshl X d_Dbl_quotientWith60_32 ?_
      refine ws_lload (i := 6) X d_Dbl_quotientWith60_33 rfl ?_
      refine ws_bipush (v := 10) X d_Dbl_quotientWith60_35 rfl ?_
      refine ws_lshl X d_Dbl_quotientWith60_37 ?_
      refine ws_lload_n (i := 2) X d_Dbl_quotientWith60_38 rfl rfl ?_
      refine ws_ldiv X d_Dbl_quotientWith60_39 (by assumption) ?_
      refine ws_lor X d_Dbl_quotientWith60_40 ?_
      refine ws_lst_4 X rfl d_Dbl_quotientWith60_41 (by decide) ?_
      refine ws_lload (i := 6) X d_Dbl_quotientWith60_43 rfl ?_
      refine ws_bipush (v := 10) X d_Dbl_quotientWith60_45 rfl ?_
      refine ws_lshl X d_Dbl_quotientWith60_47 ?_
      refine ws_lload_n (i := 2) X d_Dbl_quotientWith60_48 rfl rfl ?_
      refine ws_lrem X d_Dbl_quotientWith60_49 (by assumption) ?_
      refine ws_lst_6 X rfl d_Dbl_quotientWith60_50 (by decide) ?_
      refine ws_iinc_8 X rfl d_Dbl_quotientWith60_52 rfl (by decide) ?_
      refine ws_goto X d_Dbl_quotientWith60_55 ?_
      rw [e]; exact ih _ _ (by omega) K
end QU
theorem m_Dbl_quotientWith60 (S : MS) (x y : Int64) : MetE y_Dbl_quotientWith60 c_Dbl_quotientWith60 9 ((some .long)) 0 0 [.inl (.long x), .inl (.long y)] S (some (.inl (.long (dQuo x y)))) (S) := by
  refine MetS.of (lv0 := [some (.inl (.long x)), none, some (.inl (.long y)), none, none, none, none, none, none]) pn_Dbl rfl (Nat.le_of_ble_eq_true rfl) (fun p l e0 s m0 args below meth c0 G X => ?_)
  refine ws_lload_n (i := 2) X d_Dbl_quotientWith60_0 rfl rfl ?_
  refine ws_lconst (v := 0) X d_Dbl_quotientWith60_1 rfl ?_
  refine ws_lcmp_ne X d_Dbl_quotientWith60_2 d_Dbl_quotientWith60_3 (fun h2 => ?_) (fun h2 => ?_)
  · refine ws_lload_n (i := 0) X d_Dbl_quotientWith60_8 rfl rfl ?_
    refine ws_lload_n (i := 2) X d_Dbl_quotientWith60_9 rfl rfl ?_
    refine ws_ldiv X d_Dbl_quotientWith60_10 (by assumption) ?_
    refine ws_lst_4 X rfl d_Dbl_quotientWith60_11 (by decide) ?_
    refine ws_lload_n (i := 0) X d_Dbl_quotientWith60_13 rfl rfl ?_
    refine ws_lload_n (i := 2) X d_Dbl_quotientWith60_14 rfl rfl ?_
    refine ws_lrem X d_Dbl_quotientWith60_15 (by assumption) ?_
    refine ws_lst_6 X rfl d_Dbl_quotientWith60_16 (by decide) ?_
    refine ws_iconst (v := 0) X d_Dbl_quotientWith60_18 rfl ?_
    refine ws_ist_8 X rfl d_Dbl_quotientWith60_19 (by decide) ?_
    refine l_quo X h2 6 _ _ (by omega) (fun i => ?_)
    refine ws_lload (i := 6) X d_Dbl_quotientWith60_58 rfl ?_
    refine ws_lconst (v := 0) X d_Dbl_quotientWith60_60 rfl ?_
    refine ws_lcmp_ne X d_Dbl_quotientWith60_61 d_Dbl_quotientWith60_62 (fun h61 => ?_) (fun h61 => ?_)
    · refine ws_lload (i := 4) X d_Dbl_quotientWith60_70 rfl ?_
      refine ws_lconst (v := 1) X d_Dbl_quotientWith60_72 rfl ?_
      refine ws_lor X d_Dbl_quotientWith60_73 ?_
      refine ws_lret X d_Dbl_quotientWith60_74 ?_
      exact ⟨by simp [dQuo, eq_false h2, eq_false h61], rfl⟩
    · refine ws_lload (i := 4) X d_Dbl_quotientWith60_65 rfl ?_
      refine ws_goto X d_Dbl_quotientWith60_67 ?_
      refine ws_lret X d_Dbl_quotientWith60_74 ?_
      exact ⟨by simp [dQuo, eq_false h2, eq_true h61], rfl⟩
  · refine ws_lconst (v := 0) X d_Dbl_quotientWith60_6 rfl ?_
    refine ws_lret X d_Dbl_quotientWith60_7 ?_
    exact ⟨by simp [dQuo, eq_true h2], rfl⟩

def dDivX (s x y : Int64) : Int64 := if 9218868437227405312 < x ∨ 9218868437227405312 < y ∨ (x = 9218868437227405312 ∧ y = 9218868437227405312) ∨ (x = 0 ∧ y = 0) then 9221120237041090560 else if x = 9218868437227405312 ∨ y = 0 then s ||| 9218868437227405312 else if x = 0 ∨ y = 9218868437227405312 then s else dRound s (dScale x - (dLz (dDig x) - 11) - dScale y + (dLz (dDig y) - 11) + 1075 - 60 + 3) (dQuo (dUp x) (dUp y))
def dDiv (a b : Int64) : Int64 := dDivX ((a ^^^ b) &&& (-9223372036854775808)) (dAbs a) (dAbs b)
theorem m_Dbl_divide (S : MS) (a b : Int64) : MetE y_Dbl_divide c_Dbl_divide 14 ((some .long)) 2 57 [.inl (.long a), .inl (.long b)] S (some (.inl (.long (dDiv a b)))) (S) := by
  refine MetS.of (lv0 := [some (.inl (.long a)), none, some (.inl (.long b)), none, none, none, none, none, none, none, none, none, none, none]) pn_Dbl rfl (Nat.le_of_ble_eq_true rfl) (fun p l e0 s m0 args below meth c0 G X => ?_)
  refine ws_lload_n (i := 0) X d_Dbl_divide_0 rfl rfl ?_
  refine ws_lload_n (i := 2) X d_Dbl_divide_1 rfl rfl ?_
  refine ws_lxor X d_Dbl_divide_2 ?_
  refine ws_ldc2 X d_Dbl_divide_3 ct_Dbl_19 ?_
  refine ws_land X d_Dbl_divide_6 ?_
  refine ws_lst_4 X rfl d_Dbl_divide_7 (by decide) ?_
  refine ws_lload_n (i := 0) X d_Dbl_divide_9 rfl rfl ?_
  refine ws_callS1 X (m_Dbl_absolute _ _) cs_Dbl_absolute ml_Dbl_35 rfl rfl (Nat.le_of_ble_eq_true rfl) ⟨Nat.le_of_ble_eq_true rfl, Nat.le_of_ble_eq_true rfl⟩ ⟨Nat.zero_le _, Nat.zero_le _⟩ d_Dbl_divide_10 ?_
  refine ws_lst_6 X rfl d_Dbl_divide_13 (by decide) ?_
  refine ws_lload_n (i := 2) X d_Dbl_divide_15 rfl rfl ?_
  refine ws_callS1 X (m_Dbl_absolute _ _) cs_Dbl_absolute ml_Dbl_35 rfl rfl (Nat.le_of_ble_eq_true rfl) ⟨Nat.le_of_ble_eq_true rfl, Nat.le_of_ble_eq_true rfl⟩ ⟨Nat.zero_le _, Nat.zero_le _⟩ d_Dbl_divide_16 ?_
  refine ws_lst_8 X rfl d_Dbl_divide_19 (by decide) ?_
  refine ws_lload (i := 6) X d_Dbl_divide_21 rfl ?_
  refine ws_ldc2 X d_Dbl_divide_23 ct_Dbl_17 ?_
  refine ws_lcmp_gt X d_Dbl_divide_26 d_Dbl_divide_27 (fun h26 => ?_) (fun h26 => ?_)
  · refine ws_ldc2 X d_Dbl_divide_71 ct_Dbl_13 ?_
    refine ws_lret X d_Dbl_divide_74 ?_
    first | contradiction | exact ⟨by simp [dDiv, dDivX, dUp, eq_true h26], rfl⟩ | (exfalso; simp_all)
  · refine ws_lload (i := 8) X d_Dbl_divide_30 rfl ?_
    refine ws_ldc2 X d_Dbl_divide_32 ct_Dbl_17 ?_
    refine ws_lcmp_gt X d_Dbl_divide_35 d_Dbl_divide_36 (fun h35 => ?_) (fun h35 => ?_)
    · refine ws_ldc2 X d_Dbl_divide_71 ct_Dbl_13 ?_
      refine ws_lret X d_Dbl_divide_74 ?_
      first | contradiction | exact ⟨by simp [dDiv, dDivX, dUp, eq_false h26, eq_true h35], rfl⟩ | (exfalso; simp_all)
    · refine ws_lload (i := 6) X d_Dbl_divide_39 rfl ?_
      refine ws_ldc2 X d_Dbl_divide_41 ct_Dbl_17 ?_
      refine ws_lcmp_ne X d_Dbl_divide_44 d_Dbl_divide_45 (fun h44 => ?_) (fun h44 => ?_)
      · refine ws_lload (i := 6) X d_Dbl_divide_57 rfl ?_
        refine ws_lconst (v := 0) X d_Dbl_divide_59 rfl ?_
        refine ws_lcmp_ne X d_Dbl_divide_60 d_Dbl_divide_61 (fun h60 => ?_) (fun h60 => ?_)
        · refine ws_lload (i := 6) X d_Dbl_divide_75 rfl ?_
          refine ws_ldc2 X d_Dbl_divide_77 ct_Dbl_17 ?_
          refine ws_lcmp_eq X d_Dbl_divide_80 d_Dbl_divide_81 (fun h80 => ?_) (fun h80 => ?_)
          · refine ws_lload (i := 4) X d_Dbl_divide_91 rfl ?_
            refine ws_ldc2 X d_Dbl_divide_93 ct_Dbl_17 ?_
            refine ws_lor X d_Dbl_divide_96 ?_
            refine ws_lret X d_Dbl_divide_97 ?_
            first | contradiction | exact ⟨by simp [dDiv, dDivX, dUp, eq_false h26, eq_false h35, eq_false h44, eq_false h60, eq_true h80], rfl⟩ | (exfalso; simp_all)
          · refine ws_lload (i := 8) X d_Dbl_divide_84 rfl ?_
            refine ws_lconst (v := 0) X d_Dbl_divide_86 rfl ?_
            refine ws_lcmp_ne X d_Dbl_divide_87 d_Dbl_divide_88 (fun h87 => ?_) (fun h87 => ?_)
            · refine ws_lload (i := 6) X d_Dbl_divide_98 rfl ?_
              refine ws_lconst (v := 0) X d_Dbl_divide_100 rfl ?_
              refine ws_lcmp_eq X d_Dbl_divide_101 d_Dbl_divide_102 (fun h101 => ?_) (fun h101 => ?_)
              · refine ws_lload (i := 4) X d_Dbl_divide_114 rfl ?_
                refine ws_lret X d_Dbl_divide_116 ?_
                first | contradiction | exact ⟨by simp [dDiv, dDivX, dUp, eq_false h26, eq_false h35, eq_false h44, eq_false h60, eq_false h80, eq_false h87, eq_true h101], rfl⟩ | (exfalso; simp_all)
              · refine ws_lload (i := 8) X d_Dbl_divide_105 rfl ?_
                refine ws_ldc2 X d_Dbl_divide_107 ct_Dbl_17 ?_
                refine ws_lcmp_ne X d_Dbl_divide_110 d_Dbl_divide_111 (fun h110 => ?_) (fun h110 => ?_)
                · refine ws_lload (i := 6) X d_Dbl_divide_117 rfl ?_
                  refine ws_callS1 X (m_Dbl_digitsOf _ _) cs_Dbl_digitsOf ml_Dbl_42 rfl rfl (Nat.le_of_ble_eq_true rfl) ⟨Nat.le_of_ble_eq_true rfl, Nat.le_of_ble_eq_true rfl⟩ ⟨Nat.zero_le _, Nat.zero_le _⟩ d_Dbl_divide_119 ?_
                  refine ws_callS1 X (m_Dbl_leadingZeros _ _) cs_Dbl_leadingZeros ml_Dbl_53 rfl rfl (Nat.le_of_ble_eq_true rfl) ⟨Nat.le_of_ble_eq_true rfl, Nat.le_of_ble_eq_true rfl⟩ ⟨Nat.zero_le _, Nat.zero_le _⟩ d_Dbl_divide_122 ?_
                  refine ws_bipush (v := 11) X d_Dbl_divide_125 rfl ?_
                  refine ws_isub X d_Dbl_divide_127 ?_
                  refine ws_ist_10 X rfl d_Dbl_divide_128 (by decide) ?_
                  refine ws_lload (i := 8) X d_Dbl_divide_130 rfl ?_
                  refine ws_callS1 X (m_Dbl_digitsOf _ _) cs_Dbl_digitsOf ml_Dbl_42 rfl rfl (Nat.le_of_ble_eq_true rfl) ⟨Nat.le_of_ble_eq_true rfl, Nat.le_of_ble_eq_true rfl⟩ ⟨Nat.zero_le _, Nat.zero_le _⟩ d_Dbl_divide_132 ?_
                  refine ws_callS1 X (m_Dbl_leadingZeros _ _) cs_Dbl_leadingZeros ml_Dbl_53 rfl rfl (Nat.le_of_ble_eq_true rfl) ⟨Nat.le_of_ble_eq_true rfl, Nat.le_of_ble_eq_true rfl⟩ ⟨Nat.zero_le _, Nat.zero_le _⟩ d_Dbl_divide_135 ?_
                  refine ws_bipush (v := 11) X d_Dbl_divide_138 rfl ?_
                  refine ws_isub X d_Dbl_divide_140 ?_
                  refine ws_ist_11 X rfl d_Dbl_divide_141 (by decide) ?_
                  refine ws_lload (i := 6) X d_Dbl_divide_143 rfl ?_
                  refine ws_callS1 X (m_Dbl_digitsOf _ _) cs_Dbl_digitsOf ml_Dbl_42 rfl rfl (Nat.le_of_ble_eq_true rfl) ⟨Nat.le_of_ble_eq_true rfl, Nat.le_of_ble_eq_true rfl⟩ ⟨Nat.zero_le _, Nat.zero_le _⟩ d_Dbl_divide_145 ?_
                  refine ws_iload (i := 10) X d_Dbl_divide_148 rfl ?_
                  refine ws_lshl X d_Dbl_divide_150 ?_
                  refine ws_lload (i := 8) X d_Dbl_divide_151 rfl ?_
                  refine ws_callS1 X (m_Dbl_digitsOf _ _) cs_Dbl_digitsOf ml_Dbl_42 rfl rfl (Nat.le_of_ble_eq_true rfl) ⟨Nat.le_of_ble_eq_true rfl, Nat.le_of_ble_eq_true rfl⟩ ⟨Nat.zero_le _, Nat.zero_le _⟩ d_Dbl_divide_153 ?_
                  refine ws_iload (i := 11) X d_Dbl_divide_156 rfl ?_
                  refine ws_lshl X d_Dbl_divide_158 ?_
                  refine ws_callS1 X (m_Dbl_quotientWith60 _ _ _) cs_Dbl_quotientWith60 ml_Dbl_62 rfl rfl (Nat.le_of_ble_eq_true rfl) ⟨Nat.le_of_ble_eq_true rfl, Nat.le_of_ble_eq_true rfl⟩ ⟨Nat.zero_le _, Nat.zero_le _⟩ d_Dbl_divide_159 ?_
                  refine ws_lst_12 X rfl d_Dbl_divide_162 (by decide) ?_
                  refine ws_lload (i := 4) X d_Dbl_divide_164 rfl ?_
                  refine ws_lload (i := 6) X d_Dbl_divide_166 rfl ?_
                  refine ws_callS1 X (m_Dbl_scaleOf _ _) cs_Dbl_scaleOf ml_Dbl_38 rfl rfl (Nat.le_of_ble_eq_true rfl) ⟨Nat.le_of_ble_eq_true rfl, Nat.le_of_ble_eq_true rfl⟩ ⟨Nat.zero_le _, Nat.zero_le _⟩ d_Dbl_divide_168 ?_
                  refine ws_iload (i := 10) X d_Dbl_divide_171 rfl ?_
                  refine ws_isub X d_Dbl_divide_173 ?_
                  refine ws_lload (i := 8) X d_Dbl_divide_174 rfl ?_
                  refine ws_callS1 X (m_Dbl_scaleOf _ _) cs_Dbl_scaleOf ml_Dbl_38 rfl rfl (Nat.le_of_ble_eq_true rfl) ⟨Nat.le_of_ble_eq_true rfl, Nat.le_of_ble_eq_true rfl⟩ ⟨Nat.zero_le _, Nat.zero_le _⟩ d_Dbl_divide_176 ?_
                  refine ws_isub X d_Dbl_divide_179 ?_
                  refine ws_iload (i := 11) X d_Dbl_divide_180 rfl ?_
                  refine ws_iadd X d_Dbl_divide_182 ?_
                  refine ws_sipush (v := 1075) X d_Dbl_divide_183 rfl ?_
                  refine ws_iadd X d_Dbl_divide_186 ?_
                  refine ws_bipush (v := 60) X d_Dbl_divide_187 rfl ?_
                  refine ws_isub X d_Dbl_divide_189 ?_
                  refine ws_iconst (v := 3) X d_Dbl_divide_190 rfl ?_
                  refine ws_iadd X d_Dbl_divide_191 ?_
                  refine ws_lload (i := 12) X d_Dbl_divide_192 rfl ?_
                  refine ws_callS1 X (m_Dbl_rounded _ _ _ _) cs_Dbl_rounded ml_Dbl_49 rfl rfl (Nat.le_of_ble_eq_true rfl) ⟨Nat.le_of_ble_eq_true rfl, Nat.le_of_ble_eq_true rfl⟩ ⟨Nat.zero_le _, Nat.zero_le _⟩ d_Dbl_divide_194 ?_
                  refine ws_lret X d_Dbl_divide_197 ?_
                  first | contradiction | exact ⟨by simp [dDiv, dDivX, dUp, eq_false h26, eq_false h35, eq_false h44, eq_false h60, eq_false h80, eq_false h87, eq_false h101, eq_false h110], rfl⟩ | (exfalso; simp_all)
                · refine ws_lload (i := 4) X d_Dbl_divide_114 rfl ?_
                  refine ws_lret X d_Dbl_divide_116 ?_
                  first | contradiction | exact ⟨by simp [dDiv, dDivX, dUp, eq_false h26, eq_false h35, eq_false h44, eq_false h60, eq_false h80, eq_false h87, eq_false h101, eq_true h110], rfl⟩ | (exfalso; simp_all)
            · refine ws_lload (i := 4) X d_Dbl_divide_91 rfl ?_
              refine ws_ldc2 X d_Dbl_divide_93 ct_Dbl_17 ?_
              refine ws_lor X d_Dbl_divide_96 ?_
              refine ws_lret X d_Dbl_divide_97 ?_
              first | contradiction | exact ⟨by simp [dDiv, dDivX, dUp, eq_false h26, eq_false h35, eq_false h44, eq_false h60, eq_false h80, eq_true h87], rfl⟩ | (exfalso; simp_all)
        · refine ws_lload (i := 8) X d_Dbl_divide_64 rfl ?_
          refine ws_lconst (v := 0) X d_Dbl_divide_66 rfl ?_
          refine ws_lcmp_ne X d_Dbl_divide_67 d_Dbl_divide_68 (fun h67 => ?_) (fun h67 => ?_)
          · refine ws_lload (i := 6) X d_Dbl_divide_75 rfl ?_
            refine ws_ldc2 X d_Dbl_divide_77 ct_Dbl_17 ?_
            refine ws_lcmp_eq X d_Dbl_divide_80 d_Dbl_divide_81 (fun h80 => ?_) (fun h80 => ?_)
            · refine ws_lload (i := 4) X d_Dbl_divide_91 rfl ?_
              refine ws_ldc2 X d_Dbl_divide_93 ct_Dbl_17 ?_
              refine ws_lor X d_Dbl_divide_96 ?_
              refine ws_lret X d_Dbl_divide_97 ?_
              first | contradiction | exact ⟨by simp [dDiv, dDivX, dUp, eq_false h26, eq_false h35, eq_false h44, eq_true h60, eq_false h67, eq_true h80], rfl⟩ | (exfalso; simp_all)
            · refine ws_lload (i := 8) X d_Dbl_divide_84 rfl ?_
              refine ws_lconst (v := 0) X d_Dbl_divide_86 rfl ?_
              refine ws_lcmp_ne X d_Dbl_divide_87 d_Dbl_divide_88 (fun h87 => ?_) (fun h87 => ?_)
              · refine ws_lload (i := 6) X d_Dbl_divide_98 rfl ?_
                refine ws_lconst (v := 0) X d_Dbl_divide_100 rfl ?_
                refine ws_lcmp_eq X d_Dbl_divide_101 d_Dbl_divide_102 (fun h101 => ?_) (fun h101 => ?_)
                · refine ws_lload (i := 4) X d_Dbl_divide_114 rfl ?_
                  refine ws_lret X d_Dbl_divide_116 ?_
                  first | contradiction | exact ⟨by simp [dDiv, dDivX, dUp, eq_false h26, eq_false h35, eq_false h44, eq_true h60, eq_false h67, eq_false h80, eq_false h87, eq_true h101], rfl⟩ | (exfalso; simp_all)
                · refine ws_lload (i := 8) X d_Dbl_divide_105 rfl ?_
                  refine ws_ldc2 X d_Dbl_divide_107 ct_Dbl_17 ?_
                  refine ws_lcmp_ne X d_Dbl_divide_110 d_Dbl_divide_111 (fun h110 => ?_) (fun h110 => ?_)
                  · refine ws_lload (i := 6) X d_Dbl_divide_117 rfl ?_
                    refine ws_callS1 X (m_Dbl_digitsOf _ _) cs_Dbl_digitsOf ml_Dbl_42 rfl rfl (Nat.le_of_ble_eq_true rfl) ⟨Nat.le_of_ble_eq_true rfl, Nat.le_of_ble_eq_true rfl⟩ ⟨Nat.zero_le _, Nat.zero_le _⟩ d_Dbl_divide_119 ?_
                    refine ws_callS1 X (m_Dbl_leadingZeros _ _) cs_Dbl_leadingZeros ml_Dbl_53 rfl rfl (Nat.le_of_ble_eq_true rfl) ⟨Nat.le_of_ble_eq_true rfl, Nat.le_of_ble_eq_true rfl⟩ ⟨Nat.zero_le _, Nat.zero_le _⟩ d_Dbl_divide_122 ?_
                    refine ws_bipush (v := 11) X d_Dbl_divide_125 rfl ?_
                    refine ws_isub X d_Dbl_divide_127 ?_
                    refine ws_ist_10 X rfl d_Dbl_divide_128 (by decide) ?_
                    refine ws_lload (i := 8) X d_Dbl_divide_130 rfl ?_
                    refine ws_callS1 X (m_Dbl_digitsOf _ _) cs_Dbl_digitsOf ml_Dbl_42 rfl rfl (Nat.le_of_ble_eq_true rfl) ⟨Nat.le_of_ble_eq_true rfl, Nat.le_of_ble_eq_true rfl⟩ ⟨Nat.zero_le _, Nat.zero_le _⟩ d_Dbl_divide_132 ?_
                    refine ws_callS1 X (m_Dbl_leadingZeros _ _) cs_Dbl_leadingZeros ml_Dbl_53 rfl rfl (Nat.le_of_ble_eq_true rfl) ⟨Nat.le_of_ble_eq_true rfl, Nat.le_of_ble_eq_true rfl⟩ ⟨Nat.zero_le _, Nat.zero_le _⟩ d_Dbl_divide_135 ?_
                    refine ws_bipush (v := 11) X d_Dbl_divide_138 rfl ?_
                    refine ws_isub X d_Dbl_divide_140 ?_
                    refine ws_ist_11 X rfl d_Dbl_divide_141 (by decide) ?_
                    refine ws_lload (i := 6) X d_Dbl_divide_143 rfl ?_
                    refine ws_callS1 X (m_Dbl_digitsOf _ _) cs_Dbl_digitsOf ml_Dbl_42 rfl rfl (Nat.le_of_ble_eq_true rfl) ⟨Nat.le_of_ble_eq_true rfl, Nat.le_of_ble_eq_true rfl⟩ ⟨Nat.zero_le _, Nat.zero_le _⟩ d_Dbl_divide_145 ?_
                    refine ws_iload (i := 10) X d_Dbl_divide_148 rfl ?_
                    refine ws_lshl X d_Dbl_divide_150 ?_
                    refine ws_lload (i := 8) X d_Dbl_divide_151 rfl ?_
                    refine ws_callS1 X (m_Dbl_digitsOf _ _) cs_Dbl_digitsOf ml_Dbl_42 rfl rfl (Nat.le_of_ble_eq_true rfl) ⟨Nat.le_of_ble_eq_true rfl, Nat.le_of_ble_eq_true rfl⟩ ⟨Nat.zero_le _, Nat.zero_le _⟩ d_Dbl_divide_153 ?_
                    refine ws_iload (i := 11) X d_Dbl_divide_156 rfl ?_
                    refine ws_lshl X d_Dbl_divide_158 ?_
                    refine ws_callS1 X (m_Dbl_quotientWith60 _ _ _) cs_Dbl_quotientWith60 ml_Dbl_62 rfl rfl (Nat.le_of_ble_eq_true rfl) ⟨Nat.le_of_ble_eq_true rfl, Nat.le_of_ble_eq_true rfl⟩ ⟨Nat.zero_le _, Nat.zero_le _⟩ d_Dbl_divide_159 ?_
                    refine ws_lst_12 X rfl d_Dbl_divide_162 (by decide) ?_
                    refine ws_lload (i := 4) X d_Dbl_divide_164 rfl ?_
                    refine ws_lload (i := 6) X d_Dbl_divide_166 rfl ?_
                    refine ws_callS1 X (m_Dbl_scaleOf _ _) cs_Dbl_scaleOf ml_Dbl_38 rfl rfl (Nat.le_of_ble_eq_true rfl) ⟨Nat.le_of_ble_eq_true rfl, Nat.le_of_ble_eq_true rfl⟩ ⟨Nat.zero_le _, Nat.zero_le _⟩ d_Dbl_divide_168 ?_
                    refine ws_iload (i := 10) X d_Dbl_divide_171 rfl ?_
                    refine ws_isub X d_Dbl_divide_173 ?_
                    refine ws_lload (i := 8) X d_Dbl_divide_174 rfl ?_
                    refine ws_callS1 X (m_Dbl_scaleOf _ _) cs_Dbl_scaleOf ml_Dbl_38 rfl rfl (Nat.le_of_ble_eq_true rfl) ⟨Nat.le_of_ble_eq_true rfl, Nat.le_of_ble_eq_true rfl⟩ ⟨Nat.zero_le _, Nat.zero_le _⟩ d_Dbl_divide_176 ?_
                    refine ws_isub X d_Dbl_divide_179 ?_
                    refine ws_iload (i := 11) X d_Dbl_divide_180 rfl ?_
                    refine ws_iadd X d_Dbl_divide_182 ?_
                    refine ws_sipush (v := 1075) X d_Dbl_divide_183 rfl ?_
                    refine ws_iadd X d_Dbl_divide_186 ?_
                    refine ws_bipush (v := 60) X d_Dbl_divide_187 rfl ?_
                    refine ws_isub X d_Dbl_divide_189 ?_
                    refine ws_iconst (v := 3) X d_Dbl_divide_190 rfl ?_
                    refine ws_iadd X d_Dbl_divide_191 ?_
                    refine ws_lload (i := 12) X d_Dbl_divide_192 rfl ?_
                    refine ws_callS1 X (m_Dbl_rounded _ _ _ _) cs_Dbl_rounded ml_Dbl_49 rfl rfl (Nat.le_of_ble_eq_true rfl) ⟨Nat.le_of_ble_eq_true rfl, Nat.le_of_ble_eq_true rfl⟩ ⟨Nat.zero_le _, Nat.zero_le _⟩ d_Dbl_divide_194 ?_
                    refine ws_lret X d_Dbl_divide_197 ?_
                    first | contradiction | exact ⟨by simp [dDiv, dDivX, dUp, eq_false h26, eq_false h35, eq_false h44, eq_true h60, eq_false h67, eq_false h80, eq_false h87, eq_false h101, eq_false h110], rfl⟩ | (exfalso; simp_all)
                  · refine ws_lload (i := 4) X d_Dbl_divide_114 rfl ?_
                    refine ws_lret X d_Dbl_divide_116 ?_
                    first | contradiction | exact ⟨by simp [dDiv, dDivX, dUp, eq_false h26, eq_false h35, eq_false h44, eq_true h60, eq_false h67, eq_false h80, eq_false h87, eq_false h101, eq_true h110], rfl⟩ | (exfalso; simp_all)
              · refine ws_lload (i := 4) X d_Dbl_divide_91 rfl ?_
                refine ws_ldc2 X d_Dbl_divide_93 ct_Dbl_17 ?_
                refine ws_lor X d_Dbl_divide_96 ?_
                refine ws_lret X d_Dbl_divide_97 ?_
                first | contradiction | exact ⟨by simp [dDiv, dDivX, dUp, eq_false h26, eq_false h35, eq_false h44, eq_true h60, eq_false h67, eq_false h80, eq_true h87], rfl⟩ | (exfalso; simp_all)
          · refine ws_ldc2 X d_Dbl_divide_71 ct_Dbl_13 ?_
            refine ws_lret X d_Dbl_divide_74 ?_
            first | contradiction | exact ⟨by simp [dDiv, dDivX, dUp, eq_false h26, eq_false h35, eq_false h44, eq_true h60, eq_true h67], rfl⟩ | (exfalso; simp_all)
      · refine ws_lload (i := 8) X d_Dbl_divide_48 rfl ?_
        refine ws_ldc2 X d_Dbl_divide_50 ct_Dbl_17 ?_
        refine ws_lcmp_eq X d_Dbl_divide_53 d_Dbl_divide_54 (fun h53 => ?_) (fun h53 => ?_)
        · refine ws_ldc2 X d_Dbl_divide_71 ct_Dbl_13 ?_
          refine ws_lret X d_Dbl_divide_74 ?_
          first | contradiction | exact ⟨by simp [dDiv, dDivX, dUp, eq_false h26, eq_false h35, eq_true h44, eq_true h53], rfl⟩ | (exfalso; simp_all)
        · refine ws_lload (i := 6) X d_Dbl_divide_57 rfl ?_
          refine ws_lconst (v := 0) X d_Dbl_divide_59 rfl ?_
          refine ws_lcmp_ne X d_Dbl_divide_60 d_Dbl_divide_61 (fun h60 => ?_) (fun h60 => ?_)
          · refine ws_lload (i := 6) X d_Dbl_divide_75 rfl ?_
            refine ws_ldc2 X d_Dbl_divide_77 ct_Dbl_17 ?_
            refine ws_lcmp_eq X d_Dbl_divide_80 d_Dbl_divide_81 (fun h80 => ?_) (fun h80 => ?_)
            · refine ws_lload (i := 4) X d_Dbl_divide_91 rfl ?_
              refine ws_ldc2 X d_Dbl_divide_93 ct_Dbl_17 ?_
              refine ws_lor X d_Dbl_divide_96 ?_
              refine ws_lret X d_Dbl_divide_97 ?_
              first | contradiction | exact ⟨by simp [dDiv, dDivX, dUp, eq_false h26, eq_false h35, eq_true h44, eq_false h53, eq_false h60, eq_true h80], rfl⟩ | (exfalso; simp_all)
            · refine ws_lload (i := 8) X d_Dbl_divide_84 rfl ?_
              refine ws_lconst (v := 0) X d_Dbl_divide_86 rfl ?_
              refine ws_lcmp_ne X d_Dbl_divide_87 d_Dbl_divide_88 (fun h87 => ?_) (fun h87 => ?_)
              · refine ws_lload (i := 6) X d_Dbl_divide_98 rfl ?_
                refine ws_lconst (v := 0) X d_Dbl_divide_100 rfl ?_
                refine ws_lcmp_eq X d_Dbl_divide_101 d_Dbl_divide_102 (fun h101 => ?_) (fun h101 => ?_)
                · refine ws_lload (i := 4) X d_Dbl_divide_114 rfl ?_
                  refine ws_lret X d_Dbl_divide_116 ?_
                  first | contradiction | exact ⟨by simp [dDiv, dDivX, dUp, eq_false h26, eq_false h35, eq_true h44, eq_false h53, eq_false h60, eq_false h80, eq_false h87, eq_true h101], rfl⟩ | (exfalso; simp_all)
                · refine ws_lload (i := 8) X d_Dbl_divide_105 rfl ?_
                  refine ws_ldc2 X d_Dbl_divide_107 ct_Dbl_17 ?_
                  refine ws_lcmp_ne X d_Dbl_divide_110 d_Dbl_divide_111 (fun h110 => ?_) (fun h110 => ?_)
                  · refine ws_lload (i := 6) X d_Dbl_divide_117 rfl ?_
                    refine ws_callS1 X (m_Dbl_digitsOf _ _) cs_Dbl_digitsOf ml_Dbl_42 rfl rfl (Nat.le_of_ble_eq_true rfl) ⟨Nat.le_of_ble_eq_true rfl, Nat.le_of_ble_eq_true rfl⟩ ⟨Nat.zero_le _, Nat.zero_le _⟩ d_Dbl_divide_119 ?_
                    refine ws_callS1 X (m_Dbl_leadingZeros _ _) cs_Dbl_leadingZeros ml_Dbl_53 rfl rfl (Nat.le_of_ble_eq_true rfl) ⟨Nat.le_of_ble_eq_true rfl, Nat.le_of_ble_eq_true rfl⟩ ⟨Nat.zero_le _, Nat.zero_le _⟩ d_Dbl_divide_122 ?_
                    refine ws_bipush (v := 11) X d_Dbl_divide_125 rfl ?_
                    refine ws_isub X d_Dbl_divide_127 ?_
                    refine ws_ist_10 X rfl d_Dbl_divide_128 (by decide) ?_
                    refine ws_lload (i := 8) X d_Dbl_divide_130 rfl ?_
                    refine ws_callS1 X (m_Dbl_digitsOf _ _) cs_Dbl_digitsOf ml_Dbl_42 rfl rfl (Nat.le_of_ble_eq_true rfl) ⟨Nat.le_of_ble_eq_true rfl, Nat.le_of_ble_eq_true rfl⟩ ⟨Nat.zero_le _, Nat.zero_le _⟩ d_Dbl_divide_132 ?_
                    refine ws_callS1 X (m_Dbl_leadingZeros _ _) cs_Dbl_leadingZeros ml_Dbl_53 rfl rfl (Nat.le_of_ble_eq_true rfl) ⟨Nat.le_of_ble_eq_true rfl, Nat.le_of_ble_eq_true rfl⟩ ⟨Nat.zero_le _, Nat.zero_le _⟩ d_Dbl_divide_135 ?_
                    refine ws_bipush (v := 11) X d_Dbl_divide_138 rfl ?_
                    refine ws_isub X d_Dbl_divide_140 ?_
                    refine ws_ist_11 X rfl d_Dbl_divide_141 (by decide) ?_
                    refine ws_lload (i := 6) X d_Dbl_divide_143 rfl ?_
                    refine ws_callS1 X (m_Dbl_digitsOf _ _) cs_Dbl_digitsOf ml_Dbl_42 rfl rfl (Nat.le_of_ble_eq_true rfl) ⟨Nat.le_of_ble_eq_true rfl, Nat.le_of_ble_eq_true rfl⟩ ⟨Nat.zero_le _, Nat.zero_le _⟩ d_Dbl_divide_145 ?_
                    refine ws_iload (i := 10) X d_Dbl_divide_148 rfl ?_
                    refine ws_lshl X d_Dbl_divide_150 ?_
                    refine ws_lload (i := 8) X d_Dbl_divide_151 rfl ?_
                    refine ws_callS1 X (m_Dbl_digitsOf _ _) cs_Dbl_digitsOf ml_Dbl_42 rfl rfl (Nat.le_of_ble_eq_true rfl) ⟨Nat.le_of_ble_eq_true rfl, Nat.le_of_ble_eq_true rfl⟩ ⟨Nat.zero_le _, Nat.zero_le _⟩ d_Dbl_divide_153 ?_
                    refine ws_iload (i := 11) X d_Dbl_divide_156 rfl ?_
                    refine ws_lshl X d_Dbl_divide_158 ?_
                    refine ws_callS1 X (m_Dbl_quotientWith60 _ _ _) cs_Dbl_quotientWith60 ml_Dbl_62 rfl rfl (Nat.le_of_ble_eq_true rfl) ⟨Nat.le_of_ble_eq_true rfl, Nat.le_of_ble_eq_true rfl⟩ ⟨Nat.zero_le _, Nat.zero_le _⟩ d_Dbl_divide_159 ?_
                    refine ws_lst_12 X rfl d_Dbl_divide_162 (by decide) ?_
                    refine ws_lload (i := 4) X d_Dbl_divide_164 rfl ?_
                    refine ws_lload (i := 6) X d_Dbl_divide_166 rfl ?_
                    refine ws_callS1 X (m_Dbl_scaleOf _ _) cs_Dbl_scaleOf ml_Dbl_38 rfl rfl (Nat.le_of_ble_eq_true rfl) ⟨Nat.le_of_ble_eq_true rfl, Nat.le_of_ble_eq_true rfl⟩ ⟨Nat.zero_le _, Nat.zero_le _⟩ d_Dbl_divide_168 ?_
                    refine ws_iload (i := 10) X d_Dbl_divide_171 rfl ?_
                    refine ws_isub X d_Dbl_divide_173 ?_
                    refine ws_lload (i := 8) X d_Dbl_divide_174 rfl ?_
                    refine ws_callS1 X (m_Dbl_scaleOf _ _) cs_Dbl_scaleOf ml_Dbl_38 rfl rfl (Nat.le_of_ble_eq_true rfl) ⟨Nat.le_of_ble_eq_true rfl, Nat.le_of_ble_eq_true rfl⟩ ⟨Nat.zero_le _, Nat.zero_le _⟩ d_Dbl_divide_176 ?_
                    refine ws_isub X d_Dbl_divide_179 ?_
                    refine ws_iload (i := 11) X d_Dbl_divide_180 rfl ?_
                    refine ws_iadd X d_Dbl_divide_182 ?_
                    refine ws_sipush (v := 1075) X d_Dbl_divide_183 rfl ?_
                    refine ws_iadd X d_Dbl_divide_186 ?_
                    refine ws_bipush (v := 60) X d_Dbl_divide_187 rfl ?_
                    refine ws_isub X d_Dbl_divide_189 ?_
                    refine ws_iconst (v := 3) X d_Dbl_divide_190 rfl ?_
                    refine ws_iadd X d_Dbl_divide_191 ?_
                    refine ws_lload (i := 12) X d_Dbl_divide_192 rfl ?_
                    refine ws_callS1 X (m_Dbl_rounded _ _ _ _) cs_Dbl_rounded ml_Dbl_49 rfl rfl (Nat.le_of_ble_eq_true rfl) ⟨Nat.le_of_ble_eq_true rfl, Nat.le_of_ble_eq_true rfl⟩ ⟨Nat.zero_le _, Nat.zero_le _⟩ d_Dbl_divide_194 ?_
                    refine ws_lret X d_Dbl_divide_197 ?_
                    first | contradiction | exact ⟨by simp [dDiv, dDivX, dUp, eq_false h26, eq_false h35, eq_true h44, eq_false h53, eq_false h60, eq_false h80, eq_false h87, eq_false h101, eq_false h110], rfl⟩ | (exfalso; simp_all)
                  · refine ws_lload (i := 4) X d_Dbl_divide_114 rfl ?_
                    refine ws_lret X d_Dbl_divide_116 ?_
                    first | contradiction | exact ⟨by simp [dDiv, dDivX, dUp, eq_false h26, eq_false h35, eq_true h44, eq_false h53, eq_false h60, eq_false h80, eq_false h87, eq_false h101, eq_true h110], rfl⟩ | (exfalso; simp_all)
              · refine ws_lload (i := 4) X d_Dbl_divide_91 rfl ?_
                refine ws_ldc2 X d_Dbl_divide_93 ct_Dbl_17 ?_
                refine ws_lor X d_Dbl_divide_96 ?_
                refine ws_lret X d_Dbl_divide_97 ?_
                first | contradiction | exact ⟨by simp [dDiv, dDivX, dUp, eq_false h26, eq_false h35, eq_true h44, eq_false h53, eq_false h60, eq_false h80, eq_true h87], rfl⟩ | (exfalso; simp_all)
          · refine ws_lload (i := 8) X d_Dbl_divide_64 rfl ?_
            refine ws_lconst (v := 0) X d_Dbl_divide_66 rfl ?_
            refine ws_lcmp_ne X d_Dbl_divide_67 d_Dbl_divide_68 (fun h67 => ?_) (fun h67 => ?_)
            · refine ws_lload (i := 6) X d_Dbl_divide_75 rfl ?_
              refine ws_ldc2 X d_Dbl_divide_77 ct_Dbl_17 ?_
              refine ws_lcmp_eq X d_Dbl_divide_80 d_Dbl_divide_81 (fun h80 => ?_) (fun h80 => ?_)
              · refine ws_lload (i := 4) X d_Dbl_divide_91 rfl ?_
                refine ws_ldc2 X d_Dbl_divide_93 ct_Dbl_17 ?_
                refine ws_lor X d_Dbl_divide_96 ?_
                refine ws_lret X d_Dbl_divide_97 ?_
                first | contradiction | exact ⟨by simp [dDiv, dDivX, dUp, eq_false h26, eq_false h35, eq_true h44, eq_false h53, eq_true h60, eq_false h67, eq_true h80], rfl⟩ | (exfalso; simp_all)
              · refine ws_lload (i := 8) X d_Dbl_divide_84 rfl ?_
                refine ws_lconst (v := 0) X d_Dbl_divide_86 rfl ?_
                refine ws_lcmp_ne X d_Dbl_divide_87 d_Dbl_divide_88 (fun h87 => ?_) (fun h87 => ?_)
                · refine ws_lload (i := 6) X d_Dbl_divide_98 rfl ?_
                  refine ws_lconst (v := 0) X d_Dbl_divide_100 rfl ?_
                  refine ws_lcmp_eq X d_Dbl_divide_101 d_Dbl_divide_102 (fun h101 => ?_) (fun h101 => ?_)
                  · refine ws_lload (i := 4) X d_Dbl_divide_114 rfl ?_
                    refine ws_lret X d_Dbl_divide_116 ?_
                    first | contradiction | exact ⟨by simp [dDiv, dDivX, dUp, eq_false h26, eq_false h35, eq_true h44, eq_false h53, eq_true h60, eq_false h67, eq_false h80, eq_false h87, eq_true h101], rfl⟩ | (exfalso; simp_all)
                  · refine ws_lload (i := 8) X d_Dbl_divide_105 rfl ?_
                    refine ws_ldc2 X d_Dbl_divide_107 ct_Dbl_17 ?_
                    refine ws_lcmp_ne X d_Dbl_divide_110 d_Dbl_divide_111 (fun h110 => ?_) (fun h110 => ?_)
                    · refine ws_lload (i := 6) X d_Dbl_divide_117 rfl ?_
                      refine ws_callS1 X (m_Dbl_digitsOf _ _) cs_Dbl_digitsOf ml_Dbl_42 rfl rfl (Nat.le_of_ble_eq_true rfl) ⟨Nat.le_of_ble_eq_true rfl, Nat.le_of_ble_eq_true rfl⟩ ⟨Nat.zero_le _, Nat.zero_le _⟩ d_Dbl_divide_119 ?_
                      refine ws_callS1 X (m_Dbl_leadingZeros _ _) cs_Dbl_leadingZeros ml_Dbl_53 rfl rfl (Nat.le_of_ble_eq_true rfl) ⟨Nat.le_of_ble_eq_true rfl, Nat.le_of_ble_eq_true rfl⟩ ⟨Nat.zero_le _, Nat.zero_le _⟩ d_Dbl_divide_122 ?_
                      refine ws_bipush (v := 11) X d_Dbl_divide_125 rfl ?_
                      refine ws_isub X d_Dbl_divide_127 ?_
                      refine ws_ist_10 X rfl d_Dbl_divide_128 (by decide) ?_
                      refine ws_lload (i := 8) X d_Dbl_divide_130 rfl ?_
                      refine ws_callS1 X (m_Dbl_digitsOf _ _) cs_Dbl_digitsOf ml_Dbl_42 rfl rfl (Nat.le_of_ble_eq_true rfl) ⟨Nat.le_of_ble_eq_true rfl, Nat.le_of_ble_eq_true rfl⟩ ⟨Nat.zero_le _, Nat.zero_le _⟩ d_Dbl_divide_132 ?_
                      refine ws_callS1 X (m_Dbl_leadingZeros _ _) cs_Dbl_leadingZeros ml_Dbl_53 rfl rfl (Nat.le_of_ble_eq_true rfl) ⟨Nat.le_of_ble_eq_true rfl, Nat.le_of_ble_eq_true rfl⟩ ⟨Nat.zero_le _, Nat.zero_le _⟩ d_Dbl_divide_135 ?_
                      refine ws_bipush (v := 11) X d_Dbl_divide_138 rfl ?_
                      refine ws_isub X d_Dbl_divide_140 ?_
                      refine ws_ist_11 X rfl d_Dbl_divide_141 (by decide) ?_
                      refine ws_lload (i := 6) X d_Dbl_divide_143 rfl ?_
                      refine ws_callS1 X (m_Dbl_digitsOf _ _) cs_Dbl_digitsOf ml_Dbl_42 rfl rfl (Nat.le_of_ble_eq_true rfl) ⟨Nat.le_of_ble_eq_true rfl, Nat.le_of_ble_eq_true rfl⟩ ⟨Nat.zero_le _, Nat.zero_le _⟩ d_Dbl_divide_145 ?_
                      refine ws_iload (i := 10) X d_Dbl_divide_148 rfl ?_
                      refine ws_lshl X d_Dbl_divide_150 ?_
                      refine ws_lload (i := 8) X d_Dbl_divide_151 rfl ?_
                      refine ws_callS1 X (m_Dbl_digitsOf _ _) cs_Dbl_digitsOf ml_Dbl_42 rfl rfl (Nat.le_of_ble_eq_true rfl) ⟨Nat.le_of_ble_eq_true rfl, Nat.le_of_ble_eq_true rfl⟩ ⟨Nat.zero_le _, Nat.zero_le _⟩ d_Dbl_divide_153 ?_
                      refine ws_iload (i := 11) X d_Dbl_divide_156 rfl ?_
                      refine ws_lshl X d_Dbl_divide_158 ?_
                      refine ws_callS1 X (m_Dbl_quotientWith60 _ _ _) cs_Dbl_quotientWith60 ml_Dbl_62 rfl rfl (Nat.le_of_ble_eq_true rfl) ⟨Nat.le_of_ble_eq_true rfl, Nat.le_of_ble_eq_true rfl⟩ ⟨Nat.zero_le _, Nat.zero_le _⟩ d_Dbl_divide_159 ?_
                      refine ws_lst_12 X rfl d_Dbl_divide_162 (by decide) ?_
                      refine ws_lload (i := 4) X d_Dbl_divide_164 rfl ?_
                      refine ws_lload (i := 6) X d_Dbl_divide_166 rfl ?_
                      refine ws_callS1 X (m_Dbl_scaleOf _ _) cs_Dbl_scaleOf ml_Dbl_38 rfl rfl (Nat.le_of_ble_eq_true rfl) ⟨Nat.le_of_ble_eq_true rfl, Nat.le_of_ble_eq_true rfl⟩ ⟨Nat.zero_le _, Nat.zero_le _⟩ d_Dbl_divide_168 ?_
                      refine ws_iload (i := 10) X d_Dbl_divide_171 rfl ?_
                      refine ws_isub X d_Dbl_divide_173 ?_
                      refine ws_lload (i := 8) X d_Dbl_divide_174 rfl ?_
                      refine ws_callS1 X (m_Dbl_scaleOf _ _) cs_Dbl_scaleOf ml_Dbl_38 rfl rfl (Nat.le_of_ble_eq_true rfl) ⟨Nat.le_of_ble_eq_true rfl, Nat.le_of_ble_eq_true rfl⟩ ⟨Nat.zero_le _, Nat.zero_le _⟩ d_Dbl_divide_176 ?_
                      refine ws_isub X d_Dbl_divide_179 ?_
                      refine ws_iload (i := 11) X d_Dbl_divide_180 rfl ?_
                      refine ws_iadd X d_Dbl_divide_182 ?_
                      refine ws_sipush (v := 1075) X d_Dbl_divide_183 rfl ?_
                      refine ws_iadd X d_Dbl_divide_186 ?_
                      refine ws_bipush (v := 60) X d_Dbl_divide_187 rfl ?_
                      refine ws_isub X d_Dbl_divide_189 ?_
                      refine ws_iconst (v := 3) X d_Dbl_divide_190 rfl ?_
                      refine ws_iadd X d_Dbl_divide_191 ?_
                      refine ws_lload (i := 12) X d_Dbl_divide_192 rfl ?_
                      refine ws_callS1 X (m_Dbl_rounded _ _ _ _) cs_Dbl_rounded ml_Dbl_49 rfl rfl (Nat.le_of_ble_eq_true rfl) ⟨Nat.le_of_ble_eq_true rfl, Nat.le_of_ble_eq_true rfl⟩ ⟨Nat.zero_le _, Nat.zero_le _⟩ d_Dbl_divide_194 ?_
                      refine ws_lret X d_Dbl_divide_197 ?_
                      first | contradiction | exact ⟨by simp [dDiv, dDivX, dUp, eq_false h26, eq_false h35, eq_true h44, eq_false h53, eq_true h60, eq_false h67, eq_false h80, eq_false h87, eq_false h101, eq_false h110], rfl⟩ | (exfalso; simp_all)
                    · refine ws_lload (i := 4) X d_Dbl_divide_114 rfl ?_
                      refine ws_lret X d_Dbl_divide_116 ?_
                      first | contradiction | exact ⟨by simp [dDiv, dDivX, dUp, eq_false h26, eq_false h35, eq_true h44, eq_false h53, eq_true h60, eq_false h67, eq_false h80, eq_false h87, eq_false h101, eq_true h110], rfl⟩ | (exfalso; simp_all)
                · refine ws_lload (i := 4) X d_Dbl_divide_91 rfl ?_
                  refine ws_ldc2 X d_Dbl_divide_93 ct_Dbl_17 ?_
                  refine ws_lor X d_Dbl_divide_96 ?_
                  refine ws_lret X d_Dbl_divide_97 ?_
                  first | contradiction | exact ⟨by simp [dDiv, dDivX, dUp, eq_false h26, eq_false h35, eq_true h44, eq_false h53, eq_true h60, eq_false h67, eq_false h80, eq_true h87], rfl⟩ | (exfalso; simp_all)
            · refine ws_ldc2 X d_Dbl_divide_71 ct_Dbl_13 ?_
              refine ws_lret X d_Dbl_divide_74 ?_
              first | contradiction | exact ⟨by simp [dDiv, dDivX, dUp, eq_false h26, eq_false h35, eq_true h44, eq_false h53, eq_true h60, eq_true h67], rfl⟩ | (exfalso; simp_all)

/-- a step of the root: the digits found, the rest, the next two bits -/
def sqStep (a r : Int64) : Int64 × Int64 := if r < (shl64 a 2 ||| 1) then (shl64 a 1, r) else (shl64 a 1 ||| 1, r - (shl64 a 2 ||| 1))
def sqNext (x : Int64) (i : Nat) : Int64 := if i < 27 then ushr64 x (52 - 2 * nI i) &&& 3 else 0
def sqGo (x : Int64) : Nat → Nat → Int64 → Int64 → Int64 × Int64
  | 0, _, a, r => (a, r)
  | n + 1, i, a, r => sqGo x n (i + 1) (sqStep a (shl64 r 2 ||| sqNext x i)).1 (sqStep a (shl64 r 2 ||| sqNext x i)).2
def dSq (x : Int64) : Int64 := if (sqGo x 56 0 0 0).2 = 0 then (sqGo x 56 0 0 0).1 else (sqGo x 56 0 0 0).1 ||| 1
section SQ
variable {p : Program} {l : Launch} {e0 : Env} {s : State} {m0 : MethodId} {args : Array Value} {below : List Frame} {meth : Method} {c0 : Code} {G : GG} {A : Nat → Prop} {Q : State → Prop}
theorem l_sq (X : CX p s m0 args meth c0 G A c_Dbl_rootWith29 y_Dbl_rootWith29.cls 11 ((some .long))) {S : MS} {x : Int64} : ∀ (n i : Nat) (a r : Int64) (b7 b8 b9 b10 : Option MV), i + n = 56 → (∀ (j : Int32) (b7 b8 b9 b10 : Option MV), WS p l e0 (rmS 0 0) s m0 args below meth c0 G A 11 0 0 Q 86 [some (.inl (.long x)), none, some (.inl (.long (sqGo x n i a r).1)), none, some (.inl (.long (sqGo x n i a r).2)), none, some (.inl (.int j)), b7, b8, b9, b10] [] (S)) → WS p l e0 (rmS 0 0) s m0 args below meth c0 G A 11 0 0 Q 8 [some (.inl (.long x)), none, some (.inl (.long a)), none, some (.inl (.long r)), none, some (.inl (.int (nI i))), b7, b8, b9, b10] [] (S) := by
  intro n
  induction n with
  | zero =>
    intro i a r b7 b8 b9 b10 hi K
    have e : i = 56 := by omega
    subst e
    refine ws_iload (i := 6) X d_Dbl_rootWith29_8 rfl ?_
    refine ws_bipush (v := 56) X d_Dbl_rootWith29_10 rfl ?_
    refine ws_icmp_ge X d_Dbl_rootWith29_12 (fun h12 => ?_) (fun h12 => ?_)
    · exact K _ _ _ _ _
    · exact absurd (by decide) h12
  | succ n ih =>
    intro i a r b7 b8 b9 b10 hi K
    have e : nI i + Int32.ofInt 1 = nI (i + 1) := by
      rw [show (Int32.ofInt 1) = 1 from rfl, nI_1]
    have h27 : (27 : Int32) ≤ nI i ↔ 27 ≤ i := by rw [show (27 : Int32) = nI 27 from rfl, nI_leI (by omega) (by omega)]
    refine ws_iload (i := 6) X d_Dbl_rootWith29_8 rfl ?_
    refine ws_bipush (v := 56) X d_Dbl_rootWith29_10 rfl ?_
    refine ws_icmp_ge X d_Dbl_rootWith29_12 (fun h12 => ?_) (fun h12 => ?_)
    · exact absurd h12 (by rw [show (56 : Int32) = nI 56 from rfl, nI_leI (by omega) (by omega)]; omega)
    · refine ws_iload (i := 6) X d_Dbl_rootWith29_15 rfl ?_
      refine ws_bipush (v := 27) X d_Dbl_rootWith29_17 rfl ?_
      refine ws_icmp_ge X d_Dbl_rootWith29_19 (fun h19 => ?_) (fun h19 => ?_)
      · refine ws_lconst (v := 0) X d_Dbl_rootWith29_38 rfl ?_
        refine ws_lst_7 X rfl d_Dbl_rootWith29_39 (by decide) ?_
        refine ws_lload_n (i := 2) X d_Dbl_rootWith29_41 rfl rfl ?_
        refine ws_iconst (v := 2) X d_Dbl_rootWith29_42 rfl ?_
        refine ws_lshl X d_Dbl_rootWith29_43 ?_
        refine ws_lconst (v := 1) X d_Dbl_rootWith29_44 rfl ?_
        refine ws_lor X d_Dbl_rootWith29_45 ?_
        refine ws_lst_9 X rfl d_Dbl_rootWith29_46 (by decide) ?_
        refine ws_lload (i := 4) X d_Dbl_rootWith29_48 rfl ?_
        refine ws_iconst (v := 2) X d_Dbl_rootWith29_50 rfl ?_
        refine ws_lshl X d_Dbl_rootWith29_51 ?_
        refine ws_lload (i := 7) X d_Dbl_rootWith29_52 rfl ?_
        refine ws_lor X d_Dbl_rootWith29_54 ?_
        refine ws_lst_4 X rfl d_Dbl_rootWith29_55 (by decide) ?_
        refine ws_lload_n (i := 2) X d_Dbl_rootWith29_57 rfl rfl ?_
        refine ws_iconst (v := 1) X d_Dbl_rootWith29_58 rfl ?_
        refine ws_lshl X d_Dbl_rootWith29_59 ?_
        refine ws_lstn_2 X rfl d_Dbl_rootWith29_60 (by decide) ?_
        refine ws_lload (i := 4) X d_Dbl_rootWith29_61 rfl ?_
        refine ws_lload (i := 9) X d_Dbl_rootWith29_63 rfl ?_
        refine ws_lcmp_lt X d_Dbl_rootWith29_65 d_Dbl_rootWith29_66 (fun h65 => ?_) (fun h65 => ?_)
        · refine ws_iinc_6 X rfl d_Dbl_rootWith29_80 rfl (by decide) ?_
          refine ws_goto X d_Dbl_rootWith29_83 ?_
          rw [e]; refine ih (i + 1) _ _ _ _ _ _ (by omega) (fun j b7 b8 b9 b10 => ?_); have K := K j b7 b8 b9 b10; rw [h27] at h19; have e27 : (i < 27) = ¬ (27 ≤ i) := (by simp); simp only [sqGo, sqStep, sqNext, e27, eq_false h12, eq_true h19, eq_true h65, if_true, if_false, not_true_eq_false, not_false_eq_true] at K; exact K
        · refine ws_lload (i := 4) X d_Dbl_rootWith29_69 rfl ?_
          refine ws_lload (i := 9) X d_Dbl_rootWith29_71 rfl ?_
          refine ws_lsub X d_Dbl_rootWith29_73 ?_
          refine ws_lst_4 X rfl d_Dbl_rootWith29_74 (by decide) ?_
          refine ws_lload_n (i := 2) X d_Dbl_rootWith29_76 rfl rfl ?_
          refine ws_lconst (v := 1) X d_Dbl_rootWith29_77 rfl ?_
          refine ws_lor X d_Dbl_rootWith29_78 ?_
          refine ws_lstn_2 X rfl d_Dbl_rootWith29_79 (by decide) ?_
          refine ws_iinc_6 X rfl d_Dbl_rootWith29_80 rfl (by decide) ?_
          refine ws_goto X d_Dbl_rootWith29_83 ?_
          rw [e]; refine ih (i + 1) _ _ _ _ _ _ (by omega) (fun j b7 b8 b9 b10 => ?_); have K := K j b7 b8 b9 b10; rw [h27] at h19; have e27 : (i < 27) = ¬ (27 ≤ i) := (by simp); simp only [sqGo, sqStep, sqNext, e27, eq_false h12, eq_true h19, eq_false h65, if_true, if_false, not_true_eq_false, not_false_eq_true] at K; exact K
      · refine ws_lload_n (i := 0) X d_Dbl_rootWith29_22 rfl rfl ?_
        refine ws_bipush (v := 52) X d_Dbl_rootWith29_23 rfl ?_
        refine ws_iconst (v := 2) X d_Dbl_rootWith29_25 rfl ?_
        refine ws_iload (i := 6) X d_Dbl_rootWith29_26 rfl ?_
        refine ws_imul X d_Dbl_rootWith29_28 ?_
        refine ws_isub X d_Dbl_rootWith29_29 ?_
        refine ws_lushr X d_Dbl_rootWith29_30 ?_
        refine ws_ldc2 X d_Dbl_rootWith29_31 ct_Dbl_68 ?_
        refine ws_land X d_Dbl_rootWith29_34 ?_
        refine ws_goto X d_Dbl_rootWith29_35 ?_
        refine ws_lst_7 X rfl d_Dbl_rootWith29_39 (by decide) ?_
        refine ws_lload_n (i := 2) X d_Dbl_rootWith29_41 rfl rfl ?_
        refine ws_iconst (v := 2) X d_Dbl_rootWith29_42 rfl ?_
        refine ws_lshl X d_Dbl_rootWith29_43 ?_
        refine ws_lconst (v := 1) X d_Dbl_rootWith29_44 rfl ?_
        refine ws_lor X d_Dbl_rootWith29_45 ?_
        refine ws_lst_9 X rfl d_Dbl_rootWith29_46 (by decide) ?_
        refine ws_lload (i := 4) X d_Dbl_rootWith29_48 rfl ?_
        refine ws_iconst (v := 2) X d_Dbl_rootWith29_50 rfl ?_
        refine ws_lshl X d_Dbl_rootWith29_51 ?_
        refine ws_lload (i := 7) X d_Dbl_rootWith29_52 rfl ?_
        refine ws_lor X d_Dbl_rootWith29_54 ?_
        refine ws_lst_4 X rfl d_Dbl_rootWith29_55 (by decide) ?_
        refine ws_lload_n (i := 2) X d_Dbl_rootWith29_57 rfl rfl ?_
        refine ws_iconst (v := 1) X d_Dbl_rootWith29_58 rfl ?_
        refine ws_lshl X d_Dbl_rootWith29_59 ?_
        refine ws_lstn_2 X rfl d_Dbl_rootWith29_60 (by decide) ?_
        refine ws_lload (i := 4) X d_Dbl_rootWith29_61 rfl ?_
        refine ws_lload (i := 9) X d_Dbl_rootWith29_63 rfl ?_
        refine ws_lcmp_lt X d_Dbl_rootWith29_65 d_Dbl_rootWith29_66 (fun h65 => ?_) (fun h65 => ?_)
        · refine ws_iinc_6 X rfl d_Dbl_rootWith29_80 rfl (by decide) ?_
          refine ws_goto X d_Dbl_rootWith29_83 ?_
          rw [e]; refine ih (i + 1) _ _ _ _ _ _ (by omega) (fun j b7 b8 b9 b10 => ?_); have K := K j b7 b8 b9 b10; rw [h27] at h19; have e27 : (i < 27) = ¬ (27 ≤ i) := (by simp); simp only [sqGo, sqStep, sqNext, e27, eq_false h12, eq_false h19, eq_true h65, if_true, if_false, not_true_eq_false, not_false_eq_true] at K; exact K
        · refine ws_lload (i := 4) X d_Dbl_rootWith29_69 rfl ?_
          refine ws_lload (i := 9) X d_Dbl_rootWith29_71 rfl ?_
          refine ws_lsub X d_Dbl_rootWith29_73 ?_
          refine ws_lst_4 X rfl d_Dbl_rootWith29_74 (by decide) ?_
          refine ws_lload_n (i := 2) X d_Dbl_rootWith29_76 rfl rfl ?_
          refine ws_lconst (v := 1) X d_Dbl_rootWith29_77 rfl ?_
          refine ws_lor X d_Dbl_rootWith29_78 ?_
          refine ws_lstn_2 X rfl d_Dbl_rootWith29_79 (by decide) ?_
          refine ws_iinc_6 X rfl d_Dbl_rootWith29_80 rfl (by decide) ?_
          refine ws_goto X d_Dbl_rootWith29_83 ?_
          rw [e]; refine ih (i + 1) _ _ _ _ _ _ (by omega) (fun j b7 b8 b9 b10 => ?_); have K := K j b7 b8 b9 b10; rw [h27] at h19; have e27 : (i < 27) = ¬ (27 ≤ i) := (by simp); simp only [sqGo, sqStep, sqNext, e27, eq_false h12, eq_false h19, eq_false h65, if_true, if_false, not_true_eq_false, not_false_eq_true] at K; exact K
end SQ
theorem m_Dbl_rootWith29 (S : MS) (x : Int64) : MetE y_Dbl_rootWith29 c_Dbl_rootWith29 11 ((some .long)) 0 0 [.inl (.long x)] S (some (.inl (.long (dSq x)))) (S) := by
  refine MetS.of (lv0 := [some (.inl (.long x)), none, none, none, none, none, none, none, none, none, none]) pn_Dbl rfl (Nat.le_of_ble_eq_true rfl) (fun p l e0 s m0 args below meth c0 G X => ?_)
  refine ws_lconst (v := 0) X d_Dbl_rootWith29_0 rfl ?_
  refine ws_lstn_2 X rfl d_Dbl_rootWith29_1 (by decide) ?_
  refine ws_lconst (v := 0) X d_Dbl_rootWith29_2 rfl ?_
  refine ws_lst_4 X rfl d_Dbl_rootWith29_3 (by decide) ?_
  refine ws_iconst (v := 0) X d_Dbl_rootWith29_5 rfl ?_
  refine ws_ist_6 X rfl d_Dbl_rootWith29_6 (by decide) ?_
  refine l_sq X 56 0 0 0 _ _ _ _ (by omega) (fun j b7 b8 b9 b10 => ?_)
  refine ws_lload (i := 4) X d_Dbl_rootWith29_86 rfl ?_
  refine ws_lconst (v := 0) X d_Dbl_rootWith29_88 rfl ?_
  refine ws_lcmp_ne X d_Dbl_rootWith29_89 d_Dbl_rootWith29_90 (fun h89 => ?_) (fun h89 => ?_)
  · refine ws_lload_n (i := 2) X d_Dbl_rootWith29_97 rfl rfl ?_
    refine ws_lconst (v := 1) X d_Dbl_rootWith29_98 rfl ?_
    refine ws_lor X d_Dbl_rootWith29_99 ?_
    refine ws_lret X d_Dbl_rootWith29_100 ?_
    exact ⟨by simp [dSq, eq_false h89], rfl⟩
  · refine ws_lload_n (i := 2) X d_Dbl_rootWith29_93 rfl rfl ?_
    refine ws_goto X d_Dbl_rootWith29_94 ?_
    refine ws_lret X d_Dbl_rootWith29_100 ?_
    exact ⟨by simp [dSq, eq_true h89], rfl⟩

def rPow (a : Int64) : Int32 := dScale a - (dLz (dDig a) - 11) - 1075
def dSqrt (a : Int64) : Int64 := if dAbs a = 0 ∨ a = 9218868437227405312 then a else if dNan a = true ∨ ¬ 0 ≤ a then 9221120237041090560 else dRound 0 (shr32 (rPow a - (rPow a &&& 1)) 1 - 29 + 1075 + 3) (dSq (shl64 (dDig a) (dLz (dDig a) - 11 + (rPow a &&& 1))))
theorem m_Dbl_root (S : MS) (a : Int64) : MetE y_Dbl_root c_Dbl_root 7 ((some .long)) 2 57 [.inl (.long a)] S (some (.inl (.long (dSqrt a)))) (S) := by
  refine MetS.of (lv0 := [some (.inl (.long a)), none, none, none, none, none, none]) pn_Dbl rfl (Nat.le_of_ble_eq_true rfl) (fun p l e0 s m0 args below meth c0 G X => ?_)
  refine ws_lload_n (i := 0) X d_Dbl_root_0 rfl rfl ?_
  refine ws_callS1 X (m_Dbl_absolute _ _) cs_Dbl_absolute ml_Dbl_35 rfl rfl (Nat.le_of_ble_eq_true rfl) ⟨Nat.le_of_ble_eq_true rfl, Nat.le_of_ble_eq_true rfl⟩ ⟨Nat.zero_le _, Nat.zero_le _⟩ d_Dbl_root_1 ?_
  refine ws_lconst (v := 0) X d_Dbl_root_4 rfl ?_
  refine ws_lcmp_eq X d_Dbl_root_5 d_Dbl_root_6 (fun h5 => ?_) (fun h5 => ?_)
  · refine ws_lload_n (i := 0) X d_Dbl_root_17 rfl rfl ?_
    refine ws_lret X d_Dbl_root_18 ?_
    exact ⟨by simp [dSqrt, rPow, eq_true h5], rfl⟩
  · refine ws_lload_n (i := 0) X d_Dbl_root_9 rfl rfl ?_
    refine ws_ldc2 X d_Dbl_root_10 ct_Dbl_17 ?_
    refine ws_lcmp_ne X d_Dbl_root_13 d_Dbl_root_14 (fun h13 => ?_) (fun h13 => ?_)
    · refine ws_lload_n (i := 0) X d_Dbl_root_19 rfl rfl ?_
      refine ws_callS1 X (m_Dbl_isNan _ _) cs_Dbl_isNan ml_Dbl_7 rfl rfl (Nat.le_of_ble_eq_true rfl) ⟨Nat.le_of_ble_eq_true rfl, Nat.le_of_ble_eq_true rfl⟩ ⟨Nat.zero_le _, Nat.zero_le _⟩ d_Dbl_root_20 ?_
      refine ws_ifB_ne X d_Dbl_root_23 (fun h23 => ?_) (fun h23 => ?_)
      · refine ws_ldc2 X d_Dbl_root_32 ct_Dbl_13 ?_
        refine ws_lret X d_Dbl_root_35 ?_
        exact ⟨by simp [dSqrt, rPow, eq_false h5, eq_false h13, h23], rfl⟩
      · refine ws_lload_n (i := 0) X d_Dbl_root_26 rfl rfl ?_
        refine ws_lconst (v := 0) X d_Dbl_root_27 rfl ?_
        refine ws_lcmp_ge X d_Dbl_root_28 d_Dbl_root_29 (fun h28 => ?_) (fun h28 => ?_)
        · refine ws_lload_n (i := 0) X d_Dbl_root_36 rfl rfl ?_
          refine ws_callS1 X (m_Dbl_digitsOf _ _) cs_Dbl_digitsOf ml_Dbl_42 rfl rfl (Nat.le_of_ble_eq_true rfl) ⟨Nat.le_of_ble_eq_true rfl, Nat.le_of_ble_eq_true rfl⟩ ⟨Nat.zero_le _, Nat.zero_le _⟩ d_Dbl_root_37 ?_
          refine ws_callS1 X (m_Dbl_leadingZeros _ _) cs_Dbl_leadingZeros ml_Dbl_53 rfl rfl (Nat.le_of_ble_eq_true rfl) ⟨Nat.le_of_ble_eq_true rfl, Nat.le_of_ble_eq_true rfl⟩ ⟨Nat.zero_le _, Nat.zero_le _⟩ d_Dbl_root_40 ?_
          refine ws_bipush (v := 11) X d_Dbl_root_43 rfl ?_
          refine ws_isub X d_Dbl_root_45 ?_
          refine ws_istn_2 X rfl d_Dbl_root_46 (by decide) ?_
          refine ws_lload_n (i := 0) X d_Dbl_root_47 rfl rfl ?_
          refine ws_callS1 X (m_Dbl_scaleOf _ _) cs_Dbl_scaleOf ml_Dbl_38 rfl rfl (Nat.le_of_ble_eq_true rfl) ⟨Nat.le_of_ble_eq_true rfl, Nat.le_of_ble_eq_true rfl⟩ ⟨Nat.zero_le _, Nat.zero_le _⟩ d_Dbl_root_48 ?_
          refine ws_iload_n (i := 2) X d_Dbl_root_51 rfl rfl ?_
          refine ws_isub X d_Dbl_root_52 ?_
          refine ws_sipush (v := 1075) X d_Dbl_root_53 rfl ?_
          refine ws_isub X d_Dbl_root_56 ?_
          refine ws_istn_3 X rfl d_Dbl_root_57 (by decide) ?_
          refine ws_iload_n (i := 3) X d_Dbl_root_58 rfl rfl ?_
          refine ws_iconst (v := 1) X d_Dbl_root_59 rfl ?_
          refine ws_iand X d_Dbl_root_60 ?_
          refine ws_ist_4 X rfl d_Dbl_root_61 (by decide) ?_
          refine ws_lload_n (i := 0) X d_Dbl_root_63 rfl rfl ?_
          refine ws_callS1 X (m_Dbl_digitsOf _ _) cs_Dbl_digitsOf ml_Dbl_42 rfl rfl (Nat.le_of_ble_eq_true rfl) ⟨Nat.le_of_ble_eq_true rfl, Nat.le_of_ble_eq_true rfl⟩ ⟨Nat.zero_le _, Nat.zero_le _⟩ d_Dbl_root_64 ?_
          refine ws_iload_n (i := 2) X d_Dbl_root_67 rfl rfl ?_
          refine ws_iload (i := 4) X d_Dbl_root_68 rfl ?_
          refine ws_iadd X d_Dbl_root_70 ?_
          refine ws_lshl X d_Dbl_root_71 ?_
          refine ws_callS1 X (m_Dbl_rootWith29 _ _) cs_Dbl_rootWith29 ml_Dbl_65 rfl rfl (Nat.le_of_ble_eq_true rfl) ⟨Nat.le_of_ble_eq_true rfl, Nat.le_of_ble_eq_true rfl⟩ ⟨Nat.zero_le _, Nat.zero_le _⟩ d_Dbl_root_72 ?_
          refine ws_lst_5 X rfl d_Dbl_root_75 (by decide) ?_
          refine ws_lconst (v := 0) X d_Dbl_root_77 rfl ?_
          refine ws_iload_n (i := 3) X d_Dbl_root_78 rfl rfl ?_
          refine ws_iload (i := 4) X d_Dbl_root_79 rfl ?_
          refine ws_isub X d_Dbl_root_81 ?_
          refine ws_iconst (v := 1) X d_Dbl_root_82 rfl ?_
          refine ws_ishr X d_Dbl_root_83 ?_
          refine ws_bipush (v := 29) X d_Dbl_root_84 rfl ?_
          refine ws_isub X d_Dbl_root_86 ?_
          refine ws_sipush (v := 1075) X d_Dbl_root_87 rfl ?_
          refine ws_iadd X d_Dbl_root_90 ?_
          refine ws_iconst (v := 3) X d_Dbl_root_91 rfl ?_
          refine ws_iadd X d_Dbl_root_92 ?_
          refine ws_lload (i := 5) X d_Dbl_root_93 rfl ?_
          refine ws_callS1 X (m_Dbl_rounded _ _ _ _) cs_Dbl_rounded ml_Dbl_49 rfl rfl (Nat.le_of_ble_eq_true rfl) ⟨Nat.le_of_ble_eq_true rfl, Nat.le_of_ble_eq_true rfl⟩ ⟨Nat.zero_le _, Nat.zero_le _⟩ d_Dbl_root_95 ?_
          refine ws_lret X d_Dbl_root_98 ?_
          exact ⟨by simp [dSqrt, rPow, eq_false h5, eq_false h13, h23, eq_true h28], rfl⟩
        · refine ws_ldc2 X d_Dbl_root_32 ct_Dbl_13 ?_
          refine ws_lret X d_Dbl_root_35 ?_
          exact ⟨by simp [dSqrt, rPow, eq_false h5, eq_false h13, h23, eq_false h28], rfl⟩
    · refine ws_lload_n (i := 0) X d_Dbl_root_17 rfl rfl ?_
      refine ws_lret X d_Dbl_root_18 ?_
      exact ⟨by simp [dSqrt, rPow, eq_false h5, eq_true h13], rfl⟩

def dWhole (a : Int64) : Int32 := (ushr64 (dAbs a) 52).toInt32 - 1023
def dFloor (a : Int64) : Int64 := if dAbs a = 0 ∨ ¬ dWhole a < 52 then a else if 0 ≤ dWhole a then (if 0 ≤ a then a &&& ((shl64 1 (52 - dWhole a) - 1) ^^^ (-1)) else if (a &&& (shl64 1 (52 - dWhole a) - 1)) = 0 then a &&& ((shl64 1 (52 - dWhole a) - 1) ^^^ (-1)) else (a + (shl64 1 (52 - dWhole a) - 1)) &&& ((shl64 1 (52 - dWhole a) - 1) ^^^ (-1))) else if 0 ≤ a then 0 else -4616189618054758400
theorem m_Dbl_floor (S : MS) (a : Int64) : MetE y_Dbl_floor c_Dbl_floor 6 ((some .long)) 1 21 [.inl (.long a)] S (some (.inl (.long (dFloor a)))) (S) := by
  refine MetS.of (lv0 := [some (.inl (.long a)), none, none, none, none, none]) pn_Dbl rfl (Nat.le_of_ble_eq_true rfl) (fun p l e0 s m0 args below meth c0 G X => ?_)
  refine ws_lload_n (i := 0) X d_Dbl_floor_0 rfl rfl ?_
  refine ws_callS1 X (m_Dbl_absolute _ _) cs_Dbl_absolute ml_Dbl_35 rfl rfl (Nat.le_of_ble_eq_true rfl) ⟨Nat.le_of_ble_eq_true rfl, Nat.le_of_ble_eq_true rfl⟩ ⟨Nat.zero_le _, Nat.zero_le _⟩ d_Dbl_floor_1 ?_
  refine ws_bipush (v := 52) X d_Dbl_floor_4 rfl ?_
  refine ws_lushr X d_Dbl_floor_6 ?_
  refine ws_l2i X d_Dbl_floor_7 ?_
  refine ws_sipush (v := 1023) X d_Dbl_floor_8 rfl ?_
  refine ws_isub X d_Dbl_floor_11 ?_
  refine ws_istn_2 X rfl d_Dbl_floor_12 (by decide) ?_
  refine ws_lload_n (i := 0) X d_Dbl_floor_13 rfl rfl ?_
  refine ws_callS1 X (m_Dbl_absolute _ _) cs_Dbl_absolute ml_Dbl_35 rfl rfl (Nat.le_of_ble_eq_true rfl) ⟨Nat.le_of_ble_eq_true rfl, Nat.le_of_ble_eq_true rfl⟩ ⟨Nat.zero_le _, Nat.zero_le _⟩ d_Dbl_floor_14 ?_
  refine ws_lconst (v := 0) X d_Dbl_floor_17 rfl ?_
  refine ws_lcmp_eq X d_Dbl_floor_18 d_Dbl_floor_19 (fun h18 => ?_) (fun h18 => ?_)
  · refine ws_lload_n (i := 0) X d_Dbl_floor_28 rfl rfl ?_
    refine ws_lret X d_Dbl_floor_29 ?_
    exact ⟨by simp [dFloor, dWhole, eq_true h18], rfl⟩
  · refine ws_iload_n (i := 2) X d_Dbl_floor_22 rfl rfl ?_
    refine ws_bipush (v := 52) X d_Dbl_floor_23 rfl ?_
    refine ws_icmp_lt X d_Dbl_floor_25 (fun h25 => ?_) (fun h25 => ?_)
    · refine ws_iload_n (i := 2) X d_Dbl_floor_30 rfl rfl ?_
      refine ws_if_ge X d_Dbl_floor_31 (fun h31 => ?_) (fun h31 => ?_)
      · refine ws_lconst (v := 1) X d_Dbl_floor_48 rfl ?_
        refine ws_bipush (v := 52) X d_Dbl_floor_49 rfl ?_
        refine ws_iload_n (i := 2) X d_Dbl_floor_51 rfl rfl ?_
        refine ws_isub X d_Dbl_floor_52 ?_
        refine ws_lshl X d_Dbl_floor_53 ?_
        refine ws_lconst (v := 1) X d_Dbl_floor_54 rfl ?_
        refine ws_lsub X d_Dbl_floor_55 ?_
        refine ws_lstn_3 X rfl d_Dbl_floor_56 (by decide) ?_
        refine ws_lload_n (i := 0) X d_Dbl_floor_57 rfl rfl ?_
        refine ws_lconst (v := 0) X d_Dbl_floor_58 rfl ?_
        refine ws_lcmp_ge X d_Dbl_floor_59 d_Dbl_floor_60 (fun h59 => ?_) (fun h59 => ?_)
        · refine ws_iconst (v := 0) X d_Dbl_floor_75 rfl ?_
          refine ws_ist_5 X rfl d_Dbl_floor_76 (by decide) ?_
          refine ws_iload (i := 5) X d_Dbl_floor_78 rfl ?_
          refine ws_if_eq X d_Dbl_floor_80 (fun h80 => ?_) (fun h80 => ?_)
          · refine ws_lload_n (i := 0) X d_Dbl_floor_89 rfl rfl ?_
            refine ws_lload_n (i := 3) X d_Dbl_floor_90 rfl rfl ?_
            refine ws_ldc2 X d_Dbl_floor_91 ct_Dbl_72 ?_
            refine ws_lxor X d_Dbl_floor_94 ?_
            refine ws_land X d_Dbl_floor_95 ?_
            refine ws_lret X d_Dbl_floor_96 ?_
            exact ⟨by simp [dFloor, dWhole, eq_false h18, eq_true h25, eq_true h31, eq_true h59, eq_true h80], rfl⟩
          · exact absurd h80 (by decide)
        · refine ws_lload_n (i := 0) X d_Dbl_floor_63 rfl rfl ?_
          refine ws_lload_n (i := 3) X d_Dbl_floor_64 rfl rfl ?_
          refine ws_land X d_Dbl_floor_65 ?_
          refine ws_lconst (v := 0) X d_Dbl_floor_66 rfl ?_
          refine ws_lcmp_eq X d_Dbl_floor_67 d_Dbl_floor_68 (fun h67 => ?_) (fun h67 => ?_)
          · refine ws_iconst (v := 0) X d_Dbl_floor_75 rfl ?_
            refine ws_ist_5 X rfl d_Dbl_floor_76 (by decide) ?_
            refine ws_iload (i := 5) X d_Dbl_floor_78 rfl ?_
            refine ws_if_eq X d_Dbl_floor_80 (fun h80 => ?_) (fun h80 => ?_)
            · refine ws_lload_n (i := 0) X d_Dbl_floor_89 rfl rfl ?_
              refine ws_lload_n (i := 3) X d_Dbl_floor_90 rfl rfl ?_
              refine ws_ldc2 X d_Dbl_floor_91 ct_Dbl_72 ?_
              refine ws_lxor X d_Dbl_floor_94 ?_
              refine ws_land X d_Dbl_floor_95 ?_
              refine ws_lret X d_Dbl_floor_96 ?_
              exact ⟨by simp [dFloor, dWhole, eq_false h18, eq_true h25, eq_true h31, eq_false h59, eq_true h67, eq_true h80], rfl⟩
            · exact absurd h80 (by decide)
          · refine ws_iconst (v := 1) X d_Dbl_floor_71 rfl ?_
            refine ws_goto X d_Dbl_floor_72 ?_
            refine ws_ist_5 X rfl d_Dbl_floor_76 (by decide) ?_
            refine ws_iload (i := 5) X d_Dbl_floor_78 rfl ?_
            refine ws_if_eq X d_Dbl_floor_80 (fun h80 => ?_) (fun h80 => ?_)
            · exact absurd h80 (by decide)
            · refine ws_lload_n (i := 0) X d_Dbl_floor_83 rfl rfl ?_
              refine ws_lload_n (i := 3) X d_Dbl_floor_84 rfl rfl ?_
              refine ws_ladd X d_Dbl_floor_85 ?_
              refine ws_goto X d_Dbl_floor_86 ?_
              refine ws_lload_n (i := 3) X d_Dbl_floor_90 rfl rfl ?_
              refine ws_ldc2 X d_Dbl_floor_91 ct_Dbl_72 ?_
              refine ws_lxor X d_Dbl_floor_94 ?_
              refine ws_land X d_Dbl_floor_95 ?_
              refine ws_lret X d_Dbl_floor_96 ?_
              exact ⟨by simp [dFloor, dWhole, eq_false h18, eq_true h25, eq_true h31, eq_false h59, eq_false h67, eq_false h80], rfl⟩
      · refine ws_lload_n (i := 0) X d_Dbl_floor_34 rfl rfl ?_
        refine ws_lconst (v := 0) X d_Dbl_floor_35 rfl ?_
        refine ws_lcmp_ge X d_Dbl_floor_36 d_Dbl_floor_37 (fun h36 => ?_) (fun h36 => ?_)
        · refine ws_lconst (v := 0) X d_Dbl_floor_46 rfl ?_
          refine ws_lret X d_Dbl_floor_47 ?_
          exact ⟨by simp [dFloor, dWhole, eq_false h18, eq_true h25, eq_false h31, eq_true h36], rfl⟩
        · refine ws_ldc2 X d_Dbl_floor_40 ct_Dbl_70 ?_
          refine ws_goto X d_Dbl_floor_43 ?_
          refine ws_lret X d_Dbl_floor_47 ?_
          exact ⟨by simp [dFloor, dWhole, eq_false h18, eq_true h25, eq_false h31, eq_false h36], rfl⟩
    · refine ws_lload_n (i := 0) X d_Dbl_floor_28 rfl rfl ?_
      refine ws_lret X d_Dbl_floor_29 ?_
      exact ⟨by simp [dFloor, dWhole, eq_false h18, eq_false h25], rfl⟩

def dSign (a : Int64) : Int64 := if dNan a = true ∨ dAbs a = 0 then a else (a &&& (-9223372036854775808)) ||| 4607182418800017408
theorem m_Dbl_sign (S : MS) (a : Int64) : MetE y_Dbl_sign c_Dbl_sign 2 ((some .long)) 1 21 [.inl (.long a)] S (some (.inl (.long (dSign a)))) (S) := by
  refine MetS.of (lv0 := [some (.inl (.long a)), none]) pn_Dbl rfl (Nat.le_of_ble_eq_true rfl) (fun p l e0 s m0 args below meth c0 G X => ?_)
  refine ws_lload_n (i := 0) X d_Dbl_sign_0 rfl rfl ?_
  refine ws_callS1 X (m_Dbl_isNan _ _) cs_Dbl_isNan ml_Dbl_7 rfl rfl (Nat.le_of_ble_eq_true rfl) ⟨Nat.le_of_ble_eq_true rfl, Nat.le_of_ble_eq_true rfl⟩ ⟨Nat.zero_le _, Nat.zero_le _⟩ d_Dbl_sign_1 ?_
  refine ws_ifB_ne X d_Dbl_sign_4 (fun h4 => ?_) (fun h4 => ?_)
  · refine ws_lload_n (i := 0) X d_Dbl_sign_16 rfl rfl ?_
    refine ws_goto X d_Dbl_sign_17 ?_
    refine ws_lret X d_Dbl_sign_29 ?_
    exact ⟨by simp [dSign, h4], rfl⟩
  · refine ws_lload_n (i := 0) X d_Dbl_sign_7 rfl rfl ?_
    refine ws_callS1 X (m_Dbl_absolute _ _) cs_Dbl_absolute ml_Dbl_35 rfl rfl (Nat.le_of_ble_eq_true rfl) ⟨Nat.le_of_ble_eq_true rfl, Nat.le_of_ble_eq_true rfl⟩ ⟨Nat.zero_le _, Nat.zero_le _⟩ d_Dbl_sign_8 ?_
    refine ws_lconst (v := 0) X d_Dbl_sign_11 rfl ?_
    refine ws_lcmp_ne X d_Dbl_sign_12 d_Dbl_sign_13 (fun h12 => ?_) (fun h12 => ?_)
    · refine ws_lload_n (i := 0) X d_Dbl_sign_20 rfl rfl ?_
      refine ws_ldc2 X d_Dbl_sign_21 ct_Dbl_19 ?_
      refine ws_land X d_Dbl_sign_24 ?_
      refine ws_ldc2 X d_Dbl_sign_25 ct_Dbl_74 ?_
      refine ws_lor X d_Dbl_sign_28 ?_
      refine ws_lret X d_Dbl_sign_29 ?_
      exact ⟨by simp [dSign, h4, eq_false h12], rfl⟩
    · refine ws_lload_n (i := 0) X d_Dbl_sign_16 rfl rfl ?_
      refine ws_goto X d_Dbl_sign_17 ?_
      refine ws_lret X d_Dbl_sign_29 ?_
      exact ⟨by simp [dSign, h4, eq_true h12], rfl⟩

def dOrd (a : Int64) : Int64 := if 0 ≤ a then a else -(dAbs a)
def dBelow (a b : Int64) : Bool := !(dNan a) && !(dNan b) && decide (¬ dOrd b ≤ dOrd a)
theorem m_Dbl_isBelow (S : MS) (a b : Int64) : MetE y_Dbl_isBelow c_Dbl_isBelow 8 ((some .boolean)) 1 21 [.inl (.long a), .inl (.long b)] S (some (.inl (.int (bI (dBelow a b))))) (S) := by
  refine MetS.of (lv0 := [some (.inl (.long a)), none, some (.inl (.long b)), none, none, none, none, none]) pn_Dbl rfl (Nat.le_of_ble_eq_true rfl) (fun p l e0 s m0 args below meth c0 G X => ?_)
  refine ws_lload_n (i := 0) X d_Dbl_isBelow_0 rfl rfl ?_
  refine ws_lconst (v := 0) X d_Dbl_isBelow_1 rfl ?_
  refine ws_lcmp_ge X d_Dbl_isBelow_2 d_Dbl_isBelow_3 (fun h2 => ?_) (fun h2 => ?_)
  · refine ws_lload_n (i := 0) X d_Dbl_isBelow_14 rfl rfl ?_
    refine ws_lst_4 X rfl d_Dbl_isBelow_15 (by decide) ?_
    refine ws_lload_n (i := 2) X d_Dbl_isBelow_17 rfl rfl ?_
    refine ws_lconst (v := 0) X d_Dbl_isBelow_18 rfl ?_
    refine ws_lcmp_ge X d_Dbl_isBelow_19 d_Dbl_isBelow_20 (fun h19 => ?_) (fun h19 => ?_)
    · refine ws_lload_n (i := 2) X d_Dbl_isBelow_31 rfl rfl ?_
      refine ws_lst_6 X rfl d_Dbl_isBelow_32 (by decide) ?_
      refine ws_lload_n (i := 0) X d_Dbl_isBelow_34 rfl rfl ?_
      refine ws_callS1 X (m_Dbl_isNan _ _) cs_Dbl_isNan ml_Dbl_7 rfl rfl (Nat.le_of_ble_eq_true rfl) ⟨Nat.le_of_ble_eq_true rfl, Nat.le_of_ble_eq_true rfl⟩ ⟨Nat.zero_le _, Nat.zero_le _⟩ d_Dbl_isBelow_35 ?_
      refine ws_ifB_ne X d_Dbl_isBelow_38 (fun h38 => ?_) (fun h38 => ?_)
      · refine ws_iconst (v := 0) X d_Dbl_isBelow_60 rfl ?_
        refine ws_zret X (rfl) d_Dbl_isBelow_61 ?_
        exact ⟨by simp [dBelow, dOrd, bI, eq_true h2, eq_true h19, h38], rfl⟩
      · refine ws_lload_n (i := 2) X d_Dbl_isBelow_41 rfl rfl ?_
        refine ws_callS1 X (m_Dbl_isNan _ _) cs_Dbl_isNan ml_Dbl_7 rfl rfl (Nat.le_of_ble_eq_true rfl) ⟨Nat.le_of_ble_eq_true rfl, Nat.le_of_ble_eq_true rfl⟩ ⟨Nat.zero_le _, Nat.zero_le _⟩ d_Dbl_isBelow_42 ?_
        refine ws_ifB_ne X d_Dbl_isBelow_45 (fun h45 => ?_) (fun h45 => ?_)
        · refine ws_iconst (v := 0) X d_Dbl_isBelow_60 rfl ?_
          refine ws_zret X (rfl) d_Dbl_isBelow_61 ?_
          exact ⟨by simp [dBelow, dOrd, bI, eq_true h2, eq_true h19, h38, h45], rfl⟩
        · refine ws_lload (i := 4) X d_Dbl_isBelow_48 rfl ?_
          refine ws_lload (i := 6) X d_Dbl_isBelow_50 rfl ?_
          refine ws_lcmp_ge X d_Dbl_isBelow_52 d_Dbl_isBelow_53 (fun h52 => ?_) (fun h52 => ?_)
          · refine ws_iconst (v := 0) X d_Dbl_isBelow_60 rfl ?_
            refine ws_zret X (rfl) d_Dbl_isBelow_61 ?_
            exact ⟨by simp [dBelow, dOrd, bI, eq_true h2, eq_true h19, h38, h45, eq_true h52], rfl⟩
          · refine ws_iconst (v := 1) X d_Dbl_isBelow_56 rfl ?_
            refine ws_goto X d_Dbl_isBelow_57 ?_
            refine ws_zret X (rfl) d_Dbl_isBelow_61 ?_
            exact ⟨by simp [dBelow, dOrd, bI, eq_true h2, eq_true h19, h38, h45, eq_false h52], rfl⟩
    · refine ws_lload_n (i := 2) X d_Dbl_isBelow_23 rfl rfl ?_
      refine ws_callS1 X (m_Dbl_absolute _ _) cs_Dbl_absolute ml_Dbl_35 rfl rfl (Nat.le_of_ble_eq_true rfl) ⟨Nat.le_of_ble_eq_true rfl, Nat.le_of_ble_eq_true rfl⟩ ⟨Nat.zero_le _, Nat.zero_le _⟩ d_Dbl_isBelow_24 ?_
      refine ws_lneg X d_Dbl_isBelow_27 ?_
      refine ws_goto X d_Dbl_isBelow_28 ?_
      refine ws_lst_6 X rfl d_Dbl_isBelow_32 (by decide) ?_
      refine ws_lload_n (i := 0) X d_Dbl_isBelow_34 rfl rfl ?_
      refine ws_callS1 X (m_Dbl_isNan _ _) cs_Dbl_isNan ml_Dbl_7 rfl rfl (Nat.le_of_ble_eq_true rfl) ⟨Nat.le_of_ble_eq_true rfl, Nat.le_of_ble_eq_true rfl⟩ ⟨Nat.zero_le _, Nat.zero_le _⟩ d_Dbl_isBelow_35 ?_
      refine ws_ifB_ne X d_Dbl_isBelow_38 (fun h38 => ?_) (fun h38 => ?_)
      · refine ws_iconst (v := 0) X d_Dbl_isBelow_60 rfl ?_
        refine ws_zret X (rfl) d_Dbl_isBelow_61 ?_
        exact ⟨by simp [dBelow, dOrd, bI, eq_true h2, eq_false h19, h38], rfl⟩
      · refine ws_lload_n (i := 2) X d_Dbl_isBelow_41 rfl rfl ?_
        refine ws_callS1 X (m_Dbl_isNan _ _) cs_Dbl_isNan ml_Dbl_7 rfl rfl (Nat.le_of_ble_eq_true rfl) ⟨Nat.le_of_ble_eq_true rfl, Nat.le_of_ble_eq_true rfl⟩ ⟨Nat.zero_le _, Nat.zero_le _⟩ d_Dbl_isBelow_42 ?_
        refine ws_ifB_ne X d_Dbl_isBelow_45 (fun h45 => ?_) (fun h45 => ?_)
        · refine ws_iconst (v := 0) X d_Dbl_isBelow_60 rfl ?_
          refine ws_zret X (rfl) d_Dbl_isBelow_61 ?_
          exact ⟨by simp [dBelow, dOrd, bI, eq_true h2, eq_false h19, h38, h45], rfl⟩
        · refine ws_lload (i := 4) X d_Dbl_isBelow_48 rfl ?_
          refine ws_lload (i := 6) X d_Dbl_isBelow_50 rfl ?_
          refine ws_lcmp_ge X d_Dbl_isBelow_52 d_Dbl_isBelow_53 (fun h52 => ?_) (fun h52 => ?_)
          · refine ws_iconst (v := 0) X d_Dbl_isBelow_60 rfl ?_
            refine ws_zret X (rfl) d_Dbl_isBelow_61 ?_
            exact ⟨by simp [dBelow, dOrd, bI, eq_true h2, eq_false h19, h38, h45, eq_true h52], rfl⟩
          · refine ws_iconst (v := 1) X d_Dbl_isBelow_56 rfl ?_
            refine ws_goto X d_Dbl_isBelow_57 ?_
            refine ws_zret X (rfl) d_Dbl_isBelow_61 ?_
            exact ⟨by simp [dBelow, dOrd, bI, eq_true h2, eq_false h19, h38, h45, eq_false h52], rfl⟩
  · refine ws_lload_n (i := 0) X d_Dbl_isBelow_6 rfl rfl ?_
    refine ws_callS1 X (m_Dbl_absolute _ _) cs_Dbl_absolute ml_Dbl_35 rfl rfl (Nat.le_of_ble_eq_true rfl) ⟨Nat.le_of_ble_eq_true rfl, Nat.le_of_ble_eq_true rfl⟩ ⟨Nat.zero_le _, Nat.zero_le _⟩ d_Dbl_isBelow_7 ?_
    refine ws_lneg X d_Dbl_isBelow_10 ?_
    refine ws_goto X d_Dbl_isBelow_11 ?_
    refine ws_lst_4 X rfl d_Dbl_isBelow_15 (by decide) ?_
    refine ws_lload_n (i := 2) X d_Dbl_isBelow_17 rfl rfl ?_
    refine ws_lconst (v := 0) X d_Dbl_isBelow_18 rfl ?_
    refine ws_lcmp_ge X d_Dbl_isBelow_19 d_Dbl_isBelow_20 (fun h19 => ?_) (fun h19 => ?_)
    · refine ws_lload_n (i := 2) X d_Dbl_isBelow_31 rfl rfl ?_
      refine ws_lst_6 X rfl d_Dbl_isBelow_32 (by decide) ?_
      refine ws_lload_n (i := 0) X d_Dbl_isBelow_34 rfl rfl ?_
      refine ws_callS1 X (m_Dbl_isNan _ _) cs_Dbl_isNan ml_Dbl_7 rfl rfl (Nat.le_of_ble_eq_true rfl) ⟨Nat.le_of_ble_eq_true rfl, Nat.le_of_ble_eq_true rfl⟩ ⟨Nat.zero_le _, Nat.zero_le _⟩ d_Dbl_isBelow_35 ?_
      refine ws_ifB_ne X d_Dbl_isBelow_38 (fun h38 => ?_) (fun h38 => ?_)
      · refine ws_iconst (v := 0) X d_Dbl_isBelow_60 rfl ?_
        refine ws_zret X (rfl) d_Dbl_isBelow_61 ?_
        exact ⟨by simp [dBelow, dOrd, bI, eq_false h2, eq_true h19, h38], rfl⟩
      · refine ws_lload_n (i := 2) X d_Dbl_isBelow_41 rfl rfl ?_
        refine ws_callS1 X (m_Dbl_isNan _ _) cs_Dbl_isNan ml_Dbl_7 rfl rfl (Nat.le_of_ble_eq_true rfl) ⟨Nat.le_of_ble_eq_true rfl, Nat.le_of_ble_eq_true rfl⟩ ⟨Nat.zero_le _, Nat.zero_le _⟩ d_Dbl_isBelow_42 ?_
        refine ws_ifB_ne X d_Dbl_isBelow_45 (fun h45 => ?_) (fun h45 => ?_)
        · refine ws_iconst (v := 0) X d_Dbl_isBelow_60 rfl ?_
          refine ws_zret X (rfl) d_Dbl_isBelow_61 ?_
          exact ⟨by simp [dBelow, dOrd, bI, eq_false h2, eq_true h19, h38, h45], rfl⟩
        · refine ws_lload (i := 4) X d_Dbl_isBelow_48 rfl ?_
          refine ws_lload (i := 6) X d_Dbl_isBelow_50 rfl ?_
          refine ws_lcmp_ge X d_Dbl_isBelow_52 d_Dbl_isBelow_53 (fun h52 => ?_) (fun h52 => ?_)
          · refine ws_iconst (v := 0) X d_Dbl_isBelow_60 rfl ?_
            refine ws_zret X (rfl) d_Dbl_isBelow_61 ?_
            exact ⟨by simp [dBelow, dOrd, bI, eq_false h2, eq_true h19, h38, h45, eq_true h52], rfl⟩
          · refine ws_iconst (v := 1) X d_Dbl_isBelow_56 rfl ?_
            refine ws_goto X d_Dbl_isBelow_57 ?_
            refine ws_zret X (rfl) d_Dbl_isBelow_61 ?_
            exact ⟨by simp [dBelow, dOrd, bI, eq_false h2, eq_true h19, h38, h45, eq_false h52], rfl⟩
    · refine ws_lload_n (i := 2) X d_Dbl_isBelow_23 rfl rfl ?_
      refine ws_callS1 X (m_Dbl_absolute _ _) cs_Dbl_absolute ml_Dbl_35 rfl rfl (Nat.le_of_ble_eq_true rfl) ⟨Nat.le_of_ble_eq_true rfl, Nat.le_of_ble_eq_true rfl⟩ ⟨Nat.zero_le _, Nat.zero_le _⟩ d_Dbl_isBelow_24 ?_
      refine ws_lneg X d_Dbl_isBelow_27 ?_
      refine ws_goto X d_Dbl_isBelow_28 ?_
      refine ws_lst_6 X rfl d_Dbl_isBelow_32 (by decide) ?_
      refine ws_lload_n (i := 0) X d_Dbl_isBelow_34 rfl rfl ?_
      refine ws_callS1 X (m_Dbl_isNan _ _) cs_Dbl_isNan ml_Dbl_7 rfl rfl (Nat.le_of_ble_eq_true rfl) ⟨Nat.le_of_ble_eq_true rfl, Nat.le_of_ble_eq_true rfl⟩ ⟨Nat.zero_le _, Nat.zero_le _⟩ d_Dbl_isBelow_35 ?_
      refine ws_ifB_ne X d_Dbl_isBelow_38 (fun h38 => ?_) (fun h38 => ?_)
      · refine ws_iconst (v := 0) X d_Dbl_isBelow_60 rfl ?_
        refine ws_zret X (rfl) d_Dbl_isBelow_61 ?_
        exact ⟨by simp [dBelow, dOrd, bI, eq_false h2, eq_false h19, h38], rfl⟩
      · refine ws_lload_n (i := 2) X d_Dbl_isBelow_41 rfl rfl ?_
        refine ws_callS1 X (m_Dbl_isNan _ _) cs_Dbl_isNan ml_Dbl_7 rfl rfl (Nat.le_of_ble_eq_true rfl) ⟨Nat.le_of_ble_eq_true rfl, Nat.le_of_ble_eq_true rfl⟩ ⟨Nat.zero_le _, Nat.zero_le _⟩ d_Dbl_isBelow_42 ?_
        refine ws_ifB_ne X d_Dbl_isBelow_45 (fun h45 => ?_) (fun h45 => ?_)
        · refine ws_iconst (v := 0) X d_Dbl_isBelow_60 rfl ?_
          refine ws_zret X (rfl) d_Dbl_isBelow_61 ?_
          exact ⟨by simp [dBelow, dOrd, bI, eq_false h2, eq_false h19, h38, h45], rfl⟩
        · refine ws_lload (i := 4) X d_Dbl_isBelow_48 rfl ?_
          refine ws_lload (i := 6) X d_Dbl_isBelow_50 rfl ?_
          refine ws_lcmp_ge X d_Dbl_isBelow_52 d_Dbl_isBelow_53 (fun h52 => ?_) (fun h52 => ?_)
          · refine ws_iconst (v := 0) X d_Dbl_isBelow_60 rfl ?_
            refine ws_zret X (rfl) d_Dbl_isBelow_61 ?_
            exact ⟨by simp [dBelow, dOrd, bI, eq_false h2, eq_false h19, h38, h45, eq_true h52], rfl⟩
          · refine ws_iconst (v := 1) X d_Dbl_isBelow_56 rfl ?_
            refine ws_goto X d_Dbl_isBelow_57 ?_
            refine ws_zret X (rfl) d_Dbl_isBelow_61 ?_
            exact ⟨by simp [dBelow, dOrd, bI, eq_false h2, eq_false h19, h38, h45, eq_false h52], rfl⟩

def dFromInt (i : Int32) : Int64 := if absL i.toInt64 = 0 then 0 else dRound (if 0 ≤ i then 0 else -9223372036854775808) 1078 (absL i.toInt64)
theorem m_Dbl_fromInt (S : MS) (i : Int32) : MetE y_Dbl_fromInt c_Dbl_fromInt 3 ((some .long)) 2 57 [.inl (.int i)] S (some (.inl (.long (dFromInt i)))) (S) := by
  refine MetS.of (lv0 := [some (.inl (.int i)), none, none]) pn_Dbl rfl (Nat.le_of_ble_eq_true rfl) (fun p l e0 s m0 args below meth c0 G X => ?_)
  refine ws_iload_n (i := 0) X d_Dbl_fromInt_0 rfl rfl ?_
  refine ws_i2l X d_Dbl_fromInt_1 ?_
  refine ws_mabs X cs_JM_abs ml_Dbl_76 ⟨Nat.le_of_ble_eq_true rfl, Nat.le_of_ble_eq_true rfl⟩ ⟨Nat.zero_le _, Nat.zero_le _⟩ d_Dbl_fromInt_2 ?_
  refine ws_lstn_1 X rfl d_Dbl_fromInt_5 (by decide) ?_
  refine ws_lload_n (i := 1) X d_Dbl_fromInt_6 rfl rfl ?_
  refine ws_lconst (v := 0) X d_Dbl_fromInt_7 rfl ?_
  refine ws_lcmp_ne X d_Dbl_fromInt_8 d_Dbl_fromInt_9 (fun h8 => ?_) (fun h8 => ?_)
  · refine ws_iload_n (i := 0) X d_Dbl_fromInt_16 rfl rfl ?_
    refine ws_if_ge X d_Dbl_fromInt_17 (fun h17 => ?_) (fun h17 => ?_)
    · refine ws_lconst (v := 0) X d_Dbl_fromInt_26 rfl ?_
      refine ws_sipush (v := 1078) X d_Dbl_fromInt_27 rfl ?_
      refine ws_lload_n (i := 1) X d_Dbl_fromInt_30 rfl rfl ?_
      refine ws_callS1 X (m_Dbl_rounded _ _ _ _) cs_Dbl_rounded ml_Dbl_49 rfl rfl (Nat.le_of_ble_eq_true rfl) ⟨Nat.le_of_ble_eq_true rfl, Nat.le_of_ble_eq_true rfl⟩ ⟨Nat.zero_le _, Nat.zero_le _⟩ d_Dbl_fromInt_31 ?_
      refine ws_lret X d_Dbl_fromInt_34 ?_
      exact ⟨by simp [dFromInt, eq_false h8, eq_true h17], rfl⟩
    · refine ws_ldc2 X d_Dbl_fromInt_20 ct_Dbl_19 ?_
      refine ws_goto X d_Dbl_fromInt_23 ?_
      refine ws_sipush (v := 1078) X d_Dbl_fromInt_27 rfl ?_
      refine ws_lload_n (i := 1) X d_Dbl_fromInt_30 rfl rfl ?_
      refine ws_callS1 X (m_Dbl_rounded _ _ _ _) cs_Dbl_rounded ml_Dbl_49 rfl rfl (Nat.le_of_ble_eq_true rfl) ⟨Nat.le_of_ble_eq_true rfl, Nat.le_of_ble_eq_true rfl⟩ ⟨Nat.zero_le _, Nat.zero_le _⟩ d_Dbl_fromInt_31 ?_
      refine ws_lret X d_Dbl_fromInt_34 ?_
      exact ⟨by simp [dFromInt, eq_false h8, eq_false h17], rfl⟩
  · refine ws_lconst (v := 0) X d_Dbl_fromInt_12 rfl ?_
    refine ws_goto X d_Dbl_fromInt_13 ?_
    refine ws_lret X d_Dbl_fromInt_34 ?_
    exact ⟨by simp [dFromInt, eq_true h8], rfl⟩

def dToInt (a : Int64) : Int32 := if dNan a = true ∨ ¬ 0 ≤ dWhole a then 0 else if dWhole a ≤ 30 then (if 0 ≤ a then (ushr64 (dDig a) (52 - dWhole a)).toInt32 else -(ushr64 (dDig a) (52 - dWhole a)).toInt32) else if 0 ≤ a then 2147483647 else -2147483648
theorem m_Dbl_toInt (S : MS) (a : Int64) : MetE y_Dbl_toInt c_Dbl_toInt 4 ((some .int)) 1 23 [.inl (.long a)] S (some (.inl (.int (dToInt a)))) (S) := by
  refine MetS.of (lv0 := [some (.inl (.long a)), none, none, none]) pn_Dbl rfl (Nat.le_of_ble_eq_true rfl) (fun p l e0 s m0 args below meth c0 G X => ?_)
  refine ws_lload_n (i := 0) X d_Dbl_toInt_0 rfl rfl ?_
  refine ws_callS1 X (m_Dbl_absolute _ _) cs_Dbl_absolute ml_Dbl_35 rfl rfl (Nat.le_of_ble_eq_true rfl) ⟨Nat.le_of_ble_eq_true rfl, Nat.le_of_ble_eq_true rfl⟩ ⟨Nat.zero_le _, Nat.zero_le _⟩ d_Dbl_toInt_1 ?_
  refine ws_bipush (v := 52) X d_Dbl_toInt_4 rfl ?_
  refine ws_lushr X d_Dbl_toInt_6 ?_
  refine ws_l2i X d_Dbl_toInt_7 ?_
  refine ws_sipush (v := 1023) X d_Dbl_toInt_8 rfl ?_
  refine ws_isub X d_Dbl_toInt_11 ?_
  refine ws_istn_2 X rfl d_Dbl_toInt_12 (by decide) ?_
  refine ws_lload_n (i := 0) X d_Dbl_toInt_13 rfl rfl ?_
  refine ws_callS1 X (m_Dbl_isNan _ _) cs_Dbl_isNan ml_Dbl_7 rfl rfl (Nat.le_of_ble_eq_true rfl) ⟨Nat.le_of_ble_eq_true rfl, Nat.le_of_ble_eq_true rfl⟩ ⟨Nat.zero_le _, Nat.zero_le _⟩ d_Dbl_toInt_14 ?_
  refine ws_ifB_ne X d_Dbl_toInt_17 (fun h17 => ?_) (fun h17 => ?_)
  · refine ws_iconst (v := 0) X d_Dbl_toInt_24 rfl ?_
    refine ws_iret X d_Dbl_toInt_25 ?_
    exact ⟨by simp [dToInt, dWhole, h17], rfl⟩
  · refine ws_iload_n (i := 2) X d_Dbl_toInt_20 rfl rfl ?_
    refine ws_if_ge X d_Dbl_toInt_21 (fun h21 => ?_) (fun h21 => ?_)
    · refine ws_iload_n (i := 2) X d_Dbl_toInt_26 rfl rfl ?_
      refine ws_bipush (v := 30) X d_Dbl_toInt_27 rfl ?_
      refine ws_icmp_le X d_Dbl_toInt_29 (fun h29 => ?_) (fun h29 => ?_)
      · refine ws_lload_n (i := 0) X d_Dbl_toInt_46 rfl rfl ?_
        refine ws_callS1 X (m_Dbl_digitsOf _ _) cs_Dbl_digitsOf ml_Dbl_42 rfl rfl (Nat.le_of_ble_eq_true rfl) ⟨Nat.le_of_ble_eq_true rfl, Nat.le_of_ble_eq_true rfl⟩ ⟨Nat.zero_le _, Nat.zero_le _⟩ d_Dbl_toInt_47 ?_
        refine ws_bipush (v := 52) X d_Dbl_toInt_50 rfl ?_
        refine ws_iload_n (i := 2) X d_Dbl_toInt_52 rfl rfl ?_
        refine ws_isub X d_Dbl_toInt_53 ?_
        refine ws_lushr X d_Dbl_toInt_54 ?_
        refine ws_l2i X d_Dbl_toInt_55 ?_
        refine ws_istn_3 X rfl d_Dbl_toInt_56 (by decide) ?_
        refine ws_lload_n (i := 0) X d_Dbl_toInt_57 rfl rfl ?_
        refine ws_lconst (v := 0) X d_Dbl_toInt_58 rfl ?_
        refine ws_lcmp_ge X d_Dbl_toInt_59 d_Dbl_toInt_60 (fun h59 => ?_) (fun h59 => ?_)
        · refine ws_iload_n (i := 3) X d_Dbl_toInt_68 rfl rfl ?_
          refine ws_iret X d_Dbl_toInt_69 ?_
          exact ⟨by simp [dToInt, dWhole, h17, eq_true h21, eq_true h29, eq_true h59], rfl⟩
        · refine ws_iload_n (i := 3) X d_Dbl_toInt_63 rfl rfl ?_
          refine ws_ineg X d_Dbl_toInt_64 ?_
          refine ws_goto X d_Dbl_toInt_65 ?_
          refine ws_iret X d_Dbl_toInt_69 ?_
          exact ⟨by simp [dToInt, dWhole, h17, eq_true h21, eq_true h29, eq_false h59], rfl⟩
      · refine ws_lload_n (i := 0) X d_Dbl_toInt_32 rfl rfl ?_
        refine ws_lconst (v := 0) X d_Dbl_toInt_33 rfl ?_
        refine ws_lcmp_ge X d_Dbl_toInt_34 d_Dbl_toInt_35 (fun h34 => ?_) (fun h34 => ?_)
        · refine ws_ldc X d_Dbl_toInt_43 ct_Dbl_82 ?_
          refine ws_iret X d_Dbl_toInt_45 ?_
          exact ⟨by simp [dToInt, dWhole, h17, eq_true h21, eq_false h29, eq_true h34], rfl⟩
        · refine ws_ldc X d_Dbl_toInt_38 ct_Dbl_81 ?_
          refine ws_goto X d_Dbl_toInt_40 ?_
          refine ws_iret X d_Dbl_toInt_45 ?_
          exact ⟨by simp [dToInt, dWhole, h17, eq_true h21, eq_false h29, eq_false h34], rfl⟩
    · refine ws_iconst (v := 0) X d_Dbl_toInt_24 rfl ?_
      refine ws_iret X d_Dbl_toInt_25 ?_
      exact ⟨by simp [dToInt, dWhole, h17, eq_false h21], rfl⟩


