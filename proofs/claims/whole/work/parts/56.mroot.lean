/-! the model's DOUBLES: floor, root, what is listed -/
theorem fin_lit {a : UInt64} (h : a.toNat % 2 ^ 63 < 9218868437227405312) : FP.Core.DFin a := (FP.Core.fin_bits a).mpr h
def mFlr0 (x : UInt64) : UInt64 := FP.l2d (FP.d2l x)
def mFlr (x : UInt64) : UInt64 := if Op.cmpValue (FP.dcmp x FP.dconst0) .l = 0 ∨ Op.cmpValue (FP.dcmp x 14064741636278059008) .l ≤ 0 ∨ ¬ Op.cmpValue (FP.dcmp x 4841369599423283200) .g < 0 then x else if Op.cmpValue (FP.dcmp (mFlr0 x) x) .l ≤ 0 then mFlr0 x else FP.dsub (mFlr0 x) FP.dconst1
theorem flr_ok (x : UInt64) : FP.dIsNaN (FP.dsub (mFlr0 x) FP.dconst1) = false := FP.Core.dsub_out (FP.Core.l2d_notNaN _) (fin_lit (by decide))
theorem m_M_floor (S : MS) (x : UInt64) : MetE y_M_floor c_M_floor 4 ((some .double)) 0 0 [.inl (.double x)] S (some (.inl (.double (mFlr x)))) (S) := by
  refine MetS.of (lv0 := [some (.inl (.double x)), none, none, none]) pn_M rfl (Nat.le_of_ble_eq_true rfl) (fun p0 l0 e0 s0 m0 args below meth c0 G X => ?_)
  refine ws_dload_n (i := 0) X d_M_floor_0 rfl rfl ?_
  refine ws_dconst0 X d_M_floor_1 ?_
  refine ws_dcmp X d_M_floor_2 ?_
  refine ws_if_eq X d_M_floor_3 (fun h3 => ?_) (fun h3 => ?_)
  · refine ws_dload_n (i := 0) X d_M_floor_22 rfl rfl ?_
    refine ws_dret X d_M_floor_23 ?_
    exact ⟨by simp [mFlr, mFlr0, eq_true h3], rfl⟩
  · refine ws_dload_n (i := 0) X d_M_floor_6 rfl rfl ?_
    refine ws_ldc2d X d_M_floor_7 ct_M_347 ?_
    refine ws_dcmp X d_M_floor_10 ?_
    refine ws_if_le X d_M_floor_11 (fun h11 => ?_) (fun h11 => ?_)
    · refine ws_dload_n (i := 0) X d_M_floor_22 rfl rfl ?_
      refine ws_dret X d_M_floor_23 ?_
      exact ⟨by simp [mFlr, mFlr0, eq_false h3, eq_true h11], rfl⟩
    · refine ws_dload_n (i := 0) X d_M_floor_14 rfl rfl ?_
      refine ws_ldc2d X d_M_floor_15 ct_M_349 ?_
      refine ws_dcmp X d_M_floor_18 ?_
      refine ws_if_lt X d_M_floor_19 (fun h19 => ?_) (fun h19 => ?_)
      · refine ws_dload_n (i := 0) X d_M_floor_24 rfl rfl ?_
        refine ws_d2l X d_M_floor_25 ?_
        refine ws_l2d X d_M_floor_26 ?_
        refine ws_dstn_2 X rfl d_M_floor_27 (by decide) ?_
        refine ws_dload_n (i := 2) X d_M_floor_28 rfl rfl ?_
        refine ws_dload_n (i := 0) X d_M_floor_29 rfl rfl ?_
        refine ws_dcmp X d_M_floor_30 ?_
        refine ws_if_le X d_M_floor_31 (fun h31 => ?_) (fun h31 => ?_)
        · refine ws_dload_n (i := 2) X d_M_floor_40 rfl rfl ?_
          refine ws_dret X d_M_floor_41 ?_
          exact ⟨by simp [mFlr, mFlr0, eq_false h3, eq_false h11, eq_true h19, eq_true h31], rfl⟩
        · refine ws_dload_n (i := 2) X d_M_floor_34 rfl rfl ?_
          refine ws_dconst1 X d_M_floor_35 ?_
          refine ws_dsub X d_M_floor_36 (n64_of (flr_ok x)) ?_
          refine ws_goto X d_M_floor_37 ?_
          refine ws_dret X d_M_floor_41 ?_
          exact ⟨by simp [mFlr, mFlr0, eq_false h3, eq_false h11, eq_true h19, eq_false h31], rfl⟩
      · refine ws_dload_n (i := 0) X d_M_floor_22 rfl rfl ?_
        refine ws_dret X d_M_floor_23 ?_
        exact ⟨by simp [mFlr, mFlr0, eq_false h3, eq_false h11, eq_false h19], rfl⟩

/-- digits up to 53, the power with them (54 more than the bits' exponent, at most) -/
def nrm : Nat → Nat → Nat → Nat × Nat
  | 0, a, n => (a, n)
  | f + 1, a, n => if a < 2 ^ 52 then nrm f (2 * a) (n - 1) else (a, n)
theorem nrm_inv : ∀ (f a n : Nat), 2 ^ 52 ≤ a * 2 ^ f → a < 2 ^ 53 → f ≤ n → 2 ^ 52 ≤ (nrm f a n).1 ∧ (nrm f a n).1 < 2 ^ 53 ∧ (nrm f a n).2 ≤ n ∧ n - f ≤ (nrm f a n).2
  | 0, a, n, h1, h2, h3 => ⟨by rw [Nat.pow_zero, Nat.mul_one] at h1; exact h1, h2, Nat.le_refl _, by simp [nrm]⟩
  | f + 1, a, n, h1, h2, h3 => by
    rw [nrm]
    by_cases h : a < 2 ^ 52
    · rw [if_pos h]
      have := nrm_inv f (2 * a) (n - 1) (by rw [Nat.pow_succ] at h1; rw [show 2 * a * 2 ^ f = a * (2 ^ f * 2) from by rw [Nat.mul_comm 2 a, Nat.mul_assoc, Nat.mul_comm 2]]; exact h1) (by omega) (by omega)
      omega
    · rw [if_neg h]
      show 2 ^ 52 ≤ a ∧ a < 2 ^ 53 ∧ n ≤ n ∧ n - (f + 1) ≤ n
      omega
def rtA (N : Nat) : Nat := if 0 < N / 2 ^ 52 then N % 2 ^ 52 + 2 ^ 52 else N % 2 ^ 52
def rtE (N : Nat) : Nat := if 0 < N / 2 ^ 52 then N / 2 ^ 52 + 53 else 54
def rt1 (N : Nat) : Nat × Nat := nrm 52 (rtA N) (rtE N)
def rt2 (N : Nat) : Nat × Nat := if (rt1 N).2 % 2 = 0 then rt1 N else (2 * (rt1 N).1, (rt1 N).2 - 1)
def rt3 (N : Nat) : Nat × Nat := sqN (rt2 N).1 55 0 0 0
def rtUp (q r : Nat) : Bool := decide (2 < q % 4) || (decide (q % 4 = 2) && (!decide (r = 0) || decide (q / 4 % 2 = 1)))
def rtK (N : Nat) : Nat := if rtUp (rt3 N).1 (rt3 N).2 = true then (rt3 N).1 / 4 + 1 else (rt3 N).1 / 4
def rtB (N : Nat) : Nat := if rtK N = 2 ^ 53 then ((rt2 N).2 / 2 + 486) * 2 ^ 52 else ((rt2 N).2 / 2 + 485) * 2 ^ 52 + rtK N % 2 ^ 52
def pw (n : Nat) : Int32 := nI n - 1128
theorem pw_dec {n : Nat} (h : 0 < n) : pw n + Int32.ofInt (-1) = pw (n - 1) := by
  obtain ⟨k, rfl⟩ : ∃ k, n = k + 1 := ⟨n - 1, by omega⟩
  unfold pw
  rw [Nat.add_sub_cancel, ← nI_m1 k, show Int32.ofInt (-1) = -1 from rfl, Int32.sub_eq_add_neg, Int32.sub_eq_add_neg, Int32.sub_eq_add_neg, Int32.add_assoc, Int32.add_assoc, Int32.add_comm (-1128) (-1)]
theorem pw_odd : ∀ n, n < 2200 → (pw n - pw n / 2 * 2 = 0 ↔ n % 2 = 0) := by decide +kernel
theorem pw_half : ∀ n, n < 2200 → n % 2 = 0 → pw n / 2 - 26 + 1075 = nI (n / 2 + 485) := by decide +kernel
theorem pw_half1 : ∀ n, n < 2200 → n % 2 = 0 → pw n / 2 - 26 + Int32.ofInt 1 + 1075 = nI (n / 2 + 486) := by decide +kernel
theorem i_cut (a b c : Int32) : a - c = a + b - (b + c) := by
  rw [Int32.sub_eq_add_neg a c, Int32.sub_eq_add_neg (a + b), Int32.neg_add, Int32.sub_eq_add_neg (-b), Int32.add_assoc a b, ← Int32.add_assoc b, Int32.add_right_neg, Int32.zero_add]
theorem i_cut2 (a b c : Int32) : a - b + -c = a - (b + c) := by
  rw [Int32.sub_eq_add_neg a b, Int32.sub_eq_add_neg a (b + c), Int32.neg_add, Int32.sub_eq_add_neg (-b), Int32.add_assoc]
theorem pw_0 (E : Nat) : nI E - 1075 = pw (E + 53) := by
  unfold pw
  rw [← nI_add]
  exact i_cut (nI E) (nI 53) 1075
theorem k26_lt : ∀ i, i < 57 → ((26 : Int32) - nI i < -28 ↔ 55 ≤ i) := by decide +kernel
theorem k26_lt0 : ∀ i, i < 57 → ((26 : Int32) - nI i < 0 ↔ 27 ≤ i) := by decide +kernel
theorem k26_inc (i : Nat) : (26 : Int32) - nI i + Int32.ofInt (-1) = 26 - nI (i + 1) := by
  rw [← nI_1]
  exact i_cut2 26 (nI i) 1
theorem k26_x : ∀ i, i < 27 → (2 : Int32) * (26 - nI i) = nI (52 - 2 * i) := by decide +kernel
theorem nNx {x i : Nat} (hx : x < 2 ^ 54) (hi : i < 27) : shr64 (lN x) ((2 : Int32) * (26 - nI i)) &&& 3 = lN (sqP x i) := by
  rw [k26_x i hi, q_shr (by omega) (by omega), show (3 : Int64) = lN (2 ^ 2 - 1) from rfl, q_mask (by decide) (Nat.lt_of_le_of_lt (Nat.div_le_self _ _) (by omega))]
  unfold sqP
  rw [if_pos hi]
section L49
variable {p : Program} {l : Launch} {e0 : Env} {s : State} {m0 : MethodId} {args : Array Value} {below : List Frame} {meth : Method} {c0 : Code} {G : GG} {A : Nat → Prop} {Q : State → Prop}
theorem l_nrm (X : CX p s m0 args meth c0 G A c_M_root y_M_root.cls 16 ((some .double))) {S : MS} {x0 : UInt64} {b2 : Int64} {b7 b8 b9 b10 b11 b12 b13 b14 b15 : Option MV} : ∀ (f a n : Nat), 2 ^ 52 ≤ a * 2 ^ f → a < 2 ^ 53 → f < n → WS p l e0 (rmS 2 44) s m0 args below meth c0 G A 16 0 0 Q 97 [some (.inl (.double x0)), none, some (.inl (.long b2)), none, some (.inl (.int (pw (nrm f a n).2))), some (.inl (.long (lN (nrm f a n).1))), none, b7, b8, b9, b10, b11, b12, b13, b14, b15] [] (S) → WS p l e0 (rmS 2 44) s m0 args below meth c0 G A 16 0 0 Q 76 [some (.inl (.double x0)), none, some (.inl (.long b2)), none, some (.inl (.int (pw n))), some (.inl (.long (lN a))), none, b7, b8, b9, b10, b11, b12, b13, b14, b15] [] (S) := by
  intro f
  induction f with
  | zero =>
    intro a n h1 h2 h3 K
    rw [Nat.pow_zero, Nat.mul_one] at h1
    have hh : (4503599627370496 : Int64) ≤ lN a := by rw [show (4503599627370496 : Int64) = lN 4503599627370496 from rfl, q_le (by decide) (by omega)]; omega
    refine ws_lload (i := 5) X d_M_root_76 rfl ?_
    refine ws_ldc2 X d_M_root_78 ct_M_353 ?_
    refine ws_lcmp_ge X d_M_root_81 d_M_root_82 (fun h81 => ?_) (fun h81 => ?_)
    · exact K
    · exact absurd hh h81
  | succ f ih =>
    intro a n h1 h2 h3 K
    have e1 : shl64 (lN a) 1 = lN (2 * a) := by
      rw [show (1 : Int32) = nI 1 from rfl, q_shl a (by decide)]
      congr 1; omega
    have hq : (4503599627370496 : Int64) ≤ lN a ↔ ¬ a < 2 ^ 52 := by rw [show (4503599627370496 : Int64) = lN 4503599627370496 from rfl, q_le (by decide) (by omega)]; omega
    rw [nrm] at K
    refine ws_lload (i := 5) X d_M_root_76 rfl ?_
    refine ws_ldc2 X d_M_root_78 ct_M_353 ?_
    refine ws_lcmp_ge X d_M_root_81 d_M_root_82 (fun h81 => ?_) (fun h81 => ?_)
    · rw [hq] at h81; rw [if_neg h81] at K; exact K
    · refine ws_lload (i := 5) X d_M_root_85 rfl ?_
      refine ws_iconst (v := 1) X d_M_root_87 rfl ?_
      refine ws_lshl X d_M_root_88 ?_
      refine ws_lst_5 X rfl d_M_root_89 (by decide) ?_
      refine ws_iinc_4 X rfl d_M_root_91 rfl (by decide) ?_
      refine ws_goto X d_M_root_94 ?_
      rw [hq] at h81; rw [if_pos (Decidable.not_not.mp h81)] at K; rw [e1, pw_dec (by omega)]
      refine ih (2 * a) (n - 1) ?_ (by omega) (by omega) K
      rw [Nat.pow_succ] at h1
      rw [show 2 * a * 2 ^ f = a * (2 ^ f * 2) from by rw [Nat.mul_comm 2 a, Nat.mul_assoc, Nat.mul_comm 2]]; exact h1
theorem l_rt (X : CX p s m0 args meth c0 G A c_M_root y_M_root.cls 16 ((some .double))) {S : MS} {x0 : UInt64} {b2 : Int64} {w : Int32} {x : Nat} (hx : x < 2 ^ 54) : ∀ (n i a r : Nat) (b12 b13 b14 b15 : Option MV), i + n = 55 → a < 2 ^ i → r ≤ 2 * a → (∀ (j : Int32) (b12 b13 b14 b15 : Option MV), WS p l e0 (rmS 2 44) s m0 args below meth c0 G A 16 0 0 Q 202 [some (.inl (.double x0)), none, some (.inl (.long b2)), none, some (.inl (.int w)), some (.inl (.long (lN x))), none, some (.inl (.long (lN (sqN x n i a r).2))), none, some (.inl (.long (lN (sqN x n i a r).1))), none, some (.inl (.int j)), b12, b13, b14, b15] [] (S)) → WS p l e0 (rmS 2 44) s m0 args below meth c0 G A 16 0 0 Q 123 [some (.inl (.double x0)), none, some (.inl (.long b2)), none, some (.inl (.int w)), some (.inl (.long (lN x))), none, some (.inl (.long (lN r))), none, some (.inl (.long (lN a))), none, some (.inl (.int (26 - nI i))), b12, b13, b14, b15] [] (S) := by
  intro n
  induction n with
  | zero =>
    intro i a r b12 b13 b14 b15 hi ha hr K
    have hh : (26 : Int32) - nI i < -28 := (k26_lt i (by omega)).mpr (by omega)
    refine ws_iload (i := 11) X d_M_root_123 rfl ?_
    refine ws_bipush (v := (-28)) X d_M_root_125 rfl ?_
    refine ws_icmp_lt X d_M_root_127 (fun h127 => ?_) (fun h127 => ?_)
    · exact K _ _ _ _ _
    · exact absurd hh h127
  | succ n ih =>
    intro i a r b12 b13 b14 b15 hi ha hr K
    have hh : ¬ (26 : Int32) - nI i < -28 := fun z => by have := (k26_lt i (by omega)).mp z; omega
    have h27 := k26_lt0 i (by omega)
    have hp := sqP_lt x i
    obtain ⟨i1, i2⟩ := sqS_inv hr hp
    have h56 : 2 ^ i ≤ 2 ^ 55 := Nat.pow_le_pow_right (by decide) (by omega)
    have i3 : 2 ^ (i + 1) = 2 * 2 ^ i := by rw [Nat.pow_succ]; omega
    have e2 : shl64 (lN a) 2 ||| 1 = lN (4 * a + 1) := by
      rw [show (2 : Int32) = nI 2 from rfl, q_shl a (by decide), show (1 : Int64) = lN 1 from rfl, q_or (by decide) (by omega)]
      congr 1; omega
    have e1 : shl64 (lN a) 1 = lN (2 * a) := by
      rw [show (1 : Int32) = nI 1 from rfl, q_shl a (by decide)]
      congr 1; omega
    have e3 : lN (2 * a) ||| 1 = lN (2 * a + 1) := by
      rw [show (1 : Int64) = lN 1 from rfl, show 2 * a = a * 2 ^ 1 from by omega, q_or (by decide) (by omega)]
    have e4 : shl64 (lN r) 2 ||| lN (sqP x i) = lN (4 * r + sqP x i) := by
      rw [show (2 : Int32) = nI 2 from rfl, q_shl r (by decide), q_or hp (by omega)]
      congr 1; omega
    have hlt : (lN (4 * r + sqP x i) < lN (4 * a + 1)) ↔ (4 * r + sqP x i < 4 * a + 1) := q_lt (by omega) (by omega)
    rw [sqN] at K
    refine ws_iload (i := 11) X d_M_root_123 rfl ?_
    refine ws_bipush (v := (-28)) X d_M_root_125 rfl ?_
    refine ws_icmp_lt X d_M_root_127 (fun h127 => ?_) (fun h127 => ?_)
    · exact absurd h127 hh
    · refine ws_iload (i := 11) X d_M_root_130 rfl ?_
      refine ws_if_lt X d_M_root_132 (fun h132 => ?_) (fun h132 => ?_)
      · have hz0 : lN (sqP x i) = 0 := by rw [show sqP x i = 0 from if_neg (by have := h27.mp h132; omega)]; rfl
        refine ws_lconst (v := 0) X d_M_root_149 rfl ?_
        first | rw [← hz0] | skip
        refine ws_lst_12 X rfl d_M_root_150 (by decide) ?_
        refine ws_lload (i := 7) X d_M_root_152 rfl ?_
        refine ws_iconst (v := 2) X d_M_root_154 rfl ?_
        refine ws_lshl X d_M_root_155 ?_
        refine ws_lload (i := 12) X d_M_root_156 rfl ?_
        refine ws_lor X d_M_root_158 ?_
        rw [e4]
        refine ws_lst_7 X rfl d_M_root_159 (by decide) ?_
        refine ws_lload (i := 9) X d_M_root_161 rfl ?_
        refine ws_iconst (v := 2) X d_M_root_163 rfl ?_
        refine ws_lshl X d_M_root_164 ?_
        refine ws_lconst (v := 1) X d_M_root_165 rfl ?_
        refine ws_lor X d_M_root_166 ?_
        rw [e2]
        refine ws_lst_14 X rfl d_M_root_167 (by decide) ?_
        refine ws_lload (i := 9) X d_M_root_169 rfl ?_
        refine ws_iconst (v := 1) X d_M_root_171 rfl ?_
        refine ws_lshl X d_M_root_172 ?_
        rw [e1]
        refine ws_lst_9 X rfl d_M_root_173 (by decide) ?_
        refine ws_lload (i := 7) X d_M_root_175 rfl ?_
        refine ws_lload (i := 14) X d_M_root_177 rfl ?_
        refine ws_lcmp_lt X d_M_root_179 d_M_root_180 (fun h179 => ?_) (fun h179 => ?_)
        · have hl := hlt.mp h179
          refine ws_iinc_11 X rfl d_M_root_196 rfl (by decide) ?_
          refine ws_goto X d_M_root_199 ?_
          rw [k26_inc]
          first
          | (simp only [sqS, if_pos hl] at K i1 i2; exact ih (i + 1) _ _ _ _ _ _ (by omega) (by omega) i1 K)
          | (rw [lN_sub (by omega)]; simp only [sqS, if_neg hl] at K i1 i2; exact ih (i + 1) _ _ _ _ _ _ (by omega) (by omega) i1 K)
        · have hl : ¬ (4 * r + sqP x i < 4 * a + 1) := fun z => h179 (hlt.mpr z)
          refine ws_lload (i := 7) X d_M_root_183 rfl ?_
          refine ws_lload (i := 14) X d_M_root_185 rfl ?_
          refine ws_lsub X d_M_root_187 ?_
          refine ws_lst_7 X rfl d_M_root_188 (by decide) ?_
          refine ws_lload (i := 9) X d_M_root_190 rfl ?_
          refine ws_lconst (v := 1) X d_M_root_192 rfl ?_
          refine ws_lor X d_M_root_193 ?_
          rw [e3]
          refine ws_lst_9 X rfl d_M_root_194 (by decide) ?_
          refine ws_iinc_11 X rfl d_M_root_196 rfl (by decide) ?_
          refine ws_goto X d_M_root_199 ?_
          rw [k26_inc]
          first
          | (simp only [sqS, if_pos hl] at K i1 i2; exact ih (i + 1) _ _ _ _ _ _ (by omega) (by omega) i1 K)
          | (rw [lN_sub (by omega)]; simp only [sqS, if_neg hl] at K i1 i2; exact ih (i + 1) _ _ _ _ _ _ (by omega) (by omega) i1 K)
      · have hz : i < 27 := by have : ¬ 27 ≤ i := fun z => h132 (h27.mpr z); omega
        refine ws_lload (i := 5) X d_M_root_135 rfl ?_
        refine ws_iconst (v := 2) X d_M_root_137 rfl ?_
        refine ws_iload (i := 11) X d_M_root_138 rfl ?_
        refine ws_imul X d_M_root_140 ?_
        refine ws_lshr X d_M_root_141 ?_
        refine ws_ldc2 X d_M_root_142 ct_M_355 ?_
        refine ws_land X d_M_root_145 ?_
        rw [nNx hx (by omega)]
        refine ws_goto X d_M_root_146 ?_
        first | rw [← hz0] | skip
        refine ws_lst_12 X rfl d_M_root_150 (by decide) ?_
        refine ws_lload (i := 7) X d_M_root_152 rfl ?_
        refine ws_iconst (v := 2) X d_M_root_154 rfl ?_
        refine ws_lshl X d_M_root_155 ?_
        refine ws_lload (i := 12) X d_M_root_156 rfl ?_
        refine ws_lor X d_M_root_158 ?_
        rw [e4]
        refine ws_lst_7 X rfl d_M_root_159 (by decide) ?_
        refine ws_lload (i := 9) X d_M_root_161 rfl ?_
        refine ws_iconst (v := 2) X d_M_root_163 rfl ?_
        refine ws_lshl X d_M_root_164 ?_
        refine ws_lconst (v := 1) X d_M_root_165 rfl ?_
        refine ws_lor X d_M_root_166 ?_
        rw [e2]
        refine ws_lst_14 X rfl d_M_root_167 (by decide) ?_
        refine ws_lload (i := 9) X d_M_root_169 rfl ?_
        refine ws_iconst (v := 1) X d_M_root_171 rfl ?_
        refine ws_lshl X d_M_root_172 ?_
        rw [e1]
        refine ws_lst_9 X rfl d_M_root_173 (by decide) ?_
        refine ws_lload (i := 7) X d_M_root_175 rfl ?_
        refine ws_lload (i := 14) X d_M_root_177 rfl ?_
        refine ws_lcmp_lt X d_M_root_179 d_M_root_180 (fun h179 => ?_) (fun h179 => ?_)
        · have hl := hlt.mp h179
          refine ws_iinc_11 X rfl d_M_root_196 rfl (by decide) ?_
          refine ws_goto X d_M_root_199 ?_
          rw [k26_inc]
          first
          | (simp only [sqS, if_pos hl] at K i1 i2; exact ih (i + 1) _ _ _ _ _ _ (by omega) (by omega) i1 K)
          | (rw [lN_sub (by omega)]; simp only [sqS, if_neg hl] at K i1 i2; exact ih (i + 1) _ _ _ _ _ _ (by omega) (by omega) i1 K)
        · have hl : ¬ (4 * r + sqP x i < 4 * a + 1) := fun z => h179 (hlt.mpr z)
          refine ws_lload (i := 7) X d_M_root_183 rfl ?_
          refine ws_lload (i := 14) X d_M_root_185 rfl ?_
          refine ws_lsub X d_M_root_187 ?_
          refine ws_lst_7 X rfl d_M_root_188 (by decide) ?_
          refine ws_lload (i := 9) X d_M_root_190 rfl ?_
          refine ws_lconst (v := 1) X d_M_root_192 rfl ?_
          refine ws_lor X d_M_root_193 ?_
          rw [e3]
          refine ws_lst_9 X rfl d_M_root_194 (by decide) ?_
          refine ws_iinc_11 X rfl d_M_root_196 rfl (by decide) ?_
          refine ws_goto X d_M_root_199 ?_
          rw [k26_inc]
          first
          | (simp only [sqS, if_pos hl] at K i1 i2; exact ih (i + 1) _ _ _ _ _ _ (by omega) (by omega) i1 K)
          | (rw [lN_sub (by omega)]; simp only [sqS, if_neg hl] at K i1 i2; exact ih (i + 1) _ _ _ _ _ _ (by omega) (by omega) i1 K)
end L49
theorem rt_in {x : UInt64} (h1 : ¬ Op.cmpValue (FP.dcmp x FP.dconst0) .l ≤ 0) (h2 : ¬ Op.cmpValue (FP.dcmp x (FP.dmul x 4611686018427387904)) .l = 0) : 0 < x.toNat ∧ x.toNat < 9218868437227405312 := by
  have h3 : FP.Core.dcmp x 0 = some .gt := by
    cases hc : FP.Core.dcmp x 0 with
    | none => rw [show FP.dcmp x FP.dconst0 = none from hc] at h1; exact absurd (by decide) h1
    | some o =>
      rw [show FP.dcmp x FP.dconst0 = some o from hc] at h1
      cases o with
      | lt => exact absurd (by decide) h1
      | eq => exact absurd (by decide) h1
      | gt => rfl
  obtain ⟨n1, n2⟩ := FP.Core.dcmp_some h3
  rw [FP.Core.dcmp_gt_key n1 n2, show FP.Core.dkey 0 = 0 from by decide +kernel] at h3
  rw [FP.Core.ne_nan] at n1
  have hb := x.toNat_lt
  have hne : x ≠ dINF := fun z => by
    rw [z] at h2
    exact h2 (by decide +kernel)
  have hne2 : x.toNat ≠ 9218868437227405312 := fun z => hne (UInt64.toNat_inj.mp z)
  unfold FP.Core.dkey at h3
  split at h3 <;> omega
theorem rt_nn {x : UInt64} (h1 : ¬ Op.cmpValue (FP.dcmp x FP.dconst0) .l ≤ 0) : FP.dIsNaN x = false := by
  cases hc : FP.Core.dcmp x 0 with
  | none => rw [show FP.dcmp x FP.dconst0 = none from hc] at h1; exact absurd (by decide) h1
  | some o => exact (FP.Core.dcmp_notNaN hc).1
theorem rt_dbl {x : UInt64} (h1 : ¬ Op.cmpValue (FP.dcmp x FP.dconst0) .l ≤ 0) : FP.dIsNaN (FP.dmul x 4611686018427387904) = false := FP.Core.dmul_out' (rt_nn h1) (fin_lit (by decide)) (by rw [FP.Core.zero_bits2]; decide)
theorem rt1_inv {N : Nat} (h0 : 0 < N) (hN : N < 9218868437227405312) : 2 ^ 52 ≤ (rt1 N).1 ∧ (rt1 N).1 < 2 ^ 53 ∧ 2 ≤ (rt1 N).2 ∧ (rt1 N).2 < 2100 := by
  have hA : 0 < rtA N ∧ rtA N < 2 ^ 53 := by
    unfold rtA
    split <;> omega
  have hE : 54 ≤ rtE N ∧ rtE N < 2100 := by
    unfold rtE
    split <;> omega
  have := nrm_inv 52 (rtA N) (rtE N) (by omega) hA.2 (by omega)
  unfold rt1
  omega
theorem rt2_inv {N : Nat} (h0 : 0 < N) (hN : N < 9218868437227405312) : 2 ^ 52 ≤ (rt2 N).1 ∧ (rt2 N).1 < 2 ^ 54 ∧ (rt2 N).2 % 2 = 0 ∧ 1 ≤ (rt2 N).2 ∧ (rt2 N).2 < 2100 := by
  have := rt1_inv h0 hN
  unfold rt2
  split
  · omega
  · show 2 ^ 52 ≤ 2 * (rt1 N).1 ∧ 2 * (rt1 N).1 < 2 ^ 54 ∧ ((rt1 N).2 - 1) % 2 = 0 ∧ 1 ≤ (rt1 N).2 - 1 ∧ (rt1 N).2 - 1 < 2100
    omega
theorem rtK_le (N : Nat) : rtK N ≤ 2 ^ 53 := by
  have := (sqN_inv (rt2 N).1 55 0 0 0 (by decide) (by decide)).1
  have h : (rt3 N).1 < 2 ^ 55 := this
  unfold rtK
  split <;> omega
theorem rtB_lt {N : Nat} (h0 : 0 < N) (hN : N < 9218868437227405312) : rtB N < 9218868437227405312 := by
  have := rt2_inv h0 hN
  unfold rtB
  split <;> omega
theorem lN_noNaN {n : Nat} (h : n < 9218868437227405312) : isNo (lN n) = false := by
  cases hc : isNo (lN n) with
  | false => rfl
  | true =>
    rw [isNo_iff, q_uN (by omega)] at hc
    omega
theorem mDl_N {x : UInt64} (h : FP.dIsNaN x = false) : mDl x = lN x.toNat := by
  unfold mDl
  rw [h]
  apply q_inj
  show x.toBitVec = BitVec.ofNat 64 x.toNat
  apply BitVec.eq_of_toNat_eq
  rw [BitVec.toNat_ofNat, Nat.mod_eq_of_lt x.toNat_lt]; rfl
def mRoot (x : UInt64) : UInt64 := if Op.cmpValue (FP.dcmp x FP.dconst0) .l ≤ 0 ∨ Op.cmpValue (FP.dcmp x (FP.dmul x 4611686018427387904)) .l = 0 then (if 0 ≤ Op.cmpValue (FP.dcmp x FP.dconst0) .g then x else 9221120237041090560) else (lN (rtB x.toNat)).toUInt64

