/-! the two sides run alike: what is wanted of DOUBLEs; the MOVEs -/
/-- DOUBLEs, alike -/
def DB_can : Prop := ∀ a : Int64, (dCanon a).toUInt64 = mDo a ∧ CN (mDo a)
def DB_add : Prop := ∀ a b : Int64, CN a.toUInt64 → CN b.toUInt64 → (dAdd a b).toUInt64 = mPlus a.toUInt64 b.toUInt64 ∧ CN (mPlus a.toUInt64 b.toUInt64)
def DB_sub : Prop := ∀ a b : Int64, CN a.toUInt64 → CN b.toUInt64 → (dAdd a (dNeg b)).toUInt64 = mMinus a.toUInt64 b.toUInt64 ∧ CN (mMinus a.toUInt64 b.toUInt64)
def DB_mul : Prop := ∀ a b : Int64, CN a.toUInt64 → CN b.toUInt64 → (dMul a b).toUInt64 = mTimes a.toUInt64 b.toUInt64 ∧ CN (mTimes a.toUInt64 b.toUInt64)
def DB_div : Prop := ∀ a b : Int64, CN a.toUInt64 → CN b.toUInt64 → (dDiv a b).toUInt64 = mBy a.toUInt64 b.toUInt64 ∧ CN (mBy a.toUInt64 b.toUInt64)
def DB_below : Prop := ∀ a b : Int64, CN a.toUInt64 → CN b.toUInt64 → (dBelow a b = true ↔ ¬ 0 ≤ Op.cmpValue (FP.dcmp a.toUInt64 b.toUInt64) .g)
def DB_ofInt : Prop := ∀ i : Int32, (dFromInt i).toUInt64 = FP.i2d i ∧ CN (FP.i2d i)
def DB_toInt : Prop := ∀ a : Int64, CN a.toUInt64 → dToInt a = FP.d2i a.toUInt64
def DB_abs : Prop := ∀ a : Int64, CN a.toUInt64 → (dAbs a).toUInt64 = mAbsV a.toUInt64 ∧ CN (mAbsV a.toUInt64)
def DB_root : Prop := ∀ a : Int64, CN a.toUInt64 → (dSqrt a).toUInt64 = mRoot a.toUInt64 ∧ CN (mRoot a.toUInt64)
def DB_floor : Prop := ∀ a : Int64, CN a.toUInt64 → (dFloor a).toUInt64 = mFlr a.toUInt64 ∧ CN (mFlr a.toUInt64)
def DB_sign : Prop := ∀ a : Int64, CN a.toUInt64 → (dSign a).toUInt64 = mSgnV a.toUInt64 ∧ CN (mSgnV a.toUInt64)
def DBL : Prop := DB_can ∧ DB_add ∧ DB_sub ∧ DB_mul ∧ DB_div ∧ DB_below ∧ DB_ofInt ∧ DB_toInt ∧ DB_abs ∧ DB_root ∧ DB_floor ∧ DB_sign
theorem DBL.can (D : DBL) : DB_can := D.1
theorem DBL.add (D : DBL) : DB_add := D.2.1
theorem DBL.sub (D : DBL) : DB_sub := D.2.2.1
theorem DBL.mul (D : DBL) : DB_mul := D.2.2.2.1
theorem DBL.div (D : DBL) : DB_div := D.2.2.2.2.1
theorem DBL.below (D : DBL) : DB_below := D.2.2.2.2.2.1
theorem DBL.ofInt (D : DBL) : DB_ofInt := D.2.2.2.2.2.2.1
theorem DBL.toInt (D : DBL) : DB_toInt := D.2.2.2.2.2.2.2.1
theorem DBL.abs (D : DBL) : DB_abs := D.2.2.2.2.2.2.2.2.1
theorem DBL.root (D : DBL) : DB_root := D.2.2.2.2.2.2.2.2.2.1
theorem DBL.floor (D : DBL) : DB_floor := D.2.2.2.2.2.2.2.2.2.2.1
theorem DBL.sign (D : DBL) : DB_sign := D.2.2.2.2.2.2.2.2.2.2.2
theorem tabT : (∀ o, o < 7 → tab 0 o = if o = 4 ∨ o = 5 ∨ o = 6 then 1 else 0) ∧ tab 2 0 = 0 ∧ tab 2 1 = 1 ∧ tab 2 2 = 2 ∧ tab 2 4 = 0 ∧ tab 2 6 = 0 := by decide +kernel
/-- what a simple OP comes to -/
def SO (X M X' M' : MS) (F b d2 : Nat) (s2 l2 : Nat → Nat) : Prop := TP X' M' F b d2 s2 l2 ∧ OX X X' F b ∧ OM M M' F
theorem xm_dup {X M : MS} {F b d : Nat} {st lo : Nat → Nat} (h : TP X M F b (d + 1) st lo) : xmPush (xmPopS X) (xmPopV X) = X := by
  obtain ⟨a1, a2, a3, a4, a5, a6, a7, a8, a9⟩ := h
  have e1 : X.1 7 0 7 - 1 = nI (b + d) := by rw [a6, ← Nat.add_assoc, nI_m1]
  have g := nI_guard (N := 48) (M := 48) rfl (show b + d < 48 by omega) (by decide)
  have g2 : nI (b + d) < (48 : Int32) := Int32.not_le.mp g.2
  have eX : xmPopS X = wI X 7 0 7 (nI (b + d)) := by rw [xmPopS, e1, if_neg g.1, if_pos g2]
  have eV : xmPopV X = X.2.1 19 0 (b + d) := by rw [xmPopV, e1, if_neg g.1, if_pos g2, nI_c (by omega)]
  rw [eX, eV, xmPush, wI_rd, if_pos g, nI_c (by omega), nI_1]
  refine Prod.ext ?_ (Prod.ext ?_ rfl)
  · funext c e x
    by_cases z : c = 7 ∧ e = 0 ∧ x = 7
    · obtain ⟨z1, z2, z3⟩ := z
      subst z1 z2 z3
      rw [wI_rd, a6, ← Nat.add_assoc]
    · rw [wI_o _ _ _ _ _ _ _ _ z, wL_1, wI_o _ _ _ _ _ _ _ _ z]
  · funext c e x
    rw [wI_2]
    by_cases z : c = 19 ∧ e = 0 ∧ x = b + d
    · obtain ⟨z1, z2, z3⟩ := z
      subst z1 z2 z3
      rw [wL_rd]
    · rw [wL_o _ _ _ _ _ _ _ _ z, wI_2]
theorem af_0 {M : MS} {o g d n : Nat} {st lo : Nat → Nat} (hP : opP M o g d st lo = 0) (hA : afN M o g = n) : afD M o g d st lo = d - n ∧ afS M o g d st lo = cut st (d - n) := by rw [afD, afS, hP, hA, if_pos rfl, if_pos rfl]; exact ⟨rfl, rfl⟩
theorem af_c {M : MS} {o g d n c : Nat} {st lo : Nat → Nat} (hP : opP M o g d st lo = c) (hc : c ≠ 0) (hA : afN M o g = n) : afD M o g d st lo = d - n + 1 ∧ afS M o g d st lo = up (cut st (d - n)) (d - n) c := by rw [afD, afS, hP, hA, if_neg hc, if_neg hc]; exact ⟨rfl, rfl⟩
theorem afL_n {o g d : Nat} {st lo : Nat → Nat} (h : o ≠ 4) : afL o g d st lo = lo := if_neg h
theorem afL_4 {g d : Nat} {st lo : Nat → Nat} : afL 4 g d st lo = up lo g (st (d - 1)) := if_pos rfl
theorem xmMove_v (X : MS) (f : Int32) : xmMove X (nI 0) f = X ∧ xmMove X (nI 1) f = xmPush X (valueOfP X f) ∧ xmMove X (nI 2) f = xmPush X (valueOfP X f) ∧ xmMove X (nI 3) f = xmPush X (xmLoc X f) ∧ xmMove X (nI 4) f = xmSetLoc (xmPopS X) f (xmPopV X) ∧ xmMove X (nI 5) f = xmPush (xmPush (xmPopS X) (xmPopV X)) (xmPopV X) ∧ xmMove X (nI 6) f = xmPopS X := by
  refine ⟨?_, ?_, ?_, ?_, ?_, ?_, ?_⟩
  · rw [xmMove, if_neg (by decide), if_neg (by decide), if_neg (by decide), if_neg (by decide), if_neg (by decide)]
  · rw [xmMove, if_pos (by decide)]
  · rw [xmMove, if_pos (by decide)]
  · rw [xmMove, if_neg (by decide), if_pos (by decide)]
  · rw [xmMove, if_neg (by decide), if_neg (by decide), if_pos (by decide)]
  · rw [xmMove, if_neg (by decide), if_neg (by decide), if_neg (by decide), if_pos (by decide)]
  · rw [xmMove, if_neg (by decide), if_neg (by decide), if_neg (by decide), if_neg (by decide), if_pos (by decide)]
theorem mMovS_v (S : MS) (F dd g : Nat) : mMovS S F dd (nI 0) g = S ∧ mMovS S F dd (nI 1) g = mPushS S (S.2.1 27 0 g).toInt32 FP.dconst0 F dd ∧ mMovS S F dd (nI 2) g = mPushS S 0 (mDo (S.2.1 27 0 g)) F dd ∧ mMovS S F dd (nI 3) g = mPushS S (S.1 53 0 (12 * F + g)) (S.2.2 54 0 (12 * F + g)) F dd ∧ mMovS S F dd (nI 4) g = mStoS S F (dd - 1) g ∧ mMovS S F dd (nI 5) g = mPushS S (S.1 53 0 (12 * F + 6 + (dd - 1))) (S.2.2 54 0 (12 * F + 6 + (dd - 1))) F dd ∧ mMovS S F dd (nI 6) g = mPopS S F (dd - 1) := by
  refine ⟨?_, ?_, ?_, ?_, ?_, ?_, ?_⟩
  · rw [mMovS, if_neg (by decide), if_neg (by decide), if_neg (by decide), if_neg (by decide), if_neg (by decide), if_neg (by decide)]
  · rw [mMovS, if_pos (by decide)]
  · rw [mMovS, if_neg (by decide), if_pos (by decide)]
  · rw [mMovS, if_neg (by decide), if_neg (by decide), if_pos (by decide)]
  · rw [mMovS, if_neg (by decide), if_neg (by decide), if_neg (by decide), if_pos (by decide)]
  · rw [mMovS, if_neg (by decide), if_neg (by decide), if_neg (by decide), if_neg (by decide), if_pos (by decide)]
  · rw [mMovS, if_neg (by decide), if_neg (by decide), if_neg (by decide), if_neg (by decide), if_neg (by decide), if_pos (by decide)]
theorem opN_t {M : MS} {o g : Nat} (h : o ≠ 21) : opN M o g = tab 0 o := if_neg h
theorem opP_t {M : MS} {o g d : Nat} {st lo : Nat → Nat} (h : o ≠ 3 ∧ o ≠ 5 ∧ o ≠ 21) : opP M o g d st lo = tab 2 o := by rw [opP, if_neg h.1, if_neg h.2.1, if_neg h.2.2]
theorem afN_t {M : MS} {o g : Nat} (h : o ≠ 5 ∧ o ≠ 21) : afN M o g = tab 0 o := by rw [afN, if_neg h.1, opN_t h.2]
theorem tabN : tab 0 0 = 0 ∧ tab 0 1 = 0 ∧ tab 0 2 = 0 ∧ tab 0 3 = 0 ∧ tab 0 4 = 1 ∧ tab 0 5 = 1 ∧ tab 0 6 = 1 := by decide +kernel
theorem J_move03 (D : DBL) {X M : MS} {F b d k en q lc stk o g : Nat} {st lo : Nat → Nat} {f : Int32} (h : TP X M F b d st lo) (ho : o < 4) (hP : RP X M en) (hf : mHas (nI o) = true → f = nI g) (hen : EnOk X M k en lc o g) (hlc : lc ≤ 6) (hs6 : stk ≤ 6) (hlo : ∀ l, lo l ≤ 2) (hok : opOk M q o g d st lo) (hp : opP M o g d st lo = 0 ∨ d - afN M o g < stk) : SO X M (xmMove X (nI o) f) (mMovS M F d (nI o) g) F b (afD M o g d st lo) (afS M o g d st lo) (afL o g d st lo) := by
  obtain ⟨t0, t1, t2, t3, t4, t5, t6⟩ := tabN
  obtain ⟨-, p0, p1, p2, p4, p6⟩ := tabT
  obtain ⟨x0, x1, x2, x3, x4, x5, x6⟩ := xmMove_v X f
  obtain ⟨m0, m1, m2, m3, m4, m5, m6⟩ := mMovS_v M F d g
  have hA : afN M o g = 0 := by
    rw [afN_t (by omega)]
    rcases (show o = 0 ∨ o = 1 ∨ o = 2 ∨ o = 3 by omega) with rfl | rfl | rfl | rfl <;> assumption
  rw [hA, Nat.sub_zero] at hp
  rw [afL_n (by omega)]
  have key : ∀ c v i w, c = 1 ∨ c = 2 → opP M o g d st lo = c → VR c v i w → SO X M (xmPush X v) (mPushS M i w F d) F b (afD M o g d st lo) (afS M o g d st lo) lo := fun c v i w hc hPc hv => by
    obtain ⟨e1, e2⟩ := af_c hPc (by omega) hA
    rw [e1, e2, Nat.sub_zero]
    have hd : d < 6 := by
      rcases hp with z | z
      · rw [hPc] at z; omega
      · omega
    exact h.push hd hc hv
  rcases (show o = 0 ∨ o = 1 ∨ o = 2 ∨ o = 3 by omega) with rfl | rfl | rfl | rfl
  · obtain ⟨e1, e2⟩ := af_0 (n := 0) ((opP_t (st := st) (lo := lo) (M := M) (g := g) (d := d) (o := 0) (by decide)).trans p0) hA
    rw [x0, m0, e1, e2, Nat.sub_zero]
    exact ⟨h.kinds (fun x hx => (cut_at hx).symm) (fun l _ => Or.inr rfl), OX.rf _ _ _, OM.rf _ _⟩
  · obtain ⟨e1, e2⟩ := hen.1 rfl
    rw [x1, m1]
    refine key 1 _ _ _ (Or.inl rfl) ((opP_t (by decide)).trans p1) ?_
    rw [hf (by decide), hP.val e1]
    refine ⟨fun _ => ?_, fun z => absurd z (by decide)⟩
    rcases (hP.2.2.2 g e1).2 with ⟨-, z1, x, z2⟩ | ⟨z, -⟩ | ⟨z, -⟩
    · rw [z1, z2, Int32.toInt32_toInt64]
    · rw [e2] at z; exact absurd z (by decide)
    · rw [e2] at z; exact absurd z (by decide)
  · obtain ⟨e1, e2⟩ := hen.2.1 rfl
    rw [x2, m2]
    refine key 2 _ _ _ (Or.inr rfl) ((opP_t (by decide)).trans p2) ?_
    rw [hf (by decide), hP.val e1]
    refine ⟨fun z => absurd z (by decide), fun _ => ?_⟩
    rcases (hP.2.2.2 g e1).2 with ⟨z, -⟩ | ⟨-, z1⟩ | ⟨z, -⟩
    · rw [e2] at z; exact absurd z (by decide)
    · rw [z1]; exact D.can _
    · rw [e2] at z; exact absurd z (by decide)
  · have hg : g < lc := hen.2.2.1 (Or.inl rfl)
    have hl0 : lo g ≠ 0 := hok.1 rfl
    rw [x3, m3]
    have := hlo g
    refine key (lo g) _ _ _ (by omega) (by rw [opP, if_pos rfl]) ?_
    rw [hf (by decide)]
    exact h.loc (by omega)
theorem J_move46 {X M : MS} {F b d k en q lc stk o g : Nat} {st lo : Nat → Nat} {f : Int32} (h : TP X M F b d st lo) (ho : 4 ≤ o) (ho7 : o < 7) (hf : mHas (nI o) = true → f = nI g) (hen : EnOk X M k en lc o g) (hlc : lc ≤ 6) (hs6 : stk ≤ 6) (hn : opN M o g ≤ d) (hp : opP M o g d st lo = 0 ∨ d - afN M o g < stk) : SO X M (xmMove X (nI o) f) (mMovS M F d (nI o) g) F b (afD M o g d st lo) (afS M o g d st lo) (afL o g d st lo) := by
  obtain ⟨t0, t1, t2, t3, t4, t5, t6⟩ := tabN
  obtain ⟨-, p0, p1, p2, p4, p6⟩ := tabT
  obtain ⟨x0, x1, x2, x3, x4, x5, x6⟩ := xmMove_v X f
  obtain ⟨m0, m1, m2, m3, m4, m5, m6⟩ := mMovS_v M F d g
  have hd1 : 1 ≤ d := by
    rw [opN_t (by omega)] at hn
    rcases (show o = 4 ∨ o = 5 ∨ o = 6 by omega) with rfl | rfl | rfl <;> omega
  obtain ⟨e, rfl⟩ : ∃ e, d = e + 1 := ⟨d - 1, by omega⟩
  obtain ⟨q1, q2, q3, q4⟩ := h.pop
  rw [Nat.add_sub_cancel] at m4 m5 m6
  rcases (show o = 4 ∨ o = 5 ∨ o = 6 by omega) with rfl | rfl | rfl
  · have hg : g < lc := hen.2.2.1 (Or.inr rfl)
    obtain ⟨e1, e2⟩ := af_0 (n := 1) ((opP_t (st := st) (lo := lo) (M := M) (g := g) (d := e + 1) (o := 4) (by decide)).trans p4) ((afN_t (by decide)).trans t4)
    rw [x4, m4, e1, e2, afL_4, Nat.add_sub_cancel, hf (by decide), mStoS]
    obtain ⟨r1, r2, r3⟩ := q1.set (g := g) (by omega) q4
    exact ⟨r1, q2.tr r2, q3.tr r3⟩
  · have hk := h.2.2.2.2.2.2.2.1 e (by omega)
    have hA : afN M 5 g = 0 := if_pos rfl
    have eP : opP M 5 g (e + 1) st lo = st e := by rw [opP, if_neg (by decide), if_pos rfl, Nat.add_sub_cancel]
    rw [eP, hA, Nat.sub_zero] at hp
    have hs0 : st e ≠ 0 := by omega
    obtain ⟨e1, e2⟩ := af_c eP hs0 hA
    have hd : e + 1 < 6 := by
      rcases hp with z | z
      · exact absurd z hs0
      · omega
    rw [x5, xm_dup h, m5, e1, e2, afL_n (by decide), Nat.sub_zero]
    exact h.push hd hk.1 q4
  · obtain ⟨e1, e2⟩ := af_0 (n := 1) ((opP_t (st := st) (lo := lo) (M := M) (g := g) (d := e + 1) (o := 6) (by decide)).trans p6) ((afN_t (by decide)).trans t6)
    rw [x6, m6, e1, e2, afL_n (by decide), Nat.add_sub_cancel]
    exact ⟨q1, q2, q3⟩
