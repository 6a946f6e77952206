/-! the two sides run alike: OPs of numbers -/
theorem mPopS_2 (M : MS) (F a b : Nat) : mPopS (mPopS M F a) F b = mPopS M F b := by
  unfold mPopS
  refine Prod.ext ?_ rfl
  funext c e x
  by_cases z : c = 52 ∧ e = 0 ∧ x = F
  · obtain ⟨z1, z2, z3⟩ := z
    subst z1 z2 z3
    rw [wI_rd, wI_rd]
  · rw [wI_o _ _ _ _ _ _ _ _ z, wI_o _ _ _ _ _ _ _ _ z, wI_o _ _ _ _ _ _ _ _ z]
theorem TP.pop2 {X M : MS} {F b e : Nat} {st lo : Nat → Nat} (h : TP X M F b (e + 2) st lo) : TP (xmPopS (xmPopS X)) (mPopS M F e) F b e (cut st e) lo ∧ OX X (xmPopS (xmPopS X)) F b ∧ OM M (mPopS M F e) F ∧ VR (st (e + 1)) (xmPopV X) (M.1 53 0 (12 * F + 6 + (e + 1))) (M.2.2 54 0 (12 * F + 6 + (e + 1))) ∧ VR (st e) (xmPopV (xmPopS X)) (M.1 53 0 (12 * F + 6 + e)) (M.2.2 54 0 (12 * F + 6 + e)) := by
  obtain ⟨p1, p2, p3, p4⟩ := h.pop
  obtain ⟨q1, q2, q3, q4⟩ := p1.pop
  rw [mPopS_2, cut_cut (by omega)] at q1
  rw [mPopS_2] at q3
  refine ⟨q1, p2.tr q2, p3.tr q3, p4, ?_⟩
  rw [cut_at (by omega), mPopS, wI_o _ _ _ _ _ _ _ _ (fun z => absurd z.1 (by decide)), wI_2] at q4
  exact q4
/-- what an OP comes to: the frame goes on, or the CALL fails -/
def Out (X M X' M' : MS) (F b d2 : Nat) (s2 l2 : Nat → Nat) : Prop := SO X M X' M' F b d2 s2 l2 ∨ ∃ w Xa Ma, w ≠ 0 ∧ OX X Xa F b ∧ OM M Ma F ∧ X' = xmFail Xa w ∧ M' = mFailS Ma w F
theorem Out.psh {X M Xa Ma : MS} {F b e c : Nat} {st lo : Nat → Nat} {v : Int64} {i : Int32} {w : UInt64} (h : TP Xa Ma F b e (cut st e) lo) (hx : OX X Xa F b) (hm : OM M Ma F) (he : e < 6) (hc : c = 1 ∨ c = 2) (hv : VR c v i w) : Out X M (xmPush Xa v) (mPushS Ma i w F e) F b (e + 1) (up (cut st e) e c) lo := by
  obtain ⟨q1, q2, q3⟩ := h.push he hc hv
  rw [cut_cut (Nat.le_refl _)] at q1
  exact Or.inl ⟨q1, hx.tr q2, hm.tr q3⟩
theorem VR.i {v : Int64} {i : Int32} {w : UInt64} (h : v = i.toInt64) : VR 1 v i w := ⟨fun _ => h, fun z => absurd z (by decide)⟩
theorem VR.d {v : Int64} {i : Int32} {w : UInt64} (h : v.toUInt64 = w ∧ CN w) : VR 2 v i w := ⟨fun z => absurd z (by decide), fun _ => h⟩
theorem i64_z {i : Int32} : i.toInt64 = 0 ↔ i = 0 := by
  rw [← Int64.toInt_inj, ← Int32.toInt_inj, Int32.toInt_toInt64]; rfl
theorem i64_le {i j : Int32} : i.toInt64 ≤ j.toInt64 ↔ i ≤ j := by rw [Int64.le_iff_toInt_le, Int32.le_iff_toInt_le, Int32.toInt_toInt64, Int32.toInt_toInt64]
theorem xmInts_10 (X : MS) : xmInts X (nI 10) = if (xmPopV X).toInt32 = 0 then xmFail (xmPopS (xmPopS X)) 1 else xmPush (xmPopS (xmPopS X)) ((xmPopV (xmPopS X)).toInt32 / (xmPopV X).toInt32).toInt64 := by rw [xmInts, if_neg (by decide), if_neg (by decide), if_neg (by decide)]
theorem mJI_10 (S : MS) (x y : Int32) (F dd : Nat) : mJI S x y F dd (nI 10) = if y = 0 then mFailS S 1 F else mPushS S (x / y) FP.dconst0 F dd := by rw [mJI, if_neg (by decide), if_neg (by decide), if_neg (by decide), if_pos (by decide)]
theorem mJI_17 (S : MS) (x y : Int32) (F dd : Nat) : mJI S x y F dd (nI 17) = mPushS S (if y ≤ x then 0 else 1) FP.dconst0 F dd := by rw [mJI, if_neg (by decide), if_neg (by decide), if_neg (by decide), if_neg (by decide)]
theorem xmChg_17 (S : MS) : xmChg S (nI 17) = xmPush (xmPopS (xmPopS S)) (if xmPopV S ≤ xmPopV (xmPopS S) then 0 else 1) := by rw [xmChg, if_neg (by decide), if_neg (by decide), if_pos (by decide)]
theorem xmChg_18 (S : MS) : xmChg S (nI 18) = xmPush (xmPopS (xmPopS S)) (if dBelow (xmPopV (xmPopS S)) (xmPopV S) = true then 1 else 0) := by rw [xmChg, if_neg (by decide), if_neg (by decide), if_neg (by decide)]
theorem mJD_18 (S : MS) (x y : UInt64) (F dd : Nat) : mJD S x y F dd (nI 18) = mPushS S (if 0 ≤ Op.cmpValue (FP.dcmp x y) .g then 0 else 1) FP.dconst0 F dd := by rw [mJD, if_neg (by decide), if_neg (by decide), if_neg (by decide), if_neg (by decide)]
theorem xmRest_23 (S : MS) (f : Int32) (tk : Nat → Nat) : xmRest S (nI 23) f tk = xmFromTab (xmPopS S) (xmPopV S) := by rw [xmRest, if_neg (by decide), if_neg (by decide), if_neg (by decide), if_neg (by decide)]
theorem mTrnS_23 (S : MS) (F dd g : Nat) : mTrnS S F dd (nI 23) g = if mIn (S.1 53 0 (12 * F + 6 + dd)) 0 7 = true then mPushS (mPopS S F dd) 0 (S.2.2 25 0 (S.1 53 0 (12 * F + 6 + dd)).toNatClampNeg) F dd else mFailS (mPopS S F dd) 2 F := by rw [mTrnS, if_neg (by decide), if_neg (by decide), if_pos (by decide)]
theorem mTrnS_24 (S : MS) (F dd g : Nat) : mTrnS S F dd (nI 24) g = mPushS (mPopS S F dd) 0 (mLstV (S.1 29 0 (8 * g)) (S.2.2 54 0 (12 * F + 6 + dd))) F dd := by rw [mTrnS, if_neg (by decide), if_neg (by decide), if_neg (by decide)]
theorem J_ints {X M : MS} {F b e o : Nat} {st lo : Nat → Nat} (h : TP X M F b (e + 2) st lo) (h1 : st e = 1) (h2 : st (e + 1) = 1) (ho : 7 ≤ o) (ho2 : o ≤ 10) : Out X M (xmInts X (nI o)) (mJIS M F e (nI o)) F b (e + 1) (up (cut st e) e 1) lo := by
  obtain ⟨p1, p2, p3, p4, p5⟩ := h.pop2
  have hd := h.2.2.2.2.1
  have ey := p4.1 h2
  have ex := p5.1 h1
  rw [mJIS]
  rcases (show o = 7 ∨ o = 8 ∨ o = 9 ∨ o = 10 by omega) with rfl | rfl | rfl | rfl
  · rw [xmInts, mJI, if_pos (by decide), if_pos (by decide), ey, ex, Int32.toInt32_toInt64, Int32.toInt32_toInt64]
    exact Out.psh p1 p2 p3 (by omega) (Or.inl rfl) (VR.i rfl)
  · rw [xmInts, mJI, if_neg (by decide), if_pos (by decide), if_neg (by decide), if_pos (by decide), ey, ex, Int32.toInt32_toInt64, Int32.toInt32_toInt64]
    exact Out.psh p1 p2 p3 (by omega) (Or.inl rfl) (VR.i rfl)
  · rw [xmInts, mJI, if_neg (by decide), if_neg (by decide), if_pos (by decide), if_neg (by decide), if_neg (by decide), if_pos (by decide), ey, ex, Int32.toInt32_toInt64, Int32.toInt32_toInt64]
    exact Out.psh p1 p2 p3 (by omega) (Or.inl rfl) (VR.i rfl)
  · rw [xmInts_10, mJI_10, ey, ex, Int32.toInt32_toInt64, Int32.toInt32_toInt64]
    by_cases c : M.1 53 0 (12 * F + 6 + (e + 1)) = 0
    · rw [if_pos c, if_pos c]
      exact Or.inr ⟨1, _, _, by decide, p2, p3, rfl, rfl⟩
    · rw [if_neg c, if_neg c]
      exact Out.psh p1 p2 p3 (by omega) (Or.inl rfl) (VR.i rfl)
theorem J_dbls (D : DBL) {X M : MS} {F b e o : Nat} {st lo : Nat → Nat} (h : TP X M F b (e + 2) st lo) (h1 : st e = 2) (h2 : st (e + 1) = 2) (ho : 11 ≤ o) (ho2 : o ≤ 14) : Out X M (xmDbls X (nI o)) (mJDS M F e (nI o)) F b (e + 1) (up (cut st e) e 2) lo := by
  obtain ⟨p1, p2, p3, p4, p5⟩ := h.pop2
  have hd := h.2.2.2.2.1
  obtain ⟨ey, cy⟩ := p4.2 h2
  obtain ⟨ex, cx⟩ := p5.2 h1
  rw [← ey] at cy
  rw [← ex] at cx
  rw [xmDbls, mJDS, ← ey, ← ex, mJD]
  rcases (show o = 11 ∨ o = 12 ∨ o = 13 ∨ o = 14 by omega) with rfl | rfl | rfl | rfl
  · rw [if_pos (by decide), if_pos (by decide)]
    exact Out.psh p1 p2 p3 (by omega) (Or.inr rfl) (VR.d (D.add _ _ cx cy))
  · rw [if_neg (by decide), if_pos (by decide), if_neg (by decide), if_pos (by decide)]
    exact Out.psh p1 p2 p3 (by omega) (Or.inr rfl) (VR.d (D.sub _ _ cx cy))
  · rw [if_neg (by decide), if_neg (by decide), if_pos (by decide), if_neg (by decide), if_neg (by decide), if_pos (by decide)]
    exact Out.psh p1 p2 p3 (by omega) (Or.inr rfl) (VR.d (D.mul _ _ cx cy))
  · rw [if_neg (by decide), if_neg (by decide), if_neg (by decide), if_neg (by decide), if_neg (by decide), if_neg (by decide), if_pos (by decide)]
    exact Out.psh p1 p2 p3 (by omega) (Or.inr rfl) (VR.d (D.div _ _ cx cy))
theorem J_17 {X M : MS} {F b e : Nat} {st lo : Nat → Nat} (h : TP X M F b (e + 2) st lo) (h1 : st e = 1) (h2 : st (e + 1) = 1) : Out X M (xmChg X (nI 17)) (mJIS M F e (nI 17)) F b (e + 1) (up (cut st e) e 1) lo := by
  obtain ⟨p1, p2, p3, p4, p5⟩ := h.pop2
  have hd := h.2.2.2.2.1
  have ey := p4.1 h2
  have ex := p5.1 h1
  rw [xmChg_17, mJIS, mJI_17, ey, ex]
  refine Out.psh p1 p2 p3 (by omega) (Or.inl rfl) (VR.i ?_)
  by_cases c : M.1 53 0 (12 * F + 6 + (e + 1)) ≤ M.1 53 0 (12 * F + 6 + e)
  · rw [if_pos c, if_pos (i64_le.mpr c)]; rfl
  · rw [if_neg c, if_neg (fun z => c (i64_le.mp z))]; rfl
theorem J_18 (D : DBL) {X M : MS} {F b e : Nat} {st lo : Nat → Nat} (h : TP X M F b (e + 2) st lo) (h1 : st e = 2) (h2 : st (e + 1) = 2) : Out X M (xmChg X (nI 18)) (mJDS M F e (nI 18)) F b (e + 1) (up (cut st e) e 1) lo := by
  obtain ⟨p1, p2, p3, p4, p5⟩ := h.pop2
  have hd := h.2.2.2.2.1
  obtain ⟨ey, cy⟩ := p4.2 h2
  obtain ⟨ex, cx⟩ := p5.2 h1
  rw [← ey] at cy
  rw [← ex] at cx
  have hb := D.below _ _ cx cy
  rw [xmChg_18, mJDS, mJD_18, ← ey, ← ex]
  refine Out.psh p1 p2 p3 (by omega) (Or.inl rfl) (VR.i ?_)
  by_cases c : dBelow (xmPopV (xmPopS X)) (xmPopV X) = true
  · rw [if_pos c, if_neg (hb.mp c)]; rfl
  · rw [if_neg c, if_pos (Decidable.not_not.mp (fun z => c (hb.mpr z)))]; rfl
theorem J_15 (D : DBL) {X M : MS} {F b e g : Nat} {st lo : Nat → Nat} (h : TP X M F b (e + 1) st lo) (h1 : st e = 1) : Out X M (xmChg X (nI 15)) (mTrnS M F e (nI 15) g) F b (e + 1) (up (cut st e) e 2) lo := by
  obtain ⟨p1, p2, p3, p4⟩ := h.pop
  have hd := h.2.2.2.2.1
  have ex := p4.1 h1
  rw [xmChg, mTrnS, if_pos (by decide), if_pos (by decide), ex, Int32.toInt32_toInt64]
  exact Out.psh p1 p2 p3 (by omega) (Or.inr rfl) (VR.d (D.ofInt _))
theorem J_16 (D : DBL) {X M : MS} {F b e g : Nat} {st lo : Nat → Nat} (h : TP X M F b (e + 1) st lo) (h1 : st e = 2) : Out X M (xmChg X (nI 16)) (mTrnS M F e (nI 16) g) F b (e + 1) (up (cut st e) e 1) lo := by
  obtain ⟨p1, p2, p3, p4⟩ := h.pop
  have hd := h.2.2.2.2.1
  obtain ⟨ex, cx⟩ := p4.2 h1
  rw [← ex] at cx
  rw [xmChg, mTrnS, if_neg (by decide), if_pos (by decide), if_neg (by decide), if_pos (by decide), ← ex, ← D.toInt _ cx]
  exact Out.psh p1 p2 p3 (by omega) (Or.inl rfl) (VR.i rfl)
/-- the TABLE, alike -/
def TB (X M : MS) : Prop := ∀ i, i < 8 → (X.2.1 18 0 i).toUInt64 = M.2.2 25 0 i ∧ CN (M.2.2 25 0 i)
theorem TB.o {X M X' M' : MS} (h : TB X M) (x : ∀ d, X'.2.1 18 0 d = X.2.1 18 0 d) (m : ∀ d, M'.2.2 25 0 d = M.2.2 25 0 d) : TB X' M' := fun i hi => by rw [x, m]; exact h i hi
theorem J_23 {X M : MS} {F b e g : Nat} {st lo : Nat → Nat} {f : Int32} {tk : Nat → Nat} (h : TP X M F b (e + 1) st lo) (h1 : st e = 1) (hT : TB X M) : Out X M (xmRest X (nI 23) f tk) (mTrnS M F e (nI 23) g) F b (e + 1) (up (cut st e) e 2) lo := by
  obtain ⟨p1, p2, p3, p4⟩ := h.pop
  have hd := h.2.2.2.2.1
  have ex := p4.1 h1
  rw [xmRest_23, mTrnS_23, ex, xmFromTab]
  generalize M.1 53 0 (12 * F + 6 + e) = i at *
  have c1 : i.toInt64 < 0 ↔ i < 0 := by rw [Int64.lt_iff_toInt_lt, Int32.lt_iff_toInt_lt, Int32.toInt_toInt64]; rfl
  have c2 : 8 ≤ i.toInt64 ↔ 8 ≤ i := by rw [Int64.le_iff_toInt_le, Int32.le_iff_toInt_le, Int32.toInt_toInt64]; rfl
  by_cases k1 : i < 0
  · rw [if_pos (c1.mpr k1), if_neg (by rw [mIn, decide_eq_false (fun z => z k1)]; simp)]
    exact Or.inr ⟨2, _, _, by decide, p2, p3, rfl, rfl⟩
  · rw [if_neg (fun z => k1 (c1.mp z))]
    by_cases k2 : 8 ≤ i
    · have k3 : 7 < i := Int32.lt_of_lt_of_le (by decide) k2
      rw [if_pos (c2.mpr k2), if_neg (by rw [mIn, decide_eq_true k1, decide_eq_false (fun z => z k3)]; simp)]
      exact Or.inr ⟨2, _, _, by decide, p2, p3, rfl, rfl⟩
    · have k3 : ¬ 7 < i := fun z => k2 (by
        rw [Int32.lt_iff_toInt_lt] at z
        rw [Int32.le_iff_toInt_le]
        have h7 : (7 : Int32).toInt = 7 := rfl
        have h8 : (8 : Int32).toInt = 8 := rfl
        omega)
      rw [if_neg (fun z => k2 (c2.mp z)), if_pos (by rw [mIn, decide_eq_true k1, decide_eq_true k3]; rfl), Int32.toInt32_toInt64]
      obtain ⟨j, hj, rfl⟩ := nI_of2 (M := 7) (n := 7) rfl k1 (Int32.not_lt.mp k3)
      rw [nI_c (by omega)]
      have e1 : (xmPopS X).2.1 18 0 j = X.2.1 18 0 j := p2.2 _ _ _ (fun z => absurd z.1 (by decide)) (fun z => absurd z.1 (by decide))
      rw [e1]
      exact Out.psh p1 p2 p3 (by omega) (Or.inr rfl) (VR.d (hT j (by omega)))
theorem J_24 (D : DBL) {X M : MS} {F b e g : Nat} {st lo : Nat → Nat} {w : Int64} (h : TP X M F b (e + 1) st lo) (h1 : st e = 2) (hL : LF X M g) (hw : w = X.2.1 13 0 g) : Out X M (xmListed X w) (mTrnS M F e (nI 24) g) F b (e + 1) (up (cut st e) e 2) lo := by
  obtain ⟨p1, p2, p3, p4⟩ := h.pop
  have hd := h.2.2.2.2.1
  obtain ⟨ex, cx⟩ := p4.2 h1
  rw [← ex] at cx
  rw [xmListed, mTrnS_24, ← ex, mLstV, hw]
  rcases hL with ⟨l1, l2⟩ | ⟨l1, l2⟩ | ⟨l1, l2⟩ | ⟨l1, l2⟩
  · rw [l1, l2, if_pos rfl, if_pos rfl]
    exact Out.psh p1 p2 p3 (by omega) (Or.inr rfl) (VR.d (D.abs _ cx))
  · rw [l1, l2, if_neg (by decide), if_pos rfl, if_neg (by decide), if_neg (by decide), if_pos rfl]
    exact Out.psh p1 p2 p3 (by omega) (Or.inr rfl) (VR.d (D.root _ cx))
  · rw [l1, l2, if_neg (by decide), if_neg (by decide), if_pos rfl, if_neg (by decide), if_pos rfl]
    exact Out.psh p1 p2 p3 (by omega) (Or.inr rfl) (VR.d (D.floor _ cx))
  · rw [l1, l2, if_neg (by decide), if_neg (by decide), if_neg (by decide), if_neg (by decide), if_neg (by decide), if_neg (by decide)]
    exact Out.psh p1 p2 p3 (by omega) (Or.inr rfl) (VR.d (D.sign _ cx))
/-- the class's OP, behind its going on -/
def xK (S : MS) (o f : Int32) (tk : Nat → Nat) : MS :=
  if 6 < o then (if 10 < o then (if 14 < o then (if 18 < o then (if o = 24 then xmListed S (valueOfP S f) else xmRest S o f tk) else xmChg S o) else xmDbls S o) else xmInts S o) else xmMove S o f
theorem xmOp_K (S : MS) (tk : Nat → Nat) : xmOp S tk = xK (xm2 S) (xmO S) (xmF S) tk := rfl
theorem tabs3 : ∀ o, 7 ≤ o → o < 25 → (o ≤ 10 → tab 0 o = 2 ∧ tab 1 o = 1 ∧ tab 2 o = 1) ∧ (11 ≤ o → o ≤ 14 → tab 0 o = 2 ∧ tab 1 o = 2 ∧ tab 2 o = 2) ∧ (o = 15 → tab 0 o = 1 ∧ tab 1 o = 1 ∧ tab 2 o = 2) ∧ (o = 16 → tab 0 o = 1 ∧ tab 1 o = 2 ∧ tab 2 o = 1) ∧ (o = 17 → tab 0 o = 2 ∧ tab 1 o = 1 ∧ tab 2 o = 1) ∧ (o = 18 → tab 0 o = 2 ∧ tab 1 o = 2 ∧ tab 2 o = 1) ∧ (o = 19 → tab 0 o = 0 ∧ tab 2 o = 0) ∧ (o = 20 → tab 0 o = 1 ∧ tab 1 o = 1 ∧ tab 2 o = 0) ∧ (o = 22 → tab 0 o = 1 ∧ tab 2 o = 0) ∧ (o = 23 → tab 0 o = 1 ∧ tab 1 o = 1 ∧ tab 2 o = 2) ∧ (o = 24 → tab 0 o = 1 ∧ tab 1 o = 2 ∧ tab 2 o = 2) := by
  have h : ∀ o, o < 25 → (decide (7 ≤ o ∧ o ≤ 10) → (decide (tab 0 o = 2) && decide (tab 1 o = 1) && decide (tab 2 o = 1)) = true) ∧ (decide (11 ≤ o ∧ o ≤ 14) → (decide (tab 0 o = 2) && decide (tab 1 o = 2) && decide (tab 2 o = 2)) = true) := by decide +kernel
  have k : (tab 0 15 = 1 ∧ tab 1 15 = 1 ∧ tab 2 15 = 2) ∧ (tab 0 16 = 1 ∧ tab 1 16 = 2 ∧ tab 2 16 = 1) ∧ (tab 0 17 = 2 ∧ tab 1 17 = 1 ∧ tab 2 17 = 1) ∧ (tab 0 18 = 2 ∧ tab 1 18 = 2 ∧ tab 2 18 = 1) ∧ (tab 0 19 = 0 ∧ tab 2 19 = 0) ∧ (tab 0 20 = 1 ∧ tab 1 20 = 1 ∧ tab 2 20 = 0) ∧ (tab 0 22 = 1 ∧ tab 2 22 = 0) ∧ (tab 0 23 = 1 ∧ tab 1 23 = 1 ∧ tab 2 23 = 2) ∧ (tab 0 24 = 1 ∧ tab 1 24 = 2 ∧ tab 2 24 = 2) := by decide +kernel
  obtain ⟨k1, k2, k3, k4, k5, k6, k7, k8, k9⟩ := k
  intro o h7 h25
  obtain ⟨a, b⟩ := h o h25
  refine ⟨fun z => ?_, fun z z2 => ?_, ?_, ?_, ?_, ?_, ?_, ?_, ?_, ?_, ?_⟩
  · have := a (decide_eq_true ⟨h7, z⟩)
    simp only [Bool.and_eq_true, decide_eq_true_eq] at this
    exact ⟨this.1.1, this.1.2, this.2⟩
  · have := b (decide_eq_true ⟨z, z2⟩)
    simp only [Bool.and_eq_true, decide_eq_true_eq] at this
    exact ⟨this.1.1, this.1.2, this.2⟩
  · rintro rfl; exact k1
  · rintro rfl; exact k2
  · rintro rfl; exact k3
  · rintro rfl; exact k4
  · rintro rfl; exact k5
  · rintro rfl; exact k6
  · rintro rfl; exact k7
  · rintro rfl; exact k8
  · rintro rfl; exact k9
