/-! the two sides run alike: the simple OPs together; JUMPs -/
theorem xK_v {X : MS} {o : Nat} {f : Int32} {tk : Nat → Nat} (ho : o < 25) : (o < 7 → xK X (nI o) f tk = xmMove X (nI o) f) ∧ (7 ≤ o → o ≤ 10 → xK X (nI o) f tk = xmInts X (nI o)) ∧ (11 ≤ o → o ≤ 14 → xK X (nI o) f tk = xmDbls X (nI o)) ∧ (15 ≤ o → o ≤ 18 → xK X (nI o) f tk = xmChg X (nI o)) ∧ (19 ≤ o → o ≤ 23 → xK X (nI o) f tk = xmRest X (nI o) f tk) ∧ (o = 24 → xK X (nI o) f tk = xmListed X (valueOfP X f)) := by
  have c6 : (6 : Int32) < nI o ↔ 6 < o := by rw [show (6 : Int32) = nI 6 from rfl, nI_ltI (by decide) (by omega)]
  have c10 : (10 : Int32) < nI o ↔ 10 < o := by rw [show (10 : Int32) = nI 10 from rfl, nI_ltI (by decide) (by omega)]
  have c14 : (14 : Int32) < nI o ↔ 14 < o := by rw [show (14 : Int32) = nI 14 from rfl, nI_ltI (by decide) (by omega)]
  have c18 : (18 : Int32) < nI o ↔ 18 < o := by rw [show (18 : Int32) = nI 18 from rfl, nI_ltI (by decide) (by omega)]
  have c24 : nI o = (24 : Int32) ↔ o = 24 := by rw [show (24 : Int32) = nI 24 from rfl, nI_eq (by omega) (by decide)]
  unfold xK
  simp only [c6, c10, c14, c18, c24]
  refine ⟨fun z => ?_, fun z z2 => ?_, fun z z2 => ?_, fun z z2 => ?_, fun z z2 => ?_, fun z => ?_⟩
  · rw [if_neg (by omega)]
  · rw [if_pos (by omega), if_neg (by omega)]
  · rw [if_pos (by omega), if_pos (by omega), if_neg (by omega)]
  · rw [if_pos (by omega), if_pos (by omega), if_pos (by omega), if_neg (by omega)]
  · rw [if_pos (by omega), if_pos (by omega), if_pos (by omega), if_pos (by omega), if_neg (by omega)]
  · rw [if_pos (by omega), if_pos (by omega), if_pos (by omega), if_pos (by omega), if_pos z]
theorem mSt1_b : ∀ o, o < 25 → (mIn (nI o) 7 10 || decide (nI o = 17)) = decide ((7 ≤ o ∧ o ≤ 10) ∨ o = 17) ∧ (mIn (nI o) 11 14 || decide (nI o = 18)) = decide ((11 ≤ o ∧ o ≤ 14) ∨ o = 18) := by decide +kernel
theorem mSt1_v {M : MS} {F d o g : Nat} (ho : o < 25) : (o < 7 → mSt1 M F d (nI o) g = mMovS M F d (nI o) g) ∧ ((7 ≤ o ∧ o ≤ 10) ∨ o = 17 → mSt1 M F d (nI o) g = mJIS M F (d - 2) (nI o)) ∧ ((11 ≤ o ∧ o ≤ 14) ∨ o = 18 → mSt1 M F d (nI o) g = mJDS M F (d - 2) (nI o)) ∧ (o = 15 ∨ o = 16 ∨ o = 23 ∨ o = 24 → mSt1 M F d (nI o) g = mTrnS M F (d - 1) (nI o) g) ∧ (o = 19 → mSt1 M F d (nI o) g = M) ∧ (o = 20 → mSt1 M F d (nI o) g = mPopS M F (d - 1)) := by
  have c19 : nI o = (19 : Int32) ↔ o = 19 := by rw [show (19 : Int32) = nI 19 from rfl, nI_eq (by omega) (by decide)]
  have c20 : nI o = (20 : Int32) ↔ o = 20 := by rw [show (20 : Int32) = nI 20 from rfl, nI_eq (by omega) (by decide)]
  have c7 : (7 : Int32) ≤ nI o ↔ 7 ≤ o := by rw [show (7 : Int32) = nI 7 from rfl, nI_leI (by decide) (by omega)]
  obtain ⟨b1, b2⟩ := mSt1_b o ho
  unfold mSt1
  simp only [c19, c20, c7, b1, b2, decide_eq_true_eq]
  refine ⟨fun z => ?_, fun z => ?_, fun z => ?_, fun z => ?_, fun z => ?_, fun z => ?_⟩
  · rw [if_neg (by omega), if_neg (by omega), if_neg (by omega)]
  · rw [if_neg (by omega), if_neg (by omega), if_pos (by omega), if_pos z]
  · rw [if_neg (by omega), if_neg (by omega), if_pos (by omega), if_neg (by omega), if_pos z]
  · rw [if_neg (by omega), if_neg (by omega), if_pos (by omega), if_neg (by omega), if_neg (by omega)]
  · rw [if_pos z]
  · rw [if_neg (by omega), if_pos z]
theorem opW_t {M : MS} {q o g k : Nat} (h : o ≠ 21) (h2 : o ≠ 22) : opW M q o g k = tab 1 o := by rw [opW, if_neg h, if_neg h2]
/-- two items of kind c are taken, one of kind r is put -/
theorem out_2 {X M X' M' : MS} {F b d q o g c r : Nat} {st lo : Nat → Nat} (n21 : o ≠ 21) (n22 : o ≠ 22) (n3 : o ≠ 3) (n5 : o ≠ 5) (n4 : o ≠ 4) (hc : c ≠ 0) (hr : r ≠ 0) (t : tab 0 o = 2 ∧ tab 1 o = c ∧ tab 2 o = r) (hn : opN M o g ≤ d) (hok : opOk M q o g d st lo) (H : ∀ e, d = e + 2 → st e = c → st (e + 1) = c → Out X M X' M' F b (e + 1) (up (cut st e) e r) lo) : Out X M X' M' F b (afD M o g d st lo) (afS M o g d st lo) (afL o g d st lo) := by
  obtain ⟨t0, t1, t2⟩ := t
  have hN : opN M o g = 2 := (opN_t n21).trans t0
  rw [hN] at hn
  obtain ⟨e, rfl⟩ : ∃ e, d = e + 2 := ⟨d - 2, by omega⟩
  obtain ⟨e1, e2⟩ := af_c (n := 2) (c := r) ((opP_t (st := st) (lo := lo) (M := M) (g := g) (d := e + 2) ⟨n3, n5, n21⟩).trans t2) hr ((afN_t ⟨n5, n21⟩).trans t0)
  rw [e1, e2, afL_n n4, Nat.add_sub_cancel]
  have k0 := hok.2 0 (by rw [hN]; decide)
  have k1 := hok.2 1 (by rw [hN]; decide)
  rw [opW_t n21 n22, t1] at k0 k1
  refine H e rfl ?_ ?_
  · have := k1.resolve_left hc
    rw [show e + 2 - 1 - 1 = e by omega] at this
    exact this
  · have := k0.resolve_left hc
    rw [show e + 2 - 1 - 0 = e + 1 by omega] at this
    exact this
theorem out_1 {X M X' M' : MS} {F b d q o g c r : Nat} {st lo : Nat → Nat} (n21 : o ≠ 21) (n22 : o ≠ 22) (n3 : o ≠ 3) (n5 : o ≠ 5) (n4 : o ≠ 4) (hc : c ≠ 0) (hr : r ≠ 0) (t : tab 0 o = 1 ∧ tab 1 o = c ∧ tab 2 o = r) (hn : opN M o g ≤ d) (hok : opOk M q o g d st lo) (H : ∀ e, d = e + 1 → st e = c → Out X M X' M' F b (e + 1) (up (cut st e) e r) lo) : Out X M X' M' F b (afD M o g d st lo) (afS M o g d st lo) (afL o g d st lo) := by
  obtain ⟨t0, t1, t2⟩ := t
  have hN : opN M o g = 1 := (opN_t n21).trans t0
  rw [hN] at hn
  obtain ⟨e, rfl⟩ : ∃ e, d = e + 1 := ⟨d - 1, by omega⟩
  obtain ⟨e1, e2⟩ := af_c (n := 1) (c := r) ((opP_t (st := st) (lo := lo) (M := M) (g := g) (d := e + 1) ⟨n3, n5, n21⟩).trans t2) hr ((afN_t ⟨n5, n21⟩).trans t0)
  rw [e1, e2, afL_n n4, Nat.add_sub_cancel]
  have k0 := hok.2 0 (by rw [hN]; decide)
  rw [opW_t n21 n22, t1] at k0
  have := k0.resolve_left hc
  rw [show e + 1 - 1 - 0 = e by omega] at this
  exact H e rfl this
theorem J_s6 (D : DBL) {X M : MS} {F b d k en q L lc stk mp p o g : Nat} {pl st lo : Nat → Nat} {f : Int32} (h : TP X M F b d st lo) (hS : OpS X M k en q L lc stk mp pl p o g d st lo) (hKB : KB lc stk d st lo) (hP : RP X M en) (hlc : lc ≤ 6) (hs6 : stk ≤ 6) (hf : mHas (nI o) = true → f = nI g) (c7 : o < 7) : SO X M (xmMove X (nI o) f) (mMovS M F d (nI o) g) F b (afD M o g d st lo) (afS M o g d st lo) (afL o g d st lo) := by
  obtain ⟨ho, -, -, hg, -, -, hen, hn, hok, hp, -⟩ := hS
  by_cases c4 : o < 4
  · exact J_move03 D h c4 hP hf hen hlc hs6 hKB.2.2.2.1 hok hp
  · exact J_move46 (q := q) h (Nat.not_lt.mp c4) c7 hf hen hlc hs6 hn hp
theorem J_s14 (D : DBL) {X M : MS} {F b d q o g : Nat} {st lo : Nat → Nat} (h : TP X M F b d st lo) (hn : opN M o g ≤ d) (hok : opOk M q o g d st lo) (c7 : 7 ≤ o) (c14 : o ≤ 14) : Out X M (if o ≤ 10 then xmInts X (nI o) else xmDbls X (nI o)) (if o ≤ 10 then mJIS M F (d - 2) (nI o) else mJDS M F (d - 2) (nI o)) F b (afD M o g d st lo) (afS M o g d st lo) (afL o g d st lo) := by
  obtain ⟨t1, t2, -⟩ := tabs3 o c7 (by omega)
  have n21 : o ≠ 21 := by omega
  have n22 : o ≠ 22 := by omega
  by_cases c10 : o ≤ 10
  · rw [if_pos c10, if_pos c10]
    refine out_2 n21 n22 (by omega) (by omega) (by omega) (by decide) (by decide) (t1 c10) hn hok (fun e he h1 h2 => ?_)
    subst he
    rw [Nat.add_sub_cancel]
    exact J_ints h h1 h2 c7 c10
  · rw [if_neg c10, if_neg c10]
    refine out_2 n21 n22 (by omega) (by omega) (by omega) (by decide) (by decide) (t2 (by omega) c14) hn hok (fun e he h1 h2 => ?_)
    subst he
    rw [Nat.add_sub_cancel]
    exact J_dbls D h h1 h2 (by omega) c14
theorem tabs4 : (tab 0 15 = 1 ∧ tab 1 15 = 1 ∧ tab 2 15 = 2) ∧ (tab 0 16 = 1 ∧ tab 1 16 = 2 ∧ tab 2 16 = 1) ∧ (tab 0 17 = 2 ∧ tab 1 17 = 1 ∧ tab 2 17 = 1) ∧ (tab 0 18 = 2 ∧ tab 1 18 = 2 ∧ tab 2 18 = 1) ∧ (tab 0 23 = 1 ∧ tab 1 23 = 1 ∧ tab 2 23 = 2) ∧ (tab 0 24 = 1 ∧ tab 1 24 = 2 ∧ tab 2 24 = 2) := by decide +kernel
theorem J_s15 (D : DBL) {X M : MS} {F b d q g : Nat} {st lo : Nat → Nat} (h : TP X M F b d st lo) (hn : opN M 15 g ≤ d) (hok : opOk M q 15 g d st lo) : Out X M (xmChg X (nI 15)) (mTrnS M F (d - 1) (nI 15) g) F b (afD M 15 g d st lo) (afS M 15 g d st lo) (afL 15 g d st lo) := by
  refine out_1 (by decide) (by decide) (by decide) (by decide) (by decide) (by decide) (by decide) tabs4.1 hn hok (fun e he h1 => ?_)
  subst he
  rw [Nat.add_sub_cancel]
  exact J_15 D h h1
theorem J_s16 (D : DBL) {X M : MS} {F b d q g : Nat} {st lo : Nat → Nat} (h : TP X M F b d st lo) (hn : opN M 16 g ≤ d) (hok : opOk M q 16 g d st lo) : Out X M (xmChg X (nI 16)) (mTrnS M F (d - 1) (nI 16) g) F b (afD M 16 g d st lo) (afS M 16 g d st lo) (afL 16 g d st lo) := by
  refine out_1 (by decide) (by decide) (by decide) (by decide) (by decide) (by decide) (by decide) tabs4.2.1 hn hok (fun e he h1 => ?_)
  subst he
  rw [Nat.add_sub_cancel]
  exact J_16 D h h1
theorem J_s17 {X M : MS} {F b d q g : Nat} {st lo : Nat → Nat} (h : TP X M F b d st lo) (hn : opN M 17 g ≤ d) (hok : opOk M q 17 g d st lo) : Out X M (xmChg X (nI 17)) (mJIS M F (d - 2) (nI 17)) F b (afD M 17 g d st lo) (afS M 17 g d st lo) (afL 17 g d st lo) := by
  refine out_2 (by decide) (by decide) (by decide) (by decide) (by decide) (by decide) (by decide) tabs4.2.2.1 hn hok (fun e he h1 h2 => ?_)
  subst he
  rw [Nat.add_sub_cancel]
  exact J_17 h h1 h2
theorem J_s18 (D : DBL) {X M : MS} {F b d q g : Nat} {st lo : Nat → Nat} (h : TP X M F b d st lo) (hn : opN M 18 g ≤ d) (hok : opOk M q 18 g d st lo) : Out X M (xmChg X (nI 18)) (mJDS M F (d - 2) (nI 18)) F b (afD M 18 g d st lo) (afS M 18 g d st lo) (afL 18 g d st lo) := by
  refine out_2 (by decide) (by decide) (by decide) (by decide) (by decide) (by decide) (by decide) tabs4.2.2.2.1 hn hok (fun e he h1 h2 => ?_)
  subst he
  rw [Nat.add_sub_cancel]
  exact J_18 D h h1 h2
theorem J_s23 {X M : MS} {F b d q g : Nat} {st lo : Nat → Nat} {f : Int32} {tk : Nat → Nat} (h : TP X M F b d st lo) (hn : opN M 23 g ≤ d) (hok : opOk M q 23 g d st lo) (hT : TB X M) : Out X M (xmRest X (nI 23) f tk) (mTrnS M F (d - 1) (nI 23) g) F b (afD M 23 g d st lo) (afS M 23 g d st lo) (afL 23 g d st lo) := by
  refine out_1 (by decide) (by decide) (by decide) (by decide) (by decide) (by decide) (by decide) tabs4.2.2.2.2.1 hn hok (fun e he h1 => ?_)
  subst he
  rw [Nat.add_sub_cancel]
  exact J_23 h h1 hT
theorem J_s24 (D : DBL) {X M : MS} {F b d q g : Nat} {st lo : Nat → Nat} {w : Int64} (h : TP X M F b d st lo) (hn : opN M 24 g ≤ d) (hok : opOk M q 24 g d st lo) (hL : LF X M g) (hw : w = X.2.1 13 0 g) : Out X M (xmListed X w) (mTrnS M F (d - 1) (nI 24) g) F b (afD M 24 g d st lo) (afS M 24 g d st lo) (afL 24 g d st lo) := by
  refine out_1 (by decide) (by decide) (by decide) (by decide) (by decide) (by decide) (by decide) tabs4.2.2.2.2.2 hn hok (fun e he h1 => ?_)
  subst he
  rw [Nat.add_sub_cancel]
  exact J_24 D h h1 hL hw
theorem J_simple (D : DBL) {X M : MS} {F b d k en q L lc stk mp p o g : Nat} {pl st lo : Nat → Nat} {f : Int32} {tk : Nat → Nat} (h : TP X M F b d st lo) (hS : OpS X M k en q L lc stk mp pl p o g d st lo) (hKB : KB lc stk d st lo) (hP : RP X M en) (hlc : lc ≤ 6) (hs6 : stk ≤ 6) (hf : mHas (nI o) = true → f = nI g) (hT : TB X M) (n19 : o ≠ 19) (n20 : o ≠ 20) (n21 : o ≠ 21) (n22 : o ≠ 22) : Out X M (xK X (nI o) f tk) (mSt1 M F d (nI o) g) F b (afD M o g d st lo) (afS M o g d st lo) (afL o g d st lo) := by
  have hS2 := hS
  obtain ⟨ho, -, -, hg, -, -, hen, hn, hok, hp, -⟩ := hS2
  obtain ⟨x1, x2, x3, x4, x5, x6⟩ := xK_v (X := X) (f := f) (tk := tk) ho
  obtain ⟨m1, m2, m3, m4, -, -⟩ := mSt1_v (M := M) (F := F) (d := d) (g := g) ho
  by_cases c7 : o < 7
  · rw [x1 c7, m1 c7]
    exact Or.inl (J_s6 D h hS hKB hP hlc hs6 hf c7)
  by_cases c14 : o ≤ 14
  · have := J_s14 D h hn hok (Nat.not_lt.mp c7) c14
    by_cases c10 : o ≤ 10
    · rw [if_pos c10, if_pos c10] at this
      rw [x2 (by omega) c10, m2 (Or.inl ⟨by omega, c10⟩)]
      exact this
    · rw [if_neg c10, if_neg c10] at this
      rw [x3 (by omega) c14, m3 (Or.inl ⟨by omega, c14⟩)]
      exact this
  by_cases c15 : o = 15
  · rw [x4 (by omega) (by omega), m4 (Or.inl c15)]
    subst c15
    exact J_s15 D h hn hok
  by_cases c16 : o = 16
  · rw [x4 (by omega) (by omega), m4 (Or.inr (Or.inl c16))]
    subst c16
    exact J_s16 D h hn hok
  by_cases c17 : o = 17
  · rw [x4 (by omega) (by omega), m2 (Or.inr c17)]
    subst c17
    exact J_s17 h hn hok
  by_cases c18 : o = 18
  · rw [x4 (by omega) (by omega), m3 (Or.inr c18)]
    subst c18
    exact J_s18 D h hn hok
  by_cases c23 : o = 23
  · rw [x5 (by omega) (by omega), m4 (Or.inr (Or.inr (Or.inl c23)))]
    subst c23
    exact J_s23 h hn hok hT
  have c24 : o = 24 := by omega
  obtain ⟨l1, l2, l3⟩ := hen.2.2.2.2 c24
  have hw : valueOfP X f = X.2.1 13 0 g := by rw [hf (by rw [c24]; decide), hP.val l1]
  rw [x6 c24, m4 (Or.inr (Or.inr (Or.inr c24)))]
  subst c24
  exact J_s24 D h hn hok l3 hw
/-! kinds are told by their word -/
theorem KW.uniq {w : Int32} {d d' : Nat} {st lo st' lo' : Nat → Nat} (h : KW w d st lo) (h' : KW w d' st' lo') : d = d' ∧ (∀ i, i < 6 → st i = st' i) ∧ ∀ l, l < 6 → lo l = lo' l := by
  have e1 := h.depth.symm.trans h'.depth
  have hd := h.2.1
  have hd' := h'.2.1
  refine ⟨(nI_eq (by omega) (by omega)).mp e1, fun i hi => ?_, fun l hl => ?_⟩
  · have b1 := h.2.2.1 i
    have b2 := h'.2.2.1 i
    exact (nI_eq (by omega) (by omega)).mp ((h.item hi).symm.trans (h'.item hi))
  · have b1 := h.2.2.2.2 l
    have b2 := h'.2.2.2.2 l
    exact (nI_eq (by omega) (by omega)).mp ((h.loc hl).symm.trans (h'.loc hl))
theorem KW.fit {w : Int32} {d d' d2 : Nat} {st lo st' lo' s2 l2 : Nat → Nat} (h : KW w d st lo) (h' : KW w d' st' lo') (f : FitK d2 s2 l2 d st lo) : FitK d2 s2 l2 d' st' lo' := by
  obtain ⟨a1, a2, a3⟩ := h.uniq h'
  exact ⟨f.1.trans a1, fun i hi => (f.2.1 i hi).trans (a2 i hi), fun l hl => by rw [← a3 l hl]; exact f.2.2 l hl⟩
theorem TP.fit {X M : MS} {F b d d' : Nat} {st lo st' lo' : Nat → Nat} (h : TP X M F b d st lo) (f : FitK d st lo d' st' lo') : TP X M F b d' st' lo' := by
  have hd := h.2.2.2.2.1
  rw [← f.1]
  exact h.kinds (fun i hi => f.2.1 i (by omega)) f.2.2
/-- a place that kinds flow to is judged, and sound -/
theorem RJx.fl {X M : MS} {k en q lc stk L mp gq p d : Nat} {pl l0 st lo : Nat → Nat} (h : RJx X M k en q lc stk L mp gq pl l0) (f : Fl X M q L p d st lo) : ∃ o g d1 s1 l1, M.1 37 0 (48 * q + p) = nI o ∧ OpS X M k en q L lc stk mp pl p o g d1 s1 l1 ∧ KB lc stk d1 s1 l1 ∧ FitK d st lo d1 s1 l1 ∧ (o ≠ 19 → o ≠ 22 → Fl X M q L (mjEnd p o) (afD M o g d1 s1 l1) (afS M o g d1 s1 l1) (afL o g d1 s1 l1)) := by
  obtain ⟨hp, d3, s3, l3, j1, j2⟩ := f
  have hL := h.1.2.2.1.2.2.2.2.1
  rcases h.2.2.2.1 p (by omega) with z | ⟨-, o, g, d1, s1, l1, a1, a2, a3, a4, -, a6⟩
  · have := j1.2.1
    rw [z.2] at this
    exact absurd this (by decide)
  · exact ⟨o, g, d1, s1, l1, a1, a2, a4, j1.1.fit a3.1 j2, a6⟩
/-- behind a JUMP -/
theorem RJx.jmp {X M : MS} {k en q lc stk L mp gq p o g d : Nat} {pl l0 st lo : Nat → Nat} (h : RJx X M k en q lc stk L mp gq pl l0) (hS : OpS X M k en q L lc stk mp pl p o g d st lo) (ho : o = 19 ∨ o = 20) : Fl X M q L g (afD M o g d st lo) (afS M o g d st lo) (afL o g d st lo) := by
  obtain ⟨j, d', ms, ml, j1, j2, j3, j4⟩ := hS.2.2.2.2.2.2.2.2.2.2 ho
  have hL := h.1.2.2.1.2.2.2.2.1
  have hpl : pl j < L := (h.1.2.2.2.1.2.2.2.1 j j1).1
  have nj := h.2.2.2.2 j j1
  rcases h.2.2.2.1 (pl j) (by omega) with z | ⟨-, o', g', d1, s1, l1, a1, a2, a3, a4, a5, -⟩
  · exact absurd z nj
  · have mk := a5 j j1 rfl
    rw [← j2]
    rw [← j2] at j4
    exact ⟨hpl, d1, s1, l1, a3, j3.2.2.1.fit mk.2.2.1 j4⟩
