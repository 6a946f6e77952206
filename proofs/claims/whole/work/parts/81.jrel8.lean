/-! the two sides judge alike: an OP's kinds and its jump -/
theorem mFaultS_28 {S : MS} (w a : Int32) (h : S.1 8 0 28 = 0) : (mFaultS S w a).1 8 0 28 = w := by
  rw [mFaultS, if_pos h, wI_o _ _ _ _ _ _ _ _ (by decide), wI_rd]
theorem mFaultS_29 {S : MS} (w a : Int32) (h : S.1 8 0 28 = 0) : (mFaultS S w a).1 8 0 29 = a := by
  rw [mFaultS, if_pos h, wI_rd]
theorem mFaultS_b {S : MS} (w a : Int32) (h : S.1 8 0 28 = 0) : (mFaultS S w a).1 8 0 28 = w ∧ (mFaultS S w a).1 8 0 29 = a := ⟨mFaultS_28 w a h, mFaultS_29 w a h⟩
def JN (M M' : MS) : Prop := (∀ b c x, NJ b x → M'.1 b c x = M.1 b c x) ∧ M'.2 = M.2
theorem JN.jm {M M' : MS} (h : JN M M') : JM M M' := ⟨fun b c d z => h.1 b c d z.1.1, fun d => by rw [h.2]⟩
theorem JN.trans {A B C : MS} (h : JN A B) (g : JN B C) : JN A C := ⟨fun b c d z => (g.1 b c d z).trans (h.1 b c d z), g.2.trans h.2⟩
theorem mFaultS_jn {M : MS} (w a : Int32) : JN M (mFaultS M w a) := ⟨fun b c d h => mFaultS_n _ _ _ h, mFaultS_2 _ _ _⟩
theorem jkE_jn (S : MS) (m : Nat) (o : Int32) (g : Nat) (pl : Int32) : JN S (jkE S m o g pl) := ⟨fun b c d h => jkE_n _ _ _ _ _ h, by
  unfold jkE
  split
  · exact mFaultS_2 _ _ _
  · exact wI_2 _ _ _ _ _⟩
theorem xkS_j (X : MS) (q o g t : Nat) (f : Int32) : JX X (xkS X q o g t f) ∧ (∀ c d, (xkS X q o g t f).1 17 c d = X.1 17 c d) ∧ (xkS X q o g t f).1 6 0 0 = X.1 6 0 0 := by
  unfold xkS
  split
  · exact ⟨⟨fun b c d h6 h17 => jcallS_o _ _ _ _ _ _ _ (fun z => h6 z.1), fun d => by rw [jcallS_2]⟩, fun c d => jcallS_o _ _ _ _ _ _ _ (fun z => absurd z.1 (by decide)), jcallS_o _ _ _ _ _ _ _ (by decide)⟩
  · exact ⟨⟨fun b c d h6 h17 => jstS_o _ _ _ _ _ _ _ _ (fun z => h6 z.1), fun d => by rw [jstS_2]⟩, fun c d => jstS_o _ _ _ _ _ _ _ _ (fun z => absurd z.1 (by decide)), jstS_o _ _ _ _ _ _ _ _ (by decide)⟩
/-- what an OP's kinds come to -/
def KOut (X M : MS) (k en q L lc stk mp : Nat) (pl : Nat → Nat) (p o g d : Nat) (st lo : Nat → Nat) (v : Int32) (rch : Bool) (X' M' : MS) : Prop :=
  (∃ w : Int32, w ≠ 0 ∧ v = w ∧ M'.1 8 0 28 = w ∧ M'.1 8 0 29 = nI p) ∨ (v = 0 ∧ opJumps (nI o) = true ∧ rch = false ∧ M'.1 8 0 28 = 18 ∧ M'.1 8 0 29 = nI p) ∨
  (v = 0 ∧ (opJumps (nI o) = true → rch = true) ∧ M'.1 8 0 28 = 0 ∧ KR X' M' lc stk (afD M o g d st lo) (afS M o g d st lo) (afL o g d st lo) ∧ M'.1 8 0 32 = bI (opGoes (nI o)) ∧ opN M o g ≤ d ∧ opOk M q o g d st lo ∧ (opP M o g d st lo = 0 ∨ d - afN M o g < stk) ∧ (o = 19 ∨ o = 20 → ∃ j d' ms ml, j < mp ∧ pl j = g ∧ MK X M q lc stk j d' ms ml ∧ FitK (afD M o g d st lo) (afS M o g d st lo) (afL o g d st lo) d' ms ml))
theorem J_kinds {X M : MS} {k en q lc stk L mp gq p d o g : Nat} {pl st lo : Nat → Nat} {f : Int32} {tk : Nat → Nat} (hC : Ctx X M k en q lc stk L mp gq pl) (hK : KR X M lc stk d st lo) (h28 : M.1 8 0 28 = 0) (ho : o < 25) (hg : g < 256) (hf : mHas (nI o) = true → f = nI g) (hen : EnOk X M k en lc o g) (htk : ∀ j, j < 5 → X.1 4 j 1 = nI (tk j) ∧ tk j ≤ 3) :
    KOut X M k en q L lc stk mp pl p o g d st lo (xkV X q o g (tk g) f) (reachV (xkS X q o g (tk g) f) q f) (xkS X q o g (tk g) f) (jkS M q (nI o) g (nI p)) := by
  obtain ⟨hR, hq, hH, hMp, hCK, ⟨gq1, gq2, gq3, gq4⟩, hTG⟩ := hC
  obtain ⟨hl6, hs1, hs6, hL1, hL48, -, h34, h4s, h35, -, -⟩ := hH
  have hk5 := hR.2.1
  have hkb := hK.kb
  obtain ⟨kb1, kb2, kb3, kb4, kb5⟩ := hkb
  have e34 : o = 3 ∨ o = 4 → f = nI g ∧ g < 6 := fun z => ⟨hf (by rcases z with rfl | rfl <;> rfl), by have := hen.2.2.1 z; omega⟩
  have e21 : o = 21 → ∃ gg, TG X M g (tk g) gg := fun z => by
    obtain ⟨t, gg, ht⟩ := hTG g (hen.2.2.2.1 z)
    have h1 := ht.1
    have hg5 : g < 5 := by have := hen.2.2.2.1 z; omega
    obtain ⟨h2, h3⟩ := htk g hg5
    have h4 := ht.2.2.1
    rw [h1, nI_eq (by omega) (by omega)] at h2
    exact ⟨gg, h2 ▸ ht⟩
  obtain ⟨gg, hgg⟩ : ∃ gg, o = 21 → TG X M g (tk g) gg := by
    by_cases z : o = 21
    · obtain ⟨gg, h⟩ := e21 z; exact ⟨gg, fun _ => h⟩
    · exact ⟨0, fun y => absurd y z⟩
  obtain ⟨x1, x2, x3, x4⟩ := xk_N hK.1 h4s hs6 kb1 ho e34 hgg gq1 gq2 ⟨gq3, gq4⟩ kb2 kb4
  obtain ⟨y1, y2, y3, y4⟩ := mk_N (M := M) (q := q) (t := tk g) (gg := gg) (gq := gq) (pl := nI p) ⟨hK.2.1, hK.2.2.1, hK.2.2.2.1⟩ kb1 hs6 h35 ho (fun z => (e34 z).2) (fun z => by
    have ht := hgg z
    obtain ⟨flo, -, t2⟩ := ht.tkk
    exact ⟨ht.2.1, ht.2.2.1, fun l hl => ⟨(t2 l hl).1, (t2 l hl).2.2.2⟩, ht.2.2.2.2.1, ht.2.2.2.2.2.1, ht.2.2.2.2.2.2.1⟩) gq2 gq4 kb2 kb4
  by_cases c1 : d < opN M o g
  · exact Or.inl ⟨15, by decide, x1 c1, by rw [y1 c1]; exact mFaultS_b _ _ h28⟩
  have c1' : opN M o g ≤ d := by omega
  by_cases c2 : opOk M q o g d st lo
  · by_cases c3 : opP M o g d st lo = 0 ∨ d - afN M o g < stk
    · obtain ⟨v0, kx⟩ := x4 c1' c2 c3
      obtain ⟨M1, z1, z2, z3, z4, z5⟩ := y4 c1' c2 c3
      right
      have hJ : JN M M1 := ⟨z1, z3⟩
      have hX := (xkS_j X q o g (tk g) f).1
      have hKb : KB lc stk (afD M o g d st lo) (afS M o g d st lo) (afL o g d st lo) := (KR.kb hK).af (q := q) (t := tk g) (gg := gg) ho c1' c2 c3 (fun z => hen.2.2.1 z) (fun z => ⟨(hgg z).2.2.2.2.1, (hgg z).2.2.2.2.2.2.1⟩)
      have hKR : KR (xkS X q o g (tk g) f) M1 lc stk (afD M o g d st lo) (afS M o g d st lo) (afL o g d st lo) := ⟨kx, z5.1, z5.2.1, z5.2.2, hKb.2.2.2.2, hKb.1, hKb.2.1, hKb.2.2.2.1⟩
      have hjE : JN M1 (jkE M1 q (nI o) g (nI p)) := jkE_jn _ _ _ _ _
      have i19 : nI o = (19 : Int32) ↔ o = 19 := nI_o ho (v := 19) (by decide)
      have i20 : nI o = (20 : Int32) ↔ o = 20 := nI_o ho (v := 20) (by decide)
      have hKe : ∀ v : Int32, KR (xkS X q o g (tk g) f) (wI M1 8 0 32 v) lc stk (afD M o g d st lo) (afS M o g d st lo) (afL o g d st lo) := fun v => hKR.same rfl (wI_o _ _ _ _ _ _ _ _ (by decide)) (fun i => wI_o _ _ _ _ _ _ _ _ (fun z => absurd z.1 (by decide))) (fun i => wI_o _ _ _ _ _ _ _ _ (fun z => absurd z.1 (by decide)))
      by_cases cj : o = 19 ∨ o = 20
      · have hj : opJumps (nI o) = true := by
          rw [opJumps, Bool.or_eq_true, decide_eq_true_eq, decide_eq_true_eq, i19, i20]; exact cj
        have hfg : f = nI g := hf (by rcases cj with rfl | rfl <;> rfl)
        have hMp' : Maps (xkS X q o g (tk g) f) M1 q L lc stk mp pl := by
          obtain ⟨a1, a2, a3, a4, a5⟩ := hMp
          exact ⟨(hX.1 _ _ _ (by decide) (by first | decide | exact KX_ne (by decide))).trans a1, (hJ.jm.1 _ _ _ (NR_b (by decide) (by decide))).trans a2, a3, fun j hj => (a4 j hj).j hX hJ.jm, a5⟩
        rcases hMp'.at hL48 hg with ⟨j, b1, b2, b3, b4⟩ | ⟨b1, b2, b3⟩
        · obtain ⟨d', ms, ml, hk⟩ := (hMp.2.2.2.1 j b1).mk
          have hk' := hk.j hX hJ.jm
          obtain ⟨f1, f2⟩ := hKR.fit hk' hl6 ((hJ.jm.1 _ _ _ (NR_b (by decide) (by decide))).trans h34)
          have hne : ¬ (xkS X q o g (tk g) f).1 16 q j = -1 := hk'.2.2.1.nm1
          have hq5 : q < 5 := by omega
          have hmp8 := hMp.2.2.1
          have hne2 : ¬ nI (8 * q + j) = -1 := nI_nm1 (by omega)
          have hc : (nI (8 * q + j)).toNatClampNeg = 8 * q + j := nI_c (by omega)
          have eR : reachV (xkS X q o g (tk g) f) q f = fitsK ((xkS X q o g (tk g) f).1 6 0 1) ((xkS X q o g (tk g) f).1 16 q j) := by
            rw [reachV, (congrArg (mapAtX (xkS X q o g (tk g) f) q) hfg).trans b3, decide_eq_false hne]; rfl
          have eC : ((decide (nI o = 19) || decide (nI o = 20)) && (decide (mpfV M1 q (nI g) = -1) || !fitV M1 q (mpfV M1 q (nI g)).toNatClampNeg)) = !fitV M1 q (8 * q + j) := by
            rw [b4, decide_eq_false hne2, hc, show (decide (nI o = 19) || decide (nI o = 20)) = true from hj]; rfl
          by_cases hF : FitK (afD M o g d st lo) (afS M o g d st lo) (afL o g d st lo) d' ms ml
          · right
            have hR1 : reachV (xkS X q o g (tk g) f) q f = true := by rw [eR]; exact f1.mpr hF
            have hE : jkS M q (nI o) g (nI p) = wI M1 8 0 32 (bI (opGoes (nI o))) := by
              rw [z4, jkE, eC, f2.mpr hF]; rfl
            refine ⟨v0, fun _ => hR1, ?_, ?_, ?_, c1', c2, c3, fun _ => ⟨j, d', ms, ml, b1, b2, hk, hF⟩⟩
            · rw [hE, wI_o _ _ _ _ _ _ _ _ (by decide), z2]; exact h28
            · rw [hE]; exact hKe _
            · rw [hE, wI_rd]
          · left
            have hff : fitV M1 q (8 * q + j) = false := by
              cases hz : fitV M1 q (8 * q + j) with
              | false => rfl
              | true => exact absurd (f2.mp hz) hF
            refine ⟨v0, hj, ?_, ?_⟩
            · rw [eR]
              cases hz : fitsK ((xkS X q o g (tk g) f).1 6 0 1) ((xkS X q o g (tk g) f).1 16 q j) with
              | false => rfl
              | true => exact absurd (f1.mp hz) hF
            · rw [z4, jkE, eC, hff, if_pos (show (!false) = true from rfl)]
              exact mFaultS_b _ _ (z2.trans h28)
        · left
          refine ⟨v0, hj, ?_, ?_⟩
          · rw [reachV, (congrArg (mapAtX (xkS X q o g (tk g) f) q) hfg).trans b2, decide_eq_true rfl]; rfl
          · rw [z4, jkE, b3, show (decide (nI o = 19) || decide (nI o = 20)) = true from hj, decide_eq_true rfl, if_pos (show (true && (true || !fitV M1 q (-1 : Int32).toNatClampNeg)) = true from rfl)]
            exact mFaultS_b _ _ (z2.trans h28)
      · right
        have hj : opJumps (nI o) = false := by
          rw [opJumps, Bool.or_eq_false_iff, decide_eq_false_iff_not, decide_eq_false_iff_not, i19, i20]; omega
        have hE : jkS M q (nI o) g (nI p) = wI M1 8 0 32 (bI (opGoes (nI o))) := by
          rw [z4, jkE, show (decide (nI o = 19) || decide (nI o = 20)) = false from hj]; rfl
        refine ⟨v0, fun z => absurd (hj.symm.trans z) (by decide), ?_, ?_, ?_, c1', c2, c3, fun z => absurd z cj⟩
        · rw [hE, wI_o _ _ _ _ _ _ _ _ (by decide), z2]; exact h28
        · rw [hE]; exact hKe _
        · rw [hE, wI_rd]
    · have c3' : opP M o g d st lo ≠ 0 ∧ stk ≤ d - afN M o g := ⟨fun z => c3 (Or.inl z), by have := fun z => c3 (Or.inr z); omega⟩
      obtain ⟨M1, z1, z2, z3, z4⟩ := y3 c1' c2 c3'.1 c3'.2
      exact Or.inl ⟨17, by decide, x3 c1' c2 c3'.1 c3'.2, by rw [z4]; exact mFaultS_b _ _ (z2.trans h28)⟩
  · exact Or.inl ⟨16, by decide, x2 c1' c2, by rw [y2 c1' c2]; exact mFaultS_b _ _ h28⟩
