/-! the two sides judge alike: an OP -/
theorem tkN_j {M M' : MS} (m : JM M M') (g : Nat) : tkN M' g = tkN M g := by rw [tkN, tkN, m.1 31 0 g (NR_b (by decide) (by decide))]
theorem gvN_j {M M' : MS} (m : JM M M') (g : Nat) : gvN M' g = gvN M g := by rw [gvN, gvN, m.1 33 0 g (NR_b (by decide) (by decide))]
theorem tkk_j {M M' : MS} (m : JM M M') (g l : Nat) : tkk M' g l = tkk M g l := by
  show (M'.1 32 0 (3 * g + l)).toNatClampNeg = (M.1 32 0 (3 * g + l)).toNatClampNeg
  rw [m.1 32 0 _ (NR_b (by decide) (by decide))]
theorem opN_j {M M' : MS} (m : JM M M') (o g : Nat) : opN M' o g = opN M o g := by rw [opN, opN, tkN_j m]
theorem opW_j {M M' : MS} (m : JM M M') (q o g k : Nat) : opW M' q o g k = opW M q o g k := by rw [opW, opW, tkN_j m, tkk_j m, gvN_j m]
theorem opP_j {M M' : MS} (m : JM M M') (o g d : Nat) (st lo : Nat → Nat) : opP M' o g d st lo = opP M o g d st lo := by rw [opP, opP, gvN_j m]
theorem afN_j {M M' : MS} (m : JM M M') (o g : Nat) : afN M' o g = afN M o g := by rw [afN, afN, opN_j m]
theorem afD_j {M M' : MS} (m : JM M M') (o g d : Nat) (st lo : Nat → Nat) : afD M' o g d st lo = afD M o g d st lo := by rw [afD, afD, opP_j m, afN_j m]
theorem afS_j {M M' : MS} (m : JM M M') (o g d : Nat) (st lo : Nat → Nat) : afS M' o g d st lo = afS M o g d st lo := by rw [afS, afS, opP_j m, afN_j m]
theorem opOk_j {M M' : MS} (m : JM M M') {q o g d : Nat} {st lo : Nat → Nat} (h : opOk M q o g d st lo) : opOk M' q o g d st lo := ⟨h.1, fun k hk => by rw [opW_j m]; exact h.2 k (by rw [opN_j m] at hk; exact hk)⟩
theorem MK.j {X M X' M' : MS} {q lc st j d : Nat} {ms ml : Nat → Nat} (h : MK X M q lc st j d ms ml) (x : JX X X') (m : JM M M') : MK X' M' q lc st j d ms ml := by
  obtain ⟨b1, b2, b3, b4, b5, b6⟩ := h
  have hm : ∀ b d, 26 ≤ b → b ≤ 42 → M'.1 b 0 d = M.1 b 0 d := fun b d h1 h2 => m.1 b 0 d (NR_b h1 h2)
  exact ⟨b1, (hm _ _ (by decide) (by decide)).trans b2, by rw [x.1 _ _ _ (by decide) (by first | decide | exact KX_ne (by decide))]; exact b3, fun i hi => by rw [hm _ _ (by decide) (by decide)]; exact b4 i hi, fun l hl => by rw [hm _ _ (by decide) (by decide)]; exact b5 l hl, b6⟩
theorem EnOk.j {X M X' M' : MS} {k en lc o g : Nat} (h : EnOk X M k en lc o g) (x : JX X X') (m : JM M M') : EnOk X' M' k en lc o g := by
  have hm : ∀ b d, 26 ≤ b → b ≤ 42 → M'.1 b 0 d = M.1 b 0 d := fun b d h1 h2 => m.1 b 0 d (NR_b h1 h2)
  obtain ⟨h1, h2, h3, h4, h5⟩ := h
  refine ⟨fun z => by rw [hm _ _ (by decide) (by decide)]; exact h1 z, fun z => by rw [hm _ _ (by decide) (by decide)]; exact h2 z, h3, h4, fun z => ?_⟩
  rw [hm _ _ (by decide) (by decide)]
  obtain ⟨a, b, c⟩ := h5 z
  refine ⟨a, b, ?_⟩
  unfold LF
  rw [x.2, hm _ _ (by decide) (by decide)]
  exact c
/-- an OP is sound at kinds d, st, lo -/
def OpS (X M : MS) (k en q L lc stk mp : Nat) (pl : Nat → Nat) (p o g d : Nat) (st lo : Nat → Nat) : Prop := o < 25 ∧ mjEnd p o ≤ L ∧ (o ≠ 19 → o ≠ 22 → mjEnd p o < L) ∧ g < 256 ∧ (mHas (nI o) = true → M.1 37 0 (48 * q + p + 1) = nI g) ∧ (mHas (nI o) = false → g = 0) ∧ EnOk X M k en lc o g ∧ opN M o g ≤ d ∧ opOk M q o g d st lo ∧ (opP M o g d st lo = 0 ∨ d - afN M o g < stk) ∧ (o = 19 ∨ o = 20 → ∃ j d' ms ml, j < mp ∧ pl j = g ∧ MK X M q lc stk j d' ms ml ∧ FitK (afD M o g d st lo) (afS M o g d st lo) (afL o g d st lo) d' ms ml)
theorem OpS.j {X M X' M' : MS} {k en q L lc stk mp p o g d : Nat} {pl st lo : Nat → Nat} (h : OpS X M k en q L lc stk mp pl p o g d st lo) (x : JX X X') (m : JM M M') : OpS X' M' k en q L lc stk mp pl p o g d st lo := by
  obtain ⟨h1, h2, h3, h4, h5, h6, h7, h8, h9, h10, h11⟩ := h
  refine ⟨h1, h2, h3, h4, fun z => by rw [m.1 37 0 _ (NR_b (by decide) (by decide))]; exact h5 z, h6, h7.j x m, by rw [opN_j m]; exact h8, opOk_j m h9, by rw [opP_j m, afN_j m]; exact h10, fun z => ?_⟩
  rw [afD_j m, afS_j m]
  obtain ⟨j, d', ms, ml, a, b, c, e⟩ := h11 z
  exact ⟨j, d', ms, ml, a, b, c.j x m, e⟩
/-- kinds within bounds -/
def KB (lc stk d : Nat) (st lo : Nat → Nat) : Prop := d ≤ stk ∧ (∀ i, i < d → 1 ≤ st i ∧ st i ≤ 2) ∧ (∀ i, d ≤ i → st i = 0) ∧ (∀ l, lo l ≤ 2) ∧ ∀ l, lc ≤ l → lo l = 0
theorem KR.kb {X M : MS} {lc stk d : Nat} {st lo : Nat → Nat} (h : KR X M lc stk d st lo) : KB lc stk d st lo := ⟨h.2.2.2.2.2.1, h.2.2.2.2.2.2.1, h.1.2.2.2.1, h.2.2.2.2.2.2.2, h.2.2.2.2.1⟩
theorem KB.af {M : MS} {lc stk d o g q t gg : Nat} {st lo : Nat → Nat} (h : KB lc stk d st lo) (ho : o < 25) (hn : opN M o g ≤ d) (hok : opOk M q o g d st lo) (hp : opP M o g d st lo = 0 ∨ d - afN M o g < stk) (h4 : o = 3 ∨ o = 4 → g < lc) (h21 : o = 21 → M.1 33 0 g = nI gg ∧ gg ≤ 2) : KB lc stk (afD M o g d st lo) (afS M o g d st lo) (afL o g d st lo) := by
  obtain ⟨a1, a2, a3, a4, a5⟩ := h
  have hP : opP M o g d st lo ≤ 2 := by
    unfold opP
    split
    · exact a4 g
    · split
      · rename_i h5
        have : opN M o g = 1 := by rw [h5]; exact opN_pos.2
        exact (a2 (d - 1) (by omega)).2
      · split
        · rename_i h21'
          obtain ⟨e1, e2⟩ := h21 h21'
          rw [gvN, e1, nI_c (by omega)]; exact e2
        · exact (tab_ok 2 (by decide) o ho).2
  have hA : afN M o g ≤ opN M o g := by unfold afN; split <;> omega
  refine ⟨?_, fun i hi => ?_, fun i hi => ?_, fun l => ?_, fun l hl => ?_⟩
  · unfold afD
    split
    · omega
    · rename_i hz
      have := hp.resolve_left hz
      omega
  · unfold afD at hi
    unfold afS
    split
    · rename_i hz
      rw [if_pos hz] at hi
      rw [cut_at hi]; exact a2 i (by omega)
    · rename_i hz
      rw [if_neg hz] at hi
      by_cases hie : i = d - afN M o g
      · rw [hie, up_at]; omega
      · rw [up_ne _ _ hie, cut_at (by omega)]; exact a2 i (by omega)
  · unfold afD at hi
    unfold afS
    split
    · rename_i hz
      rw [if_pos hz] at hi
      exact cut_ge hi
    · rename_i hz
      rw [if_neg hz] at hi
      rw [up_ne _ _ (by omega), cut_ge (by omega)]
  · unfold afL
    split
    · rename_i h4'
      have : opN M o g = 1 := by rw [h4']; exact opN_pos.1
      unfold up
      split
      · exact (a2 (d - 1) (by omega)).2
      · exact a4 l
    · exact a4 l
  · unfold afL
    split
    · rename_i h4'
      have := h4 (Or.inr h4')
      rw [up_ne _ _ (by omega)]; exact a5 l hl
    · exact a5 l hl
theorem pushS_2 (S : MS) (q : Nat) (x : Int32) : (pushS S q x).2 = S.2 := by unfold pushS; split <;> rfl
theorem jcallS_2 (S : MS) (q1 q2 t : Nat) : (jcallS S q1 q2 t).2 = S.2 := by
  unfold jcallS
  split
  · split
    · rw [pushS_2, wI_2]
    · rw [wI_2]
  · rfl
theorem jstS_2 (S : MS) (q : Nat) (o f : Int32) (c : Nat) : (jstS S q o f c).2 = S.2 := by
  unfold jstS
  (repeat' split) <;> first | rw [pushS_2, wI_2] | rw [wI_2] | rfl
theorem joS_2 (S : MS) (q : Nat) (tk : Nat → Nat) : (joS S q tk).2 = S.2 := by
  unfold joS
  split
  · rw [jcallS_2, jo2, setKindsM_2, meetS_2]
  · rw [jstS_2, jo2, setKindsM_2, meetS_2]
theorem joS_17 (S : MS) (q c d : Nat) (tk : Nat → Nat) : (joS S q tk).1 17 c d = (jo2 S q).1 17 c d := by
  unfold joS
  split
  · exact jcallS_o _ _ _ _ _ _ _ (fun z => absurd z.1 (by decide))
  · exact jstS_o _ _ _ _ _ _ _ _ (fun z => absurd z.1 (by decide))
theorem joS_j (S : MS) (q : Nat) (tk : Nat → Nat) : JX S (joS S q tk) := ⟨fun b c d h6 h17 => joS_o _ _ _ _ _ _ (fun z => h6 z.1) h17.1, fun d => by rw [joS_2]⟩
theorem mFaultS_j {M : MS} (w a : Int32) : JM M (mFaultS M w a) := ⟨fun b c d h => mFaultS_n _ _ _ h.1.1, fun d => by rw [mFaultS_2]⟩
/-- frames of an OP's judgement -/
def XF (X X' : MS) (q p : Nat) : Prop := JX X X' ∧ ∀ c d, ¬ (c = q ∧ d = p) → X'.1 17 c d = X.1 17 c d
def MF1 (M M' : MS) (a : Nat) : Prop := JM M M' ∧ (∀ d, d ≠ a → M'.1 43 0 d = M.1 43 0 d ∧ M'.1 44 0 d = M.1 44 0 d) ∧ ∀ d, d / 6 ≠ a → M'.1 45 0 d = M.1 45 0 d ∧ M'.1 46 0 d = M.1 46 0 d
theorem mjoN_f (M : MS) (q a : Nat) : MF1 M (mjoN M q a) a := by
  refine ⟨mjoN_j M q a, fun d hd => ⟨?_, ?_⟩, fun d hd => ⟨?_, ?_⟩⟩
  · rw [mjoN, mjoGo_o _ _ _ _ _ (by decide) (by decide), wI_o _ _ _ _ _ _ _ _ (fun z => absurd z.1 (by decide)), wI_o _ _ _ _ _ _ _ _ (fun z => hd z.2.2)]
  · rw [mjoN, mjoGo_o _ _ _ _ _ (by decide) (by decide), wI_o _ _ _ _ _ _ _ _ (fun z => hd z.2.2), wI_o _ _ _ _ _ _ _ _ (fun z => absurd z.1 (by decide))]
  · rw [mjoN, mjoGo_45, if_neg (by omega), wI_o _ _ _ _ _ _ _ _ (fun z => absurd z.1 (by decide)), wI_o _ _ _ _ _ _ _ _ (fun z => absurd z.1 (by decide))]
  · rw [mjoN, mjoGo_46, if_neg (by omega), wI_o _ _ _ _ _ _ _ _ (fun z => absurd z.1 (by decide)), wI_o _ _ _ _ _ _ _ _ (fun z => absurd z.1 (by decide))]
theorem mjMap_f (M : MS) (q : Nat) (x : Int32) {b : Nat} (hb : b = 43 ∨ b = 44 ∨ b = 45 ∨ b = 46) (d : Nat) : (mjMap M q x).1 b 0 d = M.1 b 0 d := by
  unfold mjMap
  split
  · rfl
  · exact becS_o _ _ _ _ _ _ (by omega) (by omega) (by omega)
theorem mjMap_28 (M : MS) (q : Nat) (x : Int32) : (mjMap M q x).1 8 0 28 = M.1 8 0 28 := by
  unfold mjMap
  split
  · rfl
  · exact becS_8 _ _ _ _ (by decide) (by decide)
theorem jo2_f (X : MS) (q p : Nat) (hX : X.1 6 0 0 = nI p) (hp : p < 48) : XF X (jo2 X q) q p := by
  refine ⟨jo2_j X q, fun c d h => ?_⟩
  have hm : (meetS X q).1 6 0 0 = nI p := (meetS_o _ _ _ _ _ (by decide)).trans hX
  rw [jo2, hm, setKindsM, if_pos (nI_guard (N := 48) (M := 48) rfl hp (by decide)), nI_c (by omega), wI_o _ _ _ _ _ _ _ _ (fun z => h ⟨z.2.1, z.2.2⟩)]
  exact meetS_o _ _ _ _ _ (fun z => absurd z.1 (by decide))
