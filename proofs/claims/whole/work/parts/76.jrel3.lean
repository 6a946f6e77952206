/-! the two sides judge alike: the kinds behind an OP -/
theorem pushV_N {X : MS} {q d stk : Nat} {st lo : Nat → Nat} (h : KW (X.1 6 0 1) d st lo) (hs : X.1 4 q 4 = nI stk) (hs6 : stk ≤ 6) : pushV X q = if d < stk then 0 else 17 := by
  have hd := h.2.1
  have i1 : nI d < nI stk ↔ d < stk := nI_ltI (by omega) (by omega)
  rw [pushV, h.depth, hs]
  by_cases h1 : d < stk
  · rw [if_pos h1, if_pos (i1.mpr h1)]
  · rw [if_neg h1, if_neg (fun z => h1 (i1.mp z))]
theorem pushS_N {X : MS} {q d stk c : Nat} {st lo : Nat → Nat} (h : KW (X.1 6 0 1) d st lo) (hs : X.1 4 q 4 = nI stk) (hs6 : stk ≤ 6) (hd : d < stk) (hc : c < 4) : KW ((pushS X q (nI c)).1 6 0 1) (d + 1) (up st d c) lo := by
  have hd6 := h.2.1
  have i1 : nI d < nI stk ↔ d < stk := nI_ltI (by omega) (by omega)
  rw [pushS, h.depth, hs, if_pos (i1.mpr hd), wI_rd]
  exact h.push (by omega) hc
def xkV (X : MS) (q o g t : Nat) (f : Int32) : Int32 := if nI o = 21 then jcallV X q g t else jstV X q (nI o) f (tab 0 o)
def xkS (X : MS) (q o g t : Nat) (f : Int32) : MS := if nI o = 21 then jcallS X q g t else jstS X q (nI o) f (tab 0 o)
/-- what METHOD g takes and gives, on both sides -/
def TG (X M : MS) (g t gg : Nat) : Prop := X.1 4 g 1 = nI t ∧ M.1 31 0 g = nI t ∧ t ≤ 3 ∧ X.1 4 g 2 = nI gg ∧ M.1 33 0 g = nI gg ∧ 1 ≤ gg ∧ gg ≤ 2 ∧ LK M 32 (3 * g) t 1 (X.1 4 g 8)
theorem TG.tkk {X M : MS} {g t gg : Nat} (h : TG X M g t gg) : ∃ flo, KW (X.1 4 g 8) 0 (fun _ => 0) flo ∧ ∀ l, l < t → M.1 32 0 (3 * g + l) = nI (tkk M g l) ∧ flo l = tkk M g l ∧ 1 ≤ tkk M g l ∧ tkk M g l ≤ 2 := by
  obtain ⟨lo, a1, a2, a3⟩ := h.2.2.2.2.2.2.2
  refine ⟨lo, a1, fun l hl => ?_⟩
  obtain ⟨b1, b2, b3⟩ := a2 l hl
  have e : _root_.Jvm.Pilot.CInstrumentFilesLaw_law_r5737_b4d852.tkk M g l = lo l := by
    show (M.1 32 0 (3 * g + l)).toNatClampNeg = lo l
    rw [b1, nI_c (by omega)]
  rw [e]
  exact ⟨b1, rfl, b2, b3⟩
theorem TG.n {X M : MS} {g t gg : Nat} (h : TG X M g t gg) : tkN M g = t ∧ gvN M g = gg := by
  have := h.2.2.1
  have := h.2.2.2.2.2.2.1
  exact ⟨by rw [tkN, h.2.1, nI_c (by omega)], by rw [gvN, h.2.2.2.2.1, nI_c (by omega)]⟩
theorem tabs : tab 0 3 = 0 ∧ tab 0 4 = 1 ∧ tab 0 5 = 1 ∧ tab 2 4 = 0 := by decide +kernel
theorem xk_N21 {X M : MS} {q o g t gg gq stk d : Nat} {st lo : Nat → Nat} {f : Int32} (e21 : o = 21) (hK : KW (X.1 6 0 1) d st lo) (hs : X.1 4 q 4 = nI stk) (hs6 : stk ≤ 6) (hd : d ≤ stk) (ho : o < 25) (h34 : o = 3 ∨ o = 4 → f = nI g ∧ g < 6) (h21 : o = 21 → TG X M g t gg) (hq2 : X.1 4 q 2 = nI gq) (hq3 : M.1 33 0 q = nI gq) (hgq : 1 ≤ gq ∧ gq ≤ 2) (hst : ∀ i, i < d → 1 ≤ st i ∧ st i ≤ 2) (hlo : ∀ l, lo l ≤ 2) :
    (d < opN M o g → xkV X q o g t f = 15) ∧ (opN M o g ≤ d → ¬ opOk M q o g d st lo → xkV X q o g t f = 16) ∧
    (opN M o g ≤ d → opOk M q o g d st lo → opP M o g d st lo ≠ 0 → stk ≤ d - afN M o g → xkV X q o g t f = 17) ∧
    (opN M o g ≤ d → opOk M q o g d st lo → (opP M o g d st lo = 0 ∨ d - afN M o g < stk) → xkV X q o g t f = 0 ∧ KW ((xkS X q o g t f).1 6 0 1) (afD M o g d st lo) (afS M o g d st lo) (afL o g d st lo)) := by
  have hd6 := hK.2.1
  have hT := h21 e21
  obtain ⟨flo, k1, k2⟩ := hT.tkk
  obtain ⟨n1, n2⟩ := hT.n
  obtain ⟨t1, t2, t3, t4, t5, t6, t7, -⟩ := hT
  have i21 : nI o = 21 := by rw [e21]; rfl
  have eN : opN M o g = t := by rw [opN, if_pos e21, n1]
  have eP : opP M o g d st lo = gg := by rw [opP, if_neg (by omega), if_neg (by omega), if_pos e21, n2]
  have eA : afN M o g = t := by rw [afN, if_neg (by omega), eN]
  have eL : afL o g d st lo = lo := by rw [afL, if_neg (by omega)]
  have hle : X.1 4 g 1 ≤ kDepth (X.1 6 0 1) ↔ t ≤ d := by rw [t1, hK.depth, nI_leI (by omega) (by omega)]
  have eV : xkV X q o g t f = jcallV X q g t := if_pos i21
  have eS : xkS X q o g t f = jcallS X q g t := if_pos i21
  rw [eN, eA, eP, eL, eV, eS, jcallV, jcallS]
  have hok : t ≤ d → (opOk M q o g d st lo ↔ (jcGo (X.1 4 g 8) t (X.1 6 0 1)).1 = true) := fun htd => by
    rw [(jcGo_N k1 t d _ st lo (by omega) hK htd).1, opOk, eN]
    constructor
    · rintro ⟨-, h⟩ k hk
      obtain ⟨c1, c2, c3, c4⟩ := k2 (t - 1 - k) (by omega)
      have hW : opW M q o g k = tkk M g (t - 1 - k) := by rw [opW, if_pos e21, n1]
      rcases h k hk with z | z
      · rw [hW] at z; omega
      · rw [z, hW, c2]
    · intro h
      refine ⟨fun z => by omega, fun k hk => Or.inr ?_⟩
      obtain ⟨c1, c2, c3, c4⟩ := k2 (t - 1 - k) (by omega)
      rw [h k hk, c2, opW, if_pos e21, n1]
  refine ⟨fun h => ?_, fun h h2 => ?_, fun h h2 h3 h4 => ?_, fun h h2 h3 => ?_⟩
  · rw [if_neg (fun z => by have := hle.mp z; omega)]
  · rw [if_pos (hle.mpr h), if_neg (fun z => h2 ((hok h).mpr z))]
  · have hj := (hok h).mp h2
    have hk := (jcGo_N k1 t d _ st lo (by omega) hK h).2 hj
    rw [if_pos (hle.mpr h), if_pos hj, pushV_N (X := wI X 6 0 1 _) (by rw [wI_rd]; exact hk) (by rw [wI_o _ _ _ _ _ _ _ _ (fun z => absurd z.1 (by decide))]; exact hs) hs6, if_neg (by omega)]
  · have hj := (hok h).mp h2
    have hk := (jcGo_N k1 t d _ st lo (by omega) hK h).2 hj
    have hlt : d - t < stk := by omega
    rw [if_pos (hle.mpr h), if_pos hj, pushV_N (X := wI X 6 0 1 _) (by rw [wI_rd]; exact hk) (by rw [wI_o _ _ _ _ _ _ _ _ (fun z => absurd z.1 (by decide))]; exact hs) hs6, if_pos hlt, if_pos (hle.mpr h), if_pos hj, t4]
    refine ⟨rfl, ?_⟩
    rw [afD, afS, eP, eA, if_neg (by omega), if_neg (by omega)]
    exact pushS_N (X := wI X 6 0 1 _) (by rw [wI_rd]; exact hk) (by rw [wI_o _ _ _ _ _ _ _ _ (fun z => absurd z.1 (by decide))]; exact hs) hs6 hlt (by omega)
theorem xk_Nn {X M : MS} {q o g t gg gq stk d : Nat} {st lo : Nat → Nat} {f : Int32} (e21 : ¬ o = 21) (hK : KW (X.1 6 0 1) d st lo) (hs : X.1 4 q 4 = nI stk) (hs6 : stk ≤ 6) (hd : d ≤ stk) (ho : o < 25) (h34 : o = 3 ∨ o = 4 → f = nI g ∧ g < 6) (h21 : o = 21 → TG X M g t gg) (hq2 : X.1 4 q 2 = nI gq) (hq3 : M.1 33 0 q = nI gq) (hgq : 1 ≤ gq ∧ gq ≤ 2) (hst : ∀ i, i < d → 1 ≤ st i ∧ st i ≤ 2) (hlo : ∀ l, lo l ≤ 2) :
    (d < opN M o g → xkV X q o g t f = 15) ∧ (opN M o g ≤ d → ¬ opOk M q o g d st lo → xkV X q o g t f = 16) ∧
    (opN M o g ≤ d → opOk M q o g d st lo → opP M o g d st lo ≠ 0 → stk ≤ d - afN M o g → xkV X q o g t f = 17) ∧
    (opN M o g ≤ d → opOk M q o g d st lo → (opP M o g d st lo = 0 ∨ d - afN M o g < stk) → xkV X q o g t f = 0 ∧ KW ((xkS X q o g t f).1 6 0 1) (afD M o g d st lo) (afS M o g d st lo) (afL o g d st lo)) := by
  have hd6 := hK.2.1
  have i21 : ¬ nI o = (21 : Int32) := fun z => e21 ((nI_o ho (v := 21) (by decide)).mp z)
  obtain ⟨b0, b1⟩ := tab_ok 0 (by decide) o ho
  obtain ⟨c0, c1⟩ := tab_ok 1 (by decide) o ho
  obtain ⟨p0, p1⟩ := tab_ok 2 (by decide) o ho
  have eN : opN M o g = tab 0 o := by rw [opN, if_neg e21]
  have eV : xkV X q o g t f = jstV X q (nI o) f (tab 0 o) := if_neg i21
  have eS : xkS X q o g t f = jstS X q (nI o) f (tab 0 o) := if_neg i21
  have hle : opTab 0 (nI o) ≤ kDepth (X.1 6 0 1) ↔ tab 0 o ≤ d := by rw [b0, hK.depth, nI_leI (by omega) (by omega)]
  have hW : ∃ w, w ≤ 2 ∧ (if nI o = 22 then X.1 4 q 2 else opTab 1 (nI o)) = nI w ∧ ∀ k, opW M q o g k = w := by
    by_cases e22 : o = 22
    · refine ⟨gq, hgq.2, by rw [if_pos (by rw [e22]; rfl)]; exact hq2, fun k => ?_⟩
      rw [opW, if_neg e21, if_pos e22, gvN, hq3, nI_c (by omega)]
    · refine ⟨tab 1 o, c1, by rw [if_neg (show ¬ nI o = (22 : Int32) from fun z => e22 ((nI_o ho (v := 22) (by decide)).mp z))]; exact c0, fun k => ?_⟩
      rw [opW, if_neg e21, if_neg e22]
  obtain ⟨w, w1, w2, w3⟩ := hW
  have i3 : nI o = (3 : Int32) ↔ o = 3 := nI_o ho (v := 3) (by decide)
  have i4 : nI o = (4 : Int32) ↔ o = 4 := nI_o ho (v := 4) (by decide)
  have i5 : nI o = (5 : Int32) ↔ o = 5 := nI_o ho (v := 5) (by decide)
  have hb0 : (!(decide (nI o = 3)) || !(decide (kLocal (X.1 6 0 1) f = 0))) = true ↔ (o = 3 → lo g ≠ 0) := by
    rw [Bool.or_eq_true, Bool.not_eq_true', Bool.not_eq_true', decide_eq_false_iff_not, decide_eq_false_iff_not, i3]
    by_cases e3 : o = 3
    · obtain ⟨f1, f2⟩ := h34 (Or.inl e3)
      have := hlo g
      rw [f1, hK.loc f2, nI_eq0 (by omega)]
      exact ⟨fun z _ => z.resolve_left (fun y => y e3), fun z => Or.inr (z e3)⟩
    · exact ⟨fun _ y => absurd y e3, fun _ => Or.inl e3⟩
  have hJ : tab 0 o ≤ d → KW (jsR X q (nI o) f (tab 0 o)).1 (d - tab 0 o) (cut st (d - tab 0 o)) lo ∧ (jsR X q (nI o) f (tab 0 o)).2.1 = (if tab 0 o = 0 then 0 else nI (st (d - tab 0 o))) ∧ ((jsR X q (nI o) f (tab 0 o)).2.2 = true ↔ opOk M q o g d st lo) := fun htd => by
    obtain ⟨j1, j2, j3⟩ := jsGo_N (if nI o = 22 then X.1 4 q 2 else opTab 1 (nI o)) (tab 0 o) d (X.1 6 0 1) 0 (!(decide (nI o = 3)) || !(decide (kLocal (X.1 6 0 1) f = 0))) st lo hK htd
    refine ⟨j1, j2, ?_⟩
    show (jsGo _ _ _ _ _).2.2 = true ↔ _
    rw [j3, hb0, opOk, eN, w2]
    constructor
    · rintro ⟨h1, h2⟩
      refine ⟨h1, fun k hk => ?_⟩
      have := (hst (d - 1 - k) (by omega)).2
      rw [w3]
      rcases h2 k hk with z | z
      · rw [nI_eq0 (by omega)] at z; exact Or.inl z
      · rw [nI_eq (by omega) (by omega)] at z; exact Or.inr z.symm
    · rintro ⟨h1, h2⟩
      refine ⟨h1, fun k hk => ?_⟩
      have z := h2 k hk
      rw [w3] at z
      rcases z with z | z
      · exact Or.inl (by rw [z]; rfl)
      · exact Or.inr (by rw [z])
  have o4 : ∀ w', (wI X 6 0 1 w').1 4 q 4 = nI stk := fun w' => (wI_o _ _ _ _ _ _ _ _ (fun z => absurd z.1 (by decide))).trans hs
  rw [eN, eV, eS, jstV, jstS]
  refine ⟨fun h => ?_, fun h h2 => ?_, fun h h2 h3 h4 => ?_, fun h h2 h3 => ?_⟩
  · rw [if_neg (fun z => by have := hle.mp z; omega)]
  · rw [if_pos (hle.mpr h), if_neg (fun z => h2 ((hJ h).2.2.mp z))]
  · obtain ⟨j1, j2, j3⟩ := hJ h
    rw [if_pos (hle.mpr h), if_pos (j3.mpr h2)]
    by_cases e3 : o = 3
    · have t0 : tab 0 o = 0 := by rw [e3]; exact tabs.1
      have eA : afN M o g = 0 := by rw [afN, if_neg (by omega), eN, t0]
      rw [eA] at h4
      rw [t0, Nat.sub_zero] at j1
      rw [if_pos (i3.mpr e3), pushV_N (by rw [wI_rd, t0]; exact j1) (o4 _) hs6, if_neg (by omega)]
    · by_cases e4 : o = 4
      · exfalso; apply h3; rw [opP, if_neg e3, if_neg (by omega), if_neg e21, e4]; exact tabs.2.2.2
      · by_cases e5 : o = 5
        · have t1 : tab 0 o = 1 := by rw [e5]; exact tabs.2.2.1
          have eA : afN M o g = 0 := by rw [afN, if_pos e5]
          rw [eA] at h4
          obtain ⟨e, rfl⟩ : ∃ e, d = e + 1 := ⟨d - 1, by omega⟩
          rw [t1] at j1 j2
          rw [if_neg (by decide), Nat.add_sub_cancel] at j2
          rw [Nat.add_sub_cancel] at j1
          have hp := j1.push (c := st e) (by omega) (hK.2.2.1 e)
          rw [up_cut hK.2.2.2.1] at hp
          rw [if_neg (fun z => e3 (i3.mp z)), if_neg (fun z => e4 (i4.mp z)), if_pos (i5.mpr e5), t1, j2, pushV_N (by rw [wI_rd]; exact hp) (o4 _) hs6, if_neg (by omega)]
        · have eA : afN M o g = tab 0 o := by rw [afN, if_neg e5, eN]
          have eP : opP M o g d st lo = tab 2 o := by rw [opP, if_neg e3, if_neg e5, if_neg e21]
          rw [eA] at h4
          rw [eP] at h3
          rw [if_neg (fun z => e3 (i3.mp z)), if_neg (fun z => e4 (i4.mp z)), if_neg (fun z => e5 (i5.mp z)), if_neg (by rw [p0, nI_eq0 (by omega)]; exact h3), pushV_N (by rw [wI_rd]; exact j1) (o4 _) hs6, if_neg (by omega)]
  · obtain ⟨j1, j2, j3⟩ := hJ h
    rw [if_pos (hle.mpr h), if_pos (j3.mpr h2), if_pos (hle.mpr h), if_pos (j3.mpr h2)]
    by_cases e3 : o = 3
    · have t0 : tab 0 o = 0 := by rw [e3]; exact tabs.1
      have eA : afN M o g = 0 := by rw [afN, if_neg (by omega), eN, t0]
      have eP : opP M o g d st lo = lo g := by rw [opP, if_pos e3]
      have hl0 : lo g ≠ 0 := h2.1 e3
      have hlt : d < stk := by
        rw [eP, eA] at h3
        rcases h3 with z | z
        · exact absurd z hl0
        · omega
      obtain ⟨f1, f2⟩ := h34 (Or.inl e3)
      rw [t0, Nat.sub_zero] at j1
      have jw : KW ((wI X 6 0 1 (jsR X q (nI o) f 0).1).1 6 0 1) d (cut st d) lo := by rw [wI_rd]; exact j1
      rw [if_pos (i3.mpr e3), if_pos (i3.mpr e3), t0, pushV_N jw (o4 _) hs6, if_pos hlt]
      refine ⟨rfl, ?_⟩
      have hkl : kLocal (jsR X q (nI o) f 0).1 f = nI (lo g) := (congrArg (kLocal _) f1).trans (j1.loc f2)
      rw [afD, afS, afL, eP, eA, if_neg hl0, if_neg hl0, if_neg (by omega), Nat.sub_zero, hkl]
      exact pushS_N jw (o4 _) hs6 hlt (by have := hlo g; omega)
    · by_cases e4 : o = 4
      · have t1 : tab 0 o = 1 := by rw [e4]; exact tabs.2.1
        have eA : afN M o g = 1 := by rw [afN, if_neg (by omega), eN, t1]
        have eP : opP M o g d st lo = 0 := by rw [opP, if_neg e3, if_neg (by omega), if_neg e21, e4]; exact tabs.2.2.2
        obtain ⟨f1, f2⟩ := h34 (Or.inr e4)
        rw [if_neg (fun z => e3 (i3.mp z)), if_pos (i4.mpr e4), if_neg (fun z => e3 (i3.mp z)), if_pos (i4.mpr e4), wI_rd]
        refine ⟨rfl, ?_⟩
        rw [j2, if_neg (by omega), afD, afS, afL, eP, eA, if_pos rfl, if_pos rfl, if_pos e4, t1]
        rw [t1] at j1
        have hw := j1.wth f2 (hK.2.2.1 (d - 1))
        rw [← f1] at hw
        exact hw
      · by_cases e5 : o = 5
        · have t1 : tab 0 o = 1 := by rw [e5]; exact tabs.2.2.1
          have eA : afN M o g = 0 := by rw [afN, if_pos e5]
          obtain ⟨e, rfl⟩ : ∃ e, d = e + 1 := ⟨d - 1, by omega⟩
          have eP : opP M o g (e + 1) st lo = st e := by rw [opP, if_neg e3, if_pos e5, Nat.add_sub_cancel]
          have hs1 := hst e (by omega)
          have hlt : e + 1 < stk := by
            rw [eP, eA] at h3
            rcases h3 with z | z
            · omega
            · omega
          rw [t1] at j1 j2
          rw [if_neg (by decide), Nat.add_sub_cancel] at j2
          rw [Nat.add_sub_cancel] at j1
          have hp := j1.push (c := st e) (by omega) (hK.2.2.1 e)
          rw [up_cut hK.2.2.2.1] at hp
          have jw : KW ((wI X 6 0 1 (kPush (jsR X q (nI o) f 1).1 (nI (st e)))).1 6 0 1) (e + 1) st lo := by rw [wI_rd]; exact hp
          rw [if_neg (fun z => e3 (i3.mp z)), if_neg (fun z => e4 (i4.mp z)), if_pos (i5.mpr e5), if_neg (fun z => e3 (i3.mp z)), if_neg (fun z => e4 (i4.mp z)), if_pos (i5.mpr e5), t1, j2, pushV_N jw (o4 _) hs6, if_pos hlt]
          refine ⟨rfl, ?_⟩
          rw [afD, afS, afL, eP, eA, if_neg (by omega), if_neg (by omega), if_neg e4, Nat.sub_zero, cut_all hK.2.2.2.1]
          exact pushS_N jw (o4 _) hs6 hlt (by omega)
        · have eA : afN M o g = tab 0 o := by rw [afN, if_neg e5, eN]
          have eP : opP M o g d st lo = tab 2 o := by rw [opP, if_neg e3, if_neg e5, if_neg e21]
          rw [if_neg (fun z => e3 (i3.mp z)), if_neg (fun z => e4 (i4.mp z)), if_neg (fun z => e5 (i5.mp z)), if_neg (fun z => e3 (i3.mp z)), if_neg (fun z => e4 (i4.mp z)), if_neg (fun z => e5 (i5.mp z))]
          rw [afD, afS, afL, eP, eA, if_neg e4]
          rw [eP, eA] at h3
          by_cases hp : tab 2 o = 0
          · have hp2 : opTab 2 (nI o) = 0 := by rw [p0, hp]; rfl
            rw [if_pos hp2, if_pos hp2, if_pos hp, if_pos hp, wI_rd]
            exact ⟨rfl, j1⟩
          · have hp2 : ¬ opTab 2 (nI o) = 0 := by rw [p0, nI_eq0 (by omega)]; exact hp
            have hlt : d - tab 0 o < stk := h3.resolve_left hp
            have jw : KW ((wI X 6 0 1 (jsR X q (nI o) f (tab 0 o)).1).1 6 0 1) (d - tab 0 o) (cut st (d - tab 0 o)) lo := by rw [wI_rd]; exact j1
            rw [if_neg hp2, if_neg hp2, if_neg hp, if_neg hp, pushV_N jw (o4 _) hs6, if_pos hlt, p0]
            exact ⟨rfl, pushS_N jw (o4 _) hs6 hlt (by omega)⟩
theorem xk_N {X M : MS} {q o g t gg gq stk d : Nat} {st lo : Nat → Nat} {f : Int32} (hK : KW (X.1 6 0 1) d st lo) (hs : X.1 4 q 4 = nI stk) (hs6 : stk ≤ 6) (hd : d ≤ stk) (ho : o < 25) (h34 : o = 3 ∨ o = 4 → f = nI g ∧ g < 6) (h21 : o = 21 → TG X M g t gg) (hq2 : X.1 4 q 2 = nI gq) (hq3 : M.1 33 0 q = nI gq) (hgq : 1 ≤ gq ∧ gq ≤ 2) (hst : ∀ i, i < d → 1 ≤ st i ∧ st i ≤ 2) (hlo : ∀ l, lo l ≤ 2) :
    (d < opN M o g → xkV X q o g t f = 15) ∧ (opN M o g ≤ d → ¬ opOk M q o g d st lo → xkV X q o g t f = 16) ∧
    (opN M o g ≤ d → opOk M q o g d st lo → opP M o g d st lo ≠ 0 → stk ≤ d - afN M o g → xkV X q o g t f = 17) ∧
    (opN M o g ≤ d → opOk M q o g d st lo → (opP M o g d st lo = 0 ∨ d - afN M o g < stk) → xkV X q o g t f = 0 ∧ KW ((xkS X q o g t f).1 6 0 1) (afD M o g d st lo) (afS M o g d st lo) (afL o g d st lo)) := by
  by_cases e21 : o = 21
  · exact xk_N21 e21 hK hs hs6 hd ho h34 h21 hq2 hq3 hgq hst hlo
  · exact xk_Nn e21 hK hs hs6 hd ho h34 h21 hq2 hq3 hgq hst hlo
