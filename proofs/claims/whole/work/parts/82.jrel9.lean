/-! the two sides judge alike: an OP -/
theorem bG (o : Int32) : opGoes o = (!decide (o = 19) && !decide (o = 22)) := by
  unfold opGoes
  simp
theorem JK.same {X M X' M' : MS} {q p d : Nat} {st lo : Nat → Nat} (h : JK X M q p d st lo) (x : X'.1 17 q p = X.1 17 q p) (m1 : M'.1 43 0 (48 * q + p) = M.1 43 0 (48 * q + p)) (m2 : M'.1 44 0 (48 * q + p) = M.1 44 0 (48 * q + p)) (m3 : ∀ i, i < 6 → M'.1 45 0 (6 * (48 * q + p) + i) = M.1 45 0 (6 * (48 * q + p) + i) ∧ M'.1 46 0 (6 * (48 * q + p) + i) = M.1 46 0 (6 * (48 * q + p) + i)) : JK X' M' q p d st lo := by
  obtain ⟨a1, a2, a3, a4, a5⟩ := h
  exact ⟨by rw [x]; exact a1, m1.trans a2, m2.trans a3, fun i hi => (m3 i hi).1.trans (a4 i hi), fun l hl => (m3 l hl).2.trans (a5 l hl)⟩
theorem JK.jn {X M X' M' : MS} {q p d : Nat} {st lo : Nat → Nat} (h : JK X M q p d st lo) (x : X'.1 17 q p = X.1 17 q p) (m : JN M M') : JK X' M' q p d st lo :=
  h.same x (m.1 _ _ _ ⟨by decide, by decide, fun z => absurd z (by decide)⟩) (m.1 _ _ _ ⟨by decide, by decide, fun z => absurd z (by decide)⟩) (fun i _ => ⟨m.1 _ _ _ ⟨by decide, by decide, fun z => absurd z (by decide)⟩, m.1 _ _ _ ⟨by decide, by decide, fun z => absurd z (by decide)⟩⟩)
theorem jkS_2 (S : MS) (m : Nat) (o : Int32) (g : Nat) (pl : Int32) : (jkS S m o g pl).2 = S.2 := by
  unfold jkS jkP
  (repeat' split) <;> first | rw [(jkE_jn _ _ _ _ _).2, jk2_2] | rw [(jkE_jn _ _ _ _ _).2, jk3_2] | rw [mFaultS_2, jk2_2] | rw [mFaultS_2]
theorem jkS_jn (S : MS) (m : Nat) (o : Int32) (g : Nat) (pl : Int32) : JN S (jkS S m o g pl) := ⟨fun b c d h => jkS_n _ _ _ _ _ h, jkS_2 _ _ _ _ _⟩
theorem MF1.jn {A B C : MS} {a : Nat} (h : MF1 A B a) (g : JN B C) : MF1 A C a := by
  have hn : ∀ b d, 43 ≤ b → b ≤ 46 → C.1 b 0 d = B.1 b 0 d := fun b d h1 h2 => g.1 _ _ _ ⟨by omega, by omega, fun z => by omega⟩
  exact ⟨h.1.tr g.jm, fun d hd => ⟨(hn 43 d (by decide) (by decide)).trans (h.2.1 d hd).1, (hn 44 d (by decide) (by decide)).trans (h.2.1 d hd).2⟩, fun d hd => ⟨(hn 45 d (by decide) (by decide)).trans (h.2.2 d hd).1, (hn 46 d (by decide) (by decide)).trans (h.2.2 d hd).2⟩⟩
theorem MF1.map {A B C : MS} {a q : Nat} {x : Int32} (h : B = mjMap A q x) (g : MF1 B C a) : MF1 A C a := by
  subst h
  refine ⟨(mjMap_j A q x).tr g.1, fun d hd => ⟨?_, ?_⟩, fun d hd => ⟨?_, ?_⟩⟩
  · exact (g.2.1 d hd).1.trans (mjMap_f A q x (by decide) d)
  · exact (g.2.1 d hd).2.trans (mjMap_f A q x (by decide) d)
  · exact (g.2.2 d hd).1.trans (mjMap_f A q x (by decide) d)
  · exact (g.2.2 d hd).2.trans (mjMap_f A q x (by decide) d)
theorem XF.then {A B C : MS} {q p : Nat} (h : XF A B q p) (g : JX B C) (g17 : ∀ c d, C.1 17 c d = B.1 17 c d) : XF A C q p := ⟨h.1.tr g, fun c d z => (g17 c d).trans (h.2 c d z)⟩
theorem mHas_iff (o : Int32) : opByte o = mHas o := rfl
/-- the OP at a place is judged alike -/
def JOut (X M : MS) (k en q L lc stk mp : Nat) (pl : Nat → Nat) (p o d : Nat) (st lo : Nat → Nat) (h : Bool) (v : Int32) (X' M' : MS) : Prop :=
  X'.1 6 0 0 = nI p ∧ XF X X' q p ∧ MF1 M M' (48 * q + p) ∧
  ((∃ w : Int32, w ≠ 0 ∧ v = w ∧ M'.1 8 0 28 = w ∧ M'.1 8 0 29 = nI p) ∨
  (v = 0 ∧ M'.1 8 0 28 = 0 ∧ ∃ g d1 s1 l1, OpS X' M' k en q L lc stk mp pl p o g d1 s1 l1 ∧ JK X' M' q p d1 s1 l1 ∧ KB lc stk d1 s1 l1 ∧ KR X' M' lc stk (afD M' o g d1 s1 l1) (afS M' o g d1 s1 l1) (afL o g d1 s1 l1) ∧ X'.1 6 0 2 = bI (opGoes (nI o)) ∧ M'.1 8 0 32 = bI (opGoes (nI o)) ∧ (h = true → FitK d st lo d1 s1 l1) ∧ ((∃ j, j < mp ∧ pl j = p ∧ MK X' M' q lc stk j d1 s1 l1) ∨ (∀ j, j < mp → pl j ≠ p))))
theorem MF1.rf (M : MS) (a : Nat) : MF1 M M a := ⟨JM.rf M, fun _ _ => ⟨rfl, rfl⟩, fun _ _ => ⟨rfl, rfl⟩⟩
theorem opSize_N (p o : Nat) : nI p + opSize (nI o) = nI (mjEnd p o) := by
  unfold opSize mjEnd
  rw [mHas_iff]
  by_cases h : mHas (nI o) = true
  · rw [if_pos h, if_pos h, ← nI_1 (p + 1), ← nI_1 p, Int32.add_assoc]; rfl
  · rw [if_neg h, if_neg h, nI_1]
theorem opIs_N {o : Nat} (ho : o < 256) : opIs (nI o) = true ↔ o < 25 := by
  rw [opIs, Bool.and_eq_true, decide_eq_true_eq, decide_eq_true_eq, Int32.not_lt, show (24 : Int32) = nI 24 from rfl, nI_ltI (by omega) (by omega)]
  exact ⟨fun z => by omega, fun z => ⟨Int32.not_lt.mp (nI_pos (by omega)), by omega⟩⟩
theorem J_op {X M : MS} {k en q lc stk L mp gq p d o : Nat} {pl st lo : Nat → Nat} {h : Bool} {tk : Nat → Nat} (hC : Ctx X M k en q lc stk L mp gq pl) (hK : KR X M lc stk d st lo) (hp : p < L) (hX : X.1 6 0 0 = nI p) (hx : X.1 6 0 2 = bI h) (hm : M.1 8 0 32 = bI h) (h28 : M.1 8 0 28 = 0) (htk : ∀ j, j < 5 → X.1 4 j 1 = nI (tk j) ∧ tk j ≤ 3) (ho : M.1 37 0 (48 * q + p) = nI o) (ho2 : o < 256) :
    JOut X M k en q L lc stk mp pl p o d st lo h (jopV X q tk) (jopS X q tk) (mjopS M q p o) := by
  have hL48 : L ≤ 48 := hC.2.2.1.2.2.2.2.1
  have hlc6 : lc ≤ 6 := hC.2.2.1.1
  have m37 : ∀ d, (mjMap M q (nI p)).1 37 0 d = M.1 37 0 d := fun d => mjMap_n _ _ _ (NO_b (by decide) (by decide))
  rcases meet_N hC hK hp hX hx hm with ⟨v1, v2⟩ | ⟨v1, v2, d1, s1, l1, hK1, hfit, hmap⟩
  · have eS : jopS X q tk = meetS X q := by rw [jopS, if_pos v1]
    have eM : mjopS M q p o = mFaultS M 11 (nI p) := by rw [mjopS, if_pos v2]
    rw [eS, eM]
    exact ⟨(meetS_o _ _ _ _ _ (by decide)).trans hX, ⟨meetS_j X q, fun c d _ => meetS_o _ _ _ _ _ (fun z => absurd z.1 (by decide))⟩, (MF1.rf M _).jn (mFaultS_jn _ _), Or.inl ⟨11, by decide, by rw [jopV, if_pos v1], mFaultS_b _ _ h28⟩⟩
  · have hXF := jo2_f X q p hX (by omega)
    have hX1 : (meetS X q).1 6 0 0 = nI p := (meetS_o _ _ _ _ _ (by decide)).trans hX
    have hX2 : (jo2 X q).1 6 0 0 = nI p := by
      rw [jo2, setKindsM]
      split
      · rw [wI_o _ _ _ _ _ _ _ _ (fun z => absurd z.1 (by decide))]; exact hX1
      · exact hX1
    have hMF : MF1 M (mjoN (mjMap M q (nI p)) q (48 * q + p)) (48 * q + p) := MF1.map rfl (mjoN_f _ _ _)
    have hC2 := hC.j hXF.1 hMF.1
    have hJK : JK (jo2 X q) (mjoN (mjMap M q (nI p)) q (48 * q + p)) q p d1 s1 l1 := by
      have := hK1.note (q := q) (p := p) ((mjMap_j M q (nI p)).1 _ _ _ (NR_b (by decide) (by decide)) |>.trans hC.2.2.1.2.2.2.2.2.2.1) hlc6 (by omega) hX1
      rw [jo2, hX1]
      exact this
    have hK2 : KR (jo2 X q) (mjoN (mjMap M q (nI p)) q (48 * q + p)) lc stk d1 s1 l1 := hK1.same (by
      rw [jo2, setKindsM]
      split
      · rw [wI_o _ _ _ _ _ _ _ _ (fun z => absurd z.1 (by decide))]
      · rfl) (mjoN_o _ _ _ _ _ _ (by decide) (by decide) (by decide) (by decide)) (fun i => mjoN_o _ _ _ _ _ _ (by decide) (by decide) (by decide) (by decide)) (fun i => mjoN_o _ _ _ _ _ _ (by decide) (by decide) (by decide) (by decide))
    have h28' : (mjoN (mjMap M q (nI p)) q (48 * q + p)).1 8 0 28 = 0 := (mjoN_o _ _ _ _ _ _ (by decide) (by decide) (by decide) (by decide)).trans ((mjMap_28 _ _ _).trans h28)
    have eM : mjopS M q p o = mjT1 (mjoN (mjMap M q (nI p)) q (48 * q + p)) q p o := by rw [mjopS, if_neg (by rw [v2]; decide)]; rfl
    have m37' : ∀ d, (mjoN (mjMap M q (nI p)) q (48 * q + p)).1 37 0 d = M.1 37 0 d := fun d => hMF.1.1 _ _ _ (NR_b (by decide) (by decide))
    have m36' : (mjoN (mjMap M q (nI p)) q (48 * q + p)).1 36 0 q = nI L := hC2.2.2.1.2.2.2.2.2.2.2.2.2.2
    have x45 : X.1 4 q 5 = nI L := hC.2.2.1.2.2.2.2.2.2.2.2.2.1
    have x45' : (jo2 X q).1 4 q 5 = nI L := hC2.2.2.1.2.2.2.2.2.2.2.2.2.1
    have hcode : ∀ p', p' < L → codeM (jo2 X q) q (nI p') = (jo2 X q).1 14 q p' := fun p' hp' => by
      rw [codeM, x45', if_pos ⟨nI_pos (by omega), by rw [nI_leI (by omega) (by omega)]; omega, (nI_guard (N := 48) (M := 48) rfl (by omega) (by decide)).2⟩, nI_c (by omega)]
    have hO : joO X q = nI o := by
      obtain ⟨b, b1, b2, b3⟩ := hC2.2.2.2.2.1 p hp
      rw [joO, hX, hcode p hp, b2, ← b3, m37', ho]
    rw [eM]
    generalize hM2 : mjoN (mjMap M q (nI p)) q (48 * q + p) = M2 at *
    have v1' : ¬ meetV X q = 0 := v1
    by_cases c1 : o < 25
    · have c1X : opIs (joO X q) = true := by rw [hO]; exact (opIs_N ho2).mpr c1
      have c1M : nI o ≤ (24 : Int32) := by rw [show (24 : Int32) = nI 24 from rfl, nI_leI (by omega) (by omega)]; omega
      have eE : X.1 6 0 0 + opSize (joO X q) = nI (mjEnd p o) := by rw [hX, hO, opSize_N]
      have hE2 : mjEnd p o ≤ p + 2 := by unfold mjEnd; split <;> omega
      have eSh : joShort X q = mjShort M2 q p o := by rw [joShort, mjShort, eE, x45, m36', hO, bG]
      by_cases c2 : mjShort M2 q p o = true
      · refine ⟨?_, ?_, ?_, Or.inl ⟨13, by decide, ?_, ?_⟩⟩
        · rw [jopS, if_neg v1', if_pos c1X, if_pos (eSh.trans c2)]; exact hX2
        · rw [jopS, if_neg v1', if_pos c1X, if_pos (eSh.trans c2)]; exact hXF
        · rw [mjT1, if_pos c1M, if_pos c2]; exact hMF.jn (mFaultS_jn _ _)
        · rw [jopV, if_neg v1', if_pos c1X, if_pos (eSh.trans c2)]
        · rw [mjT1, if_pos c1M, if_pos c2]; exact mFaultS_b _ _ h28'
      · have c2X : ¬ joShort X q = true := by rw [eSh]; exact c2
        have hEnd : mjEnd p o ≤ L ∧ (o ≠ 19 → o ≠ 22 → mjEnd p o < L) := by
          rw [mjShort, m36', Bool.or_eq_true, Bool.and_eq_true, decide_eq_true_eq, decide_eq_true_eq, ← bG, nI_ltI (by omega) (by omega), nI_eq (by omega) (by omega), opGoes, Bool.and_eq_true, decide_eq_true_eq, decide_eq_true_eq, show (19 : Int32) = nI 19 from rfl, show (22 : Int32) = nI 22 from rfl, nI_o c1 (by decide), nI_o c1 (by decide)] at c2
          refine ⟨by omega, fun z1 z2 => ?_⟩
          have := fun z => c2 (Or.inr ⟨z, z1, z2⟩)
          omega
        obtain ⟨g, hg, hgA, hgf, hg37, hg0⟩ : ∃ g, g < 256 ∧ mjArg M2 q p o = g ∧ (mHas (nI o) = true → joF X q = nI g) ∧ (mHas (nI o) = true → M2.1 37 0 (48 * q + p + 1) = nI g) ∧ (mHas (nI o) = false → g = 0) := by
          by_cases z : mHas (nI o) = true
          · have hp1 : p + 1 < L := by have := hEnd.1; rw [mjEnd, if_pos z] at this; omega
            obtain ⟨b, b1, b2, b3⟩ := hC2.2.2.2.2.1 (p + 1) hp1
            refine ⟨b, b1, ?_, fun _ => ?_, fun _ => b3, fun y => absurd (z.symm.trans y) (by decide)⟩
            · rw [mjArg, if_pos z, Nat.add_assoc, b3, nI_c (by omega)]
            · rw [joF, hX, nI_1, hcode _ hp1, b2]
          · exact ⟨0, by decide, by rw [mjArg, if_neg z], fun y => absurd y z, fun y => absurd y z, fun _ => rfl⟩
        obtain ⟨r1, r2, r3, r4, -, r6, -, -⟩ := hC2.1
        obtain ⟨e1, e2⟩ := ent_N (q := q) (f := joF X q) r6 r2 r4 r3 hC2.2.2.1.2.2.2.2.2.1 hC2.2.2.1.2.2.2.2.2.2.1 hlc6 c1 hg hgf
        by_cases c3 : EnOk (jo2 X q) M2 k en lc o g
        · have c3X : entJ (jo2 X q) q (joO X q) (joF X q) = true := by rw [hO]; exact e1.mpr c3
          have c3M : mEny M2 q (nI o) (mjArg M2 q p o) = true := by rw [hgA]; exact e2.mpr c3
          have hfg : nI o = (21 : Int32) → (joF X q).toNatClampNeg = g := fun z => by
            rw [hgf (by rw [z]; decide), nI_c (by omega)]
          have eJV : joV X q tk = xkV (jo2 X q) q o g (tk g) (joF X q) := by
            unfold joV xkV
            rw [hO, (tab_ok 0 (by decide) o c1).1, nI_c (by have := (tab_ok 0 (by decide) o c1).2; omega)]
            by_cases z : nI o = (21 : Int32)
            · rw [if_pos z, if_pos z, hfg z]
            · rw [if_neg z, if_neg z]
          have eJS : joS X q tk = xkS (jo2 X q) q o g (tk g) (joF X q) := by
            unfold joS xkS
            rw [hO, (tab_ok 0 (by decide) o c1).1, nI_c (by have := (tab_ok 0 (by decide) o c1).2; omega)]
            by_cases z : nI o = (21 : Int32)
            · rw [if_pos z, if_pos z, hfg z]
            · rw [if_neg z, if_neg z]
          have htk' : ∀ j, j < 5 → (jo2 X q).1 4 j 1 = nI (tk j) ∧ tk j ≤ 3 := fun j hj => by rw [hXF.1.1 _ _ _ (by decide) (by first | decide | exact KX_ne (by decide))]; exact htk j hj
          have hJ := J_kinds (p := p) (tk := tk) hC2 hK2 h28' c1 hg hgf c3 htk'
          obtain ⟨xj1, xj2, xj3⟩ := xkS_j (jo2 X q) q o g (tk g) (joF X q)
          have eXS : jopS X q tk = wI (xkS (jo2 X q) q o g (tk g) (joF X q)) 6 0 2 (bI (opGoes (nI o))) := by
            rw [jopS, if_neg v1', if_pos c1X, if_neg c2X, if_pos c3X, eJS, hO]
          have eXV : jopV X q tk = if xkV (jo2 X q) q o g (tk g) (joF X q) = 0 then (if opJumps (nI o) = true then (if reachV (xkS (jo2 X q) q o g (tk g) (joF X q)) q (joF X q) = true then 0 else 18) else 0) else xkV (jo2 X q) q o g (tk g) (joF X q) := by
            rw [jopV, if_neg v1', if_pos c1X, if_neg c2X, if_pos c3X, eJS, eJV, hO]
          have eMS : mjT1 M2 q p o = jkS M2 q (nI o) g (nI p) := by
            rw [mjT1, if_pos c1M, if_neg c2, if_pos c3M, hgA]
          have hjw : ∀ Y : MS, JX Y (wI Y 6 0 2 (bI (opGoes (nI o)))) := fun Y => ⟨fun b c d h6 _ => wI_o _ _ _ _ _ _ _ _ (fun z => h6 z.1), fun d => by rw [wI_2]⟩
          have hjn := jkS_jn M2 q (nI o) g (nI p)
          have hXFf : XF X (jopS X q tk) q p := by
            rw [eXS]
            exact (hXF.then xj1 xj2).then (hjw _) (fun c d => wI_o _ _ _ _ _ _ _ _ (fun z => absurd z.1 (by decide)))
          refine ⟨?_, hXFf, ?_, ?_⟩
          · rw [eXS, wI_o _ _ _ _ _ _ _ _ (by decide), xj3]; exact hX2
          · rw [eMS]; exact hMF.jn hjn
          · rw [eMS, eXV]
            have hjx2 : JX (jo2 X q) (jopS X q tk) := by rw [eXS]; exact xj1.tr (hjw _)
            have h17 : (jopS X q tk).1 17 q p = (jo2 X q).1 17 q p := by
              rw [eXS, wI_o _ _ _ _ _ _ _ _ (fun z => absurd z.1 (by decide))]; exact xj2 q p
            rcases hJ with ⟨w, w1, w2, w3⟩ | ⟨w1, w2, w3, w4⟩ | ⟨w1, w2, w3, w4, w5, w6, w7, w8, w9⟩
            · left
              exact ⟨w, w1, by rw [if_neg (by rw [w2]; exact w1)]; exact w2, w3⟩
            · left
              exact ⟨18, by decide, by rw [if_pos w1, if_pos w2, if_neg (by rw [w3]; decide)], w4⟩
            · right
              refine ⟨?_, w3, g, d1, s1, l1, ?_, hJK.jn h17 hjn, hK2.kb, ?_, ?_, w5, hfit, ?_⟩
              · rw [if_pos w1]
                by_cases z : opJumps (nI o) = true
                · rw [if_pos z, if_pos (w2 z)]
                · rw [if_neg z]
              · have : OpS (jo2 X q) M2 k en q L lc stk mp pl p o g d1 s1 l1 := ⟨c1, hEnd.1, hEnd.2, hg, hg37, hg0, c3, w6, w7, w8, w9⟩
                exact this.j hjx2 hjn.jm
              · rw [afD_j hjn.jm, afS_j hjn.jm, eXS]
                exact w4.same (wI_o _ _ _ _ _ _ _ _ (by decide)) rfl (fun _ => rfl) (fun _ => rfl)
              · rw [eXS, wI_rd]
              · rcases hmap with ⟨j, a, b, c⟩ | ⟨a, -⟩
                · exact Or.inl ⟨j, a, b, c.j hXFf.1 (hMF.1.tr hjn.jm)⟩
                · exact Or.inr a
        · have c3X : ¬ entJ (jo2 X q) q (joO X q) (joF X q) = true := by rw [hO]; exact fun z => c3 (e1.mp z)
          have c3M : ¬ mEny M2 q (nI o) (mjArg M2 q p o) = true := by rw [hgA]; exact fun z => c3 (e2.mp z)
          refine ⟨?_, ?_, ?_, Or.inl ⟨14, by decide, ?_, ?_⟩⟩
          · rw [jopS, if_neg v1', if_pos c1X, if_neg c2X, if_neg c3X]; exact hX2
          · rw [jopS, if_neg v1', if_pos c1X, if_neg c2X, if_neg c3X]; exact hXF
          · rw [mjT1, if_pos c1M, if_neg c2, if_neg c3M]; exact hMF.jn (mFaultS_jn _ _)
          · rw [jopV, if_neg v1', if_pos c1X, if_neg c2X, if_neg c3X]
          · rw [mjT1, if_pos c1M, if_neg c2, if_neg c3M]; exact mFaultS_b _ _ h28'
    · have c1X : ¬ opIs (joO X q) = true := by rw [hO]; exact fun z => c1 ((opIs_N ho2).mp z)
      have c1M : ¬ nI o ≤ (24 : Int32) := by rw [show (24 : Int32) = nI 24 from rfl, nI_leI (by omega) (by omega)]; omega
      refine ⟨?_, ?_, ?_, Or.inl ⟨12, by decide, ?_, ?_⟩⟩
      · rw [jopS, if_neg v1', if_neg c1X]; exact hX2
      · rw [jopS, if_neg v1', if_neg c1X]; exact hXF
      · rw [mjT1, if_neg c1M]; exact hMF.jn (mFaultS_jn _ _)
      · rw [jopV, if_neg v1', if_neg c1X]
      · rw [mjT1, if_neg c1M]; exact mFaultS_b _ _ h28'
