/-! the two sides judge alike: what is listed, entries, what is noted -/
theorem WD.is {X M : MS} {e : Nat} (h : WD X M e) {n : Nat} {g : Nat → Nat} (hn : n ≤ 8) (hg : ∀ j, j < n → 97 ≤ g j ∧ g j ≤ 122) : X.2.1 13 0 e = lN (pL g n) ↔ (M.1 28 0 e = nI n ∧ ∀ j, j < n → M.1 29 0 (8 * e + j) = nI (g j)) := by
  obtain ⟨w, f, a1, a2, a3, a4, a5⟩ := h
  have l1 := pL_lt f w (fun j hj => by have := (a4 j hj).2.2; omega)
  have l2 := pL_lt g n (fun j hj => by have := (hg j hj).2; omega)
  have p1 := pL_pow a2
  have p2 := pL_pow hn
  rw [a5, q_eq (by omega) (by omega), a3, nI_eq (by omega) (by omega)]
  constructor
  · intro z
    obtain ⟨h1, h2⟩ := pL_inj w n (fun j hj => (a4 j hj).2) hg z
    subst h1
    exact ⟨rfl, fun j hj => by rw [(a4 j hj).1, h2 j hj]⟩
  · rintro ⟨h1, h2⟩
    subst h1
    refine pL_congr w (fun j hj => ?_)
    have := h2 j hj
    rw [(a4 j hj).1, nI_eq (by have := (a4 j hj).2.2; omega) (by have := (hg j hj).2; omega)] at this
    exact this
def gAbs (j : Nat) : Nat := if j = 0 then 97 else if j = 1 then 98 else 115
def gRoot (j : Nat) : Nat := if j = 0 then 114 else if j = 1 then 111 else if j = 2 then 111 else 116
def gFloor (j : Nat) : Nat := if j = 0 then 102 else if j = 1 then 108 else if j = 2 then 111 else if j = 3 then 111 else 114
def gSign (j : Nat) : Nat := if j = 0 then 115 else if j = 1 then 105 else if j = 2 then 103 else 110
theorem gC : lN (pL gAbs 3) = 6382195 ∧ lN (pL gRoot 4) = 1919905652 ∧ lN (pL gFloor 5) = 439905906546 ∧ lN (pL gSign 4) = 1936287598 := by decide +kernel
theorem gR : (∀ j, j < 3 → 97 ≤ gAbs j ∧ gAbs j ≤ 122) ∧ (∀ j, j < 4 → 97 ≤ gRoot j ∧ gRoot j ≤ 122) ∧ (∀ j, j < 5 → 97 ≤ gFloor j ∧ gFloor j ≤ 122) ∧ (∀ j, j < 4 → 97 ≤ gSign j ∧ gSign j ≤ 122) := by decide
theorem fa3 {P : Nat → Prop} : (∀ j, j < 3 → P j) ↔ P 0 ∧ P 1 ∧ P 2 := ⟨fun h => ⟨h 0 (by decide), h 1 (by decide), h 2 (by decide)⟩, fun ⟨h0, h1, h2⟩ j hj => by
  rcases (show j = 0 ∨ j = 1 ∨ j = 2 by omega) with rfl | rfl | rfl <;> assumption⟩
theorem fa4 {P : Nat → Prop} : (∀ j, j < 4 → P j) ↔ P 0 ∧ P 1 ∧ P 2 ∧ P 3 := ⟨fun h => ⟨h 0 (by decide), h 1 (by decide), h 2 (by decide), h 3 (by decide)⟩, fun ⟨h0, h1, h2, h3⟩ j hj => by
  rcases (show j = 0 ∨ j = 1 ∨ j = 2 ∨ j = 3 by omega) with rfl | rfl | rfl | rfl <;> assumption⟩
theorem fa5 {P : Nat → Prop} : (∀ j, j < 5 → P j) ↔ P 0 ∧ P 1 ∧ P 2 ∧ P 3 ∧ P 4 := ⟨fun h => ⟨h 0 (by decide), h 1 (by decide), h 2 (by decide), h 3 (by decide), h 4 (by decide)⟩, fun ⟨h0, h1, h2, h3, h4⟩ j hj => by
  rcases (show j = 0 ∨ j = 1 ∨ j = 2 ∨ j = 3 ∨ j = 4 by omega) with rfl | rfl | rfl | rfl | rfl <;> assumption⟩
/-- which function a listed WORD is -/
def LF (X M : MS) (e : Nat) : Prop := (X.2.1 13 0 e = 6382195 ∧ M.1 29 0 (8 * e) = 97) ∨ (X.2.1 13 0 e = 1919905652 ∧ M.1 29 0 (8 * e) = 114) ∨ (X.2.1 13 0 e = 439905906546 ∧ M.1 29 0 (8 * e) = 102) ∨ (X.2.1 13 0 e = 1936287598 ∧ M.1 29 0 (8 * e) = 115)
theorem WD.lst {X M : MS} {e : Nat} (h : WD X M e) : mLst M e = true ↔ (X.2.1 13 0 e = 6382195 ∨ X.2.1 13 0 e = 1919905652 ∨ X.2.1 13 0 e = 439905906546 ∨ X.2.1 13 0 e = 1936287598) := by
  obtain ⟨c1, c2, c3, c4⟩ := gC
  obtain ⟨r1, r2, r3, r4⟩ := gR
  rw [← c1, ← c2, ← c3, ← c4, h.is (by decide) r1, h.is (by decide) r2, h.is (by decide) r3, h.is (by decide) r4, fa3, fa4, fa5, fa4]
  simp only [mLst, mWd, Bool.or_eq_true, Bool.and_eq_true, decide_eq_true_eq, Nat.add_zero]
  have e1 : nI (gAbs 0) = 97 ∧ nI (gAbs 1) = 98 ∧ nI (gAbs 2) = 115 ∧ nI 3 = 3 := ⟨rfl, rfl, rfl, rfl⟩
  have e2 : nI (gRoot 0) = 114 ∧ nI (gRoot 1) = 111 ∧ nI (gRoot 2) = 111 ∧ nI (gRoot 3) = 116 ∧ nI 4 = 4 := ⟨rfl, rfl, rfl, rfl, rfl⟩
  have e3 : nI (gFloor 0) = 102 ∧ nI (gFloor 1) = 108 ∧ nI (gFloor 2) = 111 ∧ nI (gFloor 3) = 111 ∧ nI (gFloor 4) = 114 ∧ nI 5 = 5 := ⟨rfl, rfl, rfl, rfl, rfl, rfl⟩
  have e4 : nI (gSign 0) = 115 ∧ nI (gSign 1) = 105 ∧ nI (gSign 2) = 103 ∧ nI (gSign 3) = 110 := ⟨rfl, rfl, rfl, rfl⟩
  rw [e1.1, e1.2.1, e1.2.2.1, e1.2.2.2, e2.1, e2.2.1, e2.2.2.1, e2.2.2.2.1, e2.2.2.2.2, e3.1, e3.2.1, e3.2.2.1, e3.2.2.2.1, e3.2.2.2.2.1, e3.2.2.2.2.2, e4.1, e4.2.1, e4.2.2.1, e4.2.2.2]
  constructor
  · rintro (((⟨⟨⟨a, b⟩, c⟩, d⟩ | ⟨⟨⟨⟨a, b⟩, c⟩, d⟩, e⟩) | ⟨⟨⟨⟨⟨a, b⟩, c⟩, d⟩, e⟩, f⟩) | ⟨⟨⟨⟨a, b⟩, c⟩, d⟩, e⟩)
    · exact Or.inl ⟨a, b, c, d⟩
    · exact Or.inr (Or.inl ⟨a, b, c, d, e⟩)
    · exact Or.inr (Or.inr (Or.inl ⟨a, b, c, d, e, f⟩))
    · exact Or.inr (Or.inr (Or.inr ⟨a, b, c, d, e⟩))
  · rintro (⟨a, b, c, d⟩ | ⟨a, b, c, d, e⟩ | ⟨a, b, c, d, e, f⟩ | ⟨a, b, c, d, e⟩)
    · exact Or.inl (Or.inl (Or.inl ⟨⟨⟨a, b⟩, c⟩, d⟩))
    · exact Or.inl (Or.inl (Or.inr ⟨⟨⟨⟨a, b⟩, c⟩, d⟩, e⟩))
    · exact Or.inl (Or.inr ⟨⟨⟨⟨⟨a, b⟩, c⟩, d⟩, e⟩, f⟩)
    · exact Or.inr ⟨⟨⟨⟨a, b⟩, c⟩, d⟩, e⟩
theorem WD.lf {X M : MS} {e : Nat} (h : WD X M e) (hl : mLst M e = true) : LF X M e := by
  obtain ⟨c1, c2, c3, c4⟩ := gC
  obtain ⟨r1, r2, r3, r4⟩ := gR
  rcases h.lst.mp hl with z | z | z | z
  · exact Or.inl ⟨z, ((h.is (by decide) r1).mp (z.trans c1.symm)).2 0 (by decide)⟩
  · exact Or.inr (Or.inl ⟨z, ((h.is (by decide) r2).mp (z.trans c2.symm)).2 0 (by decide)⟩)
  · exact Or.inr (Or.inr (Or.inl ⟨z, ((h.is (by decide) r3).mp (z.trans c3.symm)).2 0 (by decide)⟩))
  · exact Or.inr (Or.inr (Or.inr ⟨z, ((h.is (by decide) r4).mp (z.trans c4.symm)).2 0 (by decide)⟩))
/-- what an OP's byte names -/
def EnOk (X M : MS) (k en lc o g : Nat) : Prop := (o = 1 → g < en ∧ M.1 26 0 g = 1) ∧ (o = 2 → g < en ∧ M.1 26 0 g = 2) ∧ (o = 3 ∨ o = 4 → g < lc) ∧ (o = 21 → g < k) ∧ (o = 24 → g < en ∧ M.1 26 0 g = 3 ∧ LF X M g)
theorem ent_N {X M : MS} {k en lc q o g : Nat} {f : Int32} (hP : RP X M en) (hk : k ≤ 5) (h9 : M.1 8 0 9 = nI k) (h23 : X.1 2 0 3 = nI k) (hx : X.1 4 q 3 = nI lc) (hm : M.1 34 0 q = nI lc) (hlc : lc ≤ 6) (ho : o < 25) (hg : g < 256) (hf : mHas (nI o) = true → f = nI g) : (entJ X q (nI o) f = true ↔ EnOk X M k en lc o g) ∧ (mEny M q (nI o) g = true ↔ EnOk X M k en lc o g) := by
  have hen := hP.1
  have ne : ∀ v, v < 25 → o ≠ v → ¬ nI o = nI v := fun v hv h z => h ((nI_o ho hv).mp z)
  have hb : ∀ v, mHas (nI v) = true → o = v → f = nI g := fun v hv h => hf (by rw [h]; exact hv)
  have hval : ∀ e, e < en → valueOfP X (nI e) = X.2.1 13 0 e := fun e he => hP.val he
  unfold entJ mEny EnOk
  rw [h9, hP.2.2.1, hx, hm]
  by_cases e1 : o = 1
  · subst e1
    rw [hb 1 (by decide) rfl, if_pos (show nI 1 = 1 from rfl), if_pos (show nI 1 = 1 from rfl), hP.tag (by omega), Bool.and_eq_true, Bool.and_eq_true, decide_eq_true_eq, decide_eq_true_eq, decide_eq_true_eq, nI_leI (by omega) (by omega)]
    refine ⟨⟨fun z => ⟨fun _ => z, fun y => by omega, fun y => by omega, fun y => by omega, fun y => by omega⟩, fun z => z.1 rfl⟩, ⟨fun z => ⟨fun _ => ⟨by omega, z.2⟩, fun y => by omega, fun y => by omega, fun y => by omega, fun y => by omega⟩, fun z => ⟨by have := (z.1 rfl).1; omega, (z.1 rfl).2⟩⟩⟩
  · rw [if_neg (show ¬ nI o = (1 : Int32) from ne 1 (by decide) e1), if_neg (show ¬ nI o = (1 : Int32) from ne 1 (by decide) e1)]
    by_cases e2 : o = 2
    · subst e2
      rw [hb 2 (by decide) rfl, if_pos (show nI 2 = 2 from rfl), if_pos (show nI 2 = 2 from rfl), hP.tag (by omega), Bool.and_eq_true, Bool.and_eq_true, decide_eq_true_eq, decide_eq_true_eq, decide_eq_true_eq, nI_leI (by omega) (by omega)]
      refine ⟨⟨fun z => ⟨fun y => by omega, fun _ => z, fun y => by omega, fun y => by omega, fun y => by omega⟩, fun z => z.2.1 rfl⟩, ⟨fun z => ⟨fun y => by omega, fun _ => ⟨by omega, z.2⟩, fun y => by omega, fun y => by omega, fun y => by omega⟩, fun z => ⟨by have := (z.2.1 rfl).1; omega, (z.2.1 rfl).2⟩⟩⟩
    · rw [if_neg (show ¬ nI o = (2 : Int32) from ne 2 (by decide) e2), if_neg (show ¬ nI o = (2 : Int32) from ne 2 (by decide) e2)]
      by_cases e3 : o = 3
      · subst e3
        rw [hb 3 (by decide) rfl, if_pos (show nI 3 = 3 ∨ nI 3 = 4 from Or.inl rfl), if_pos (show nI 3 = 3 from rfl), decide_eq_true_eq, nI_leI (by omega) (by omega)]
        refine ⟨⟨fun z => ⟨fun y => by omega, fun y => by omega, fun _ => by omega, fun y => by omega, fun y => by omega⟩, fun z => by have := z.2.2.1 (Or.inl rfl); omega⟩, ⟨fun z => ⟨fun y => by omega, fun y => by omega, fun _ => by omega, fun y => by omega, fun y => by omega⟩, fun z => by have := z.2.2.1 (Or.inl rfl); omega⟩⟩
      · by_cases e4 : o = 4
        · subst e4
          rw [hb 4 (by decide) rfl, if_pos (show nI 4 = 3 ∨ nI 4 = 4 from Or.inr rfl), if_neg (show ¬ nI 4 = 3 from by decide), if_pos (show nI 4 = 4 from rfl), decide_eq_true_eq, nI_leI (by omega) (by omega)]
          refine ⟨⟨fun z => ⟨fun y => by omega, fun y => by omega, fun _ => by omega, fun y => by omega, fun y => by omega⟩, fun z => by have := z.2.2.1 (Or.inr rfl); omega⟩, ⟨fun z => ⟨fun y => by omega, fun y => by omega, fun _ => by omega, fun y => by omega, fun y => by omega⟩, fun z => by have := z.2.2.1 (Or.inr rfl); omega⟩⟩
        · rw [if_neg (show ¬ (nI o = (3 : Int32) ∨ nI o = 4) from fun z => z.elim (ne 3 (by decide) e3) (ne 4 (by decide) e4)), if_neg (show ¬ nI o = (3 : Int32) from ne 3 (by decide) e3), if_neg (show ¬ nI o = (4 : Int32) from ne 4 (by decide) e4)]
          by_cases e21 : o = 21
          · subst e21
            have hok : okG X (nI g) = true ↔ g < k := by
              simp only [okG, h23, Bool.and_eq_true, decide_eq_true_eq]
              rw [nI_leI (by omega) (by omega), show (5 : Int32) = nI 5 from rfl, nI_leI (by omega) (by omega)]
              exact ⟨fun z => by omega, fun z => ⟨⟨nI_pos (by omega), by omega⟩, by omega⟩⟩
            rw [hb 21 (by decide) rfl, if_pos (show nI 21 = 21 from rfl), if_pos (show nI 21 = 21 from rfl), hok, decide_eq_true_eq, nI_leI (by omega) (by omega)]
            refine ⟨⟨fun z => ⟨fun y => by omega, fun y => by omega, fun y => by omega, fun _ => z, fun y => by omega⟩, fun z => z.2.2.2.1 rfl⟩, ⟨fun z => ⟨fun y => by omega, fun y => by omega, fun y => by omega, fun _ => by omega, fun y => by omega⟩, fun z => by have := z.2.2.2.1 rfl; omega⟩⟩
          · rw [if_neg (show ¬ nI o = (21 : Int32) from ne 21 (by decide) e21), if_neg (show ¬ nI o = (21 : Int32) from ne 21 (by decide) e21)]
            by_cases e24 : o = 24
            · subst e24
              have hgl : ∀ (hg2 : g < en), M.1 26 0 g = 3 → WD X M g := fun hg2 h3 => (hP.2.2.2 g hg2).wd h3
              rw [hb 24 (by decide) rfl, if_pos (show nI 24 = 24 from rfl), if_pos (show nI 24 = 24 from rfl), listedP, hP.tag (by omega)]
              simp only [Bool.and_eq_true, Bool.or_eq_true, decide_eq_true_eq]
              rw [nI_leI (by omega) (by omega)]
              refine ⟨⟨fun z => ?_, fun z => ?_⟩, ⟨fun z => ?_, fun z => ?_⟩⟩
              · obtain ⟨⟨z1, z2⟩, z3⟩ := z
                rw [hval g z1] at z3
                have z4 : X.2.1 13 0 g = 6382195 ∨ X.2.1 13 0 g = 1919905652 ∨ X.2.1 13 0 g = 439905906546 ∨ X.2.1 13 0 g = 1936287598 := by
                  rcases z3 with ((z | z) | z) | z
                  · exact Or.inl z
                  · exact Or.inr (Or.inl z)
                  · exact Or.inr (Or.inr (Or.inl z))
                  · exact Or.inr (Or.inr (Or.inr z))
                exact ⟨fun y => by omega, fun y => by omega, fun y => by omega, fun y => by omega, fun _ => ⟨z1, z2, (hgl z1 z2).lf ((hgl z1 z2).lst.mpr z4)⟩⟩
              · obtain ⟨z1, z2, z3⟩ := z.2.2.2.2 trivial
                rw [hval g z1]
                refine ⟨⟨z1, z2⟩, ?_⟩
                rcases z3 with ⟨z, -⟩ | ⟨z, -⟩ | ⟨z, -⟩ | ⟨z, -⟩
                · exact Or.inl (Or.inl (Or.inl z))
                · exact Or.inl (Or.inl (Or.inr z))
                · exact Or.inl (Or.inr z)
                · exact Or.inr z
              · obtain ⟨⟨z1, z2⟩, z3⟩ := z
                have z1 : g < en := by omega
                exact ⟨fun y => by omega, fun y => by omega, fun y => by omega, fun y => by omega, fun _ => ⟨z1, z2, (hgl z1 z2).lf z3⟩⟩
              · obtain ⟨z1, z2, z3⟩ := z.2.2.2.2 trivial
                refine ⟨⟨by omega, z2⟩, (hgl z1 z2).lst.mpr ?_⟩
                rcases z3 with ⟨z, -⟩ | ⟨z, -⟩ | ⟨z, -⟩ | ⟨z, -⟩
                · exact Or.inl z
                · exact Or.inr (Or.inl z)
                · exact Or.inr (Or.inr (Or.inl z))
                · exact Or.inr (Or.inr (Or.inr z))
            · rw [if_neg (show ¬ nI o = (24 : Int32) from ne 24 (by decide) e24), if_neg (show ¬ nI o = (24 : Int32) from ne 24 (by decide) e24)]
              exact ⟨⟨fun _ => ⟨fun y => absurd y e1, fun y => absurd y e2, fun y => by omega, fun y => absurd y e21, fun y => absurd y e24⟩, fun _ => rfl⟩, ⟨fun _ => ⟨fun y => absurd y e1, fun y => absurd y e2, fun y => by omega, fun y => absurd y e21, fun y => absurd y e24⟩, fun _ => rfl⟩⟩
