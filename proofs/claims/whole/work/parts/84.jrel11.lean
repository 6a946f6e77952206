/-! the two sides judge alike: a METHOD -/
theorem mmpGo_stop (m : Nat) : ∀ (n i : Nat) (S : MS), ¬ S.1 8 0 28 = 0 → mmpGo m n i S = S
  | 0, _, _, _ => rfl
  | n + 1, i, S, h => by rw [mmpGo, if_neg h]
theorem J_mp {X0 M : MS} {k en q lc stk L mp gq : Nat} {pl : Nat → Nat} (hC : Ctx X0 M k en q lc stk L mp gq pl) (h28 : M.1 8 0 28 = 0) (hJ : ∀ p', p' < L → (X0.1 17 q p' = -1 ∧ M.1 43 0 (48 * q + p') = 0) ∨ (X0.1 17 q p' ≠ -1 ∧ M.1 43 0 (48 * q + p') = 1)) : ∀ (n i : Nat) (X : MS), XQ X0 X q → (∀ c d, X.1 17 c d = X0.1 17 c d) → i + n = 9 → i ≤ mp → ∃ X' M', XQ X0 X' q ∧ (∀ c d, X'.1 17 c d = X0.1 17 c d) ∧ JN M M' ∧ mmpGo q (mp - i) i M = M' ∧
    ((∃ j, j < mp ∧ mpGo X q n i = (11, X') ∧ X'.1 6 0 0 = nI (pl j) ∧ M'.1 8 0 28 = 11 ∧ M'.1 8 0 29 = nI (pl j)) ∨ (mpGo X q n i = (0, X') ∧ M' = M ∧ ∀ j, i ≤ j → j < mp → X0.1 17 q (pl j) ≠ -1))
  | 0, i, X, hX, h17, hn, hi => by
    have := hC.2.2.2.1.2.2.1
    omega
  | n + 1, i, X, hX, h17, hn, hi => by
    obtain ⟨c1, c2, c3, c4, c5⟩ := hC.2.2.2.1
    have hL48 := hC.2.2.1.2.2.2.2.1
    have x45 : X.1 4 q 5 = nI L := (hX.1.1 _ _ _ (by decide) (by first | decide | exact KX_ne (by decide))).trans hC.2.2.1.2.2.2.2.2.2.2.2.2.1
    have x46 : X.1 4 q 6 = nI mp := (hX.1.1 _ _ _ (by decide) (by first | decide | exact KX_ne (by decide))).trans c1
    rw [mpGo, x46]
    by_cases h1 : nI mp ≤ nI i
    · rw [if_pos h1]
      rw [nI_leI (by omega) (by omega)] at h1
      rw [show mp - i = 0 by omega]
      exact ⟨X, M, hX, h17, ⟨fun _ _ _ _ => rfl, rfl⟩, rfl, Or.inr ⟨rfl, rfl, fun j a b => by omega⟩⟩
    · rw [if_neg h1]
      have h1' := h1
      rw [nI_leI (by omega) (by omega)] at h1'
      obtain ⟨r, hr⟩ : ∃ r, mp - i = r + 1 := ⟨mp - i - 1, by omega⟩
      have hr2 : mp - (i + 1) = r := by rw [Nat.sub_succ, hr]; rfl
      obtain ⟨o1, o2, o3, -⟩ := c4 i (by omega)
      have hpl : mapPlaceM X q (nI i) = nI (pl i) := by
        rw [mapPlaceM, x46, if_pos ⟨nI_pos (by omega), h1, (nI_guard (N := 8) (M := 8) rfl (by omega) (by decide)).2⟩, nI_c (by omega), hX.1.1 _ _ _ (by decide) (by first | decide | exact KX_ne (by decide))]
        exact o2
      have hka : kindsAtM X q (nI (pl i)) = X0.1 17 q (pl i) := by
        rw [kindsAtM, x45, if_pos ⟨nI_pos (by omega), by rw [nI_leI (by omega) (by omega)]; omega, (nI_guard (N := 48) (M := 48) rfl (by omega) (by decide)).2⟩, nI_c (by omega), h17]
      have hm1 : mmpGo q (mp - i) i M = mmpGo q r (i + 1) (mmp1 M q i) := by rw [hr, mmpGo, if_pos h28]
      have hc : (M.1 39 0 (8 * q + i)).toNatClampNeg = pl i := by rw [o3, nI_c (by omega)]
      have hw := wJ6 X q 0 (nI (pl i))
      have h17w : ∀ c d, (wI X 6 0 0 (nI (pl i))).1 17 c d = X0.1 17 c d := fun c d => (wI_o _ _ _ _ _ _ _ _ (fun z => absurd z.1 (by decide))).trans (h17 c d)
      rw [hpl, hka, hm1, mmp1, hc, o3]
      rcases hJ (pl i) o1 with ⟨a1, a2⟩ | ⟨a1, a2⟩
      · rw [if_pos a1, if_pos a2]
        have hb := mFaultS_b (S := M) 11 (nI (pl i)) h28
        refine ⟨wI X 6 0 0 (nI (pl i)), mFaultS M 11 (nI (pl i)), hX.tr hw, h17w, mFaultS_jn _ _, mmpGo_stop _ _ _ _ (by rw [hb.1]; decide), Or.inl ⟨i, by omega, rfl, wI_rd _ _ _ _ _, hb.1, hb.2⟩⟩
      · rw [if_neg a1, if_neg (by rw [a2]; decide)]
        obtain ⟨X', M', k1, k2, k3, k4, k5⟩ := J_mp hC h28 hJ n (i + 1) (wI X 6 0 0 (nI (pl i))) (hX.tr hw) h17w (by omega) (by omega)
        rw [hr2] at k4
        refine ⟨X', M', k1, k2, k3, k4, ?_⟩
        rcases k5 with k5 | ⟨k5, k6, k7⟩
        · exact Or.inl k5
        · refine Or.inr ⟨k5, k6, fun j b1 b2 => ?_⟩
          by_cases hji : j = i
          · rw [hji]; exact a1
          · exact k7 j (by omega) b2
/-- kinds that flow to a judged place -/
def Fl (X M : MS) (q L : Nat) (e d2 : Nat) (s2 l2 : Nat → Nat) : Prop := e < L ∧ ∃ d3 s3 l3, JK X M q e d3 s3 l3 ∧ FitK d2 s2 l2 d3 s3 l3
/-- a METHOD judged, and sound -/
def RJx (X M : MS) (k en q lc stk L mp gq : Nat) (pl l0 : Nat → Nat) : Prop := Ctx X M k en q lc stk L mp gq pl ∧ KW (X.1 4 q 8) 0 (fun _ => 0) l0 ∧ Fl X M q L 0 0 (fun _ => 0) l0 ∧ (∀ p', p' < 48 → NoJ X M q p' ∨ (p' < L ∧ Jdg X M k en q L lc stk mp pl (Fl X M q L) p')) ∧ ∀ j, j < mp → ¬ NoJ X M q (pl j)
def RJ (X M : MS) (k en q : Nat) : Prop := ∃ lc stk L mp gq pl l0, RJx X M k en q lc stk L mp gq pl l0
theorem JK.j {X M X' M' : MS} {q q' p d : Nat} {st lo : Nat → Nat} (h : JK X M q p d st lo) (x : XQ X X' q') (m : MJQ M M' q') (hne : q ≠ q') (hp : p < 48) : JK X' M' q p d st lo := by
  obtain ⟨a1, a2, a3⟩ := m.2 (48 * q + p) (by omega)
  exact h.same (x.2 _ _ hne) a1 a2 a3
theorem RJ.j {X M X' M' : MS} {k en q q' : Nat} (h : RJ X M k en q) (x : XQ X X' q') (m : MJQ M M' q') (hne : q ≠ q') : RJ X' M' k en q := by
  obtain ⟨lc, stk, L, mp, gq, pl, l0, hC, hk, hF, hall, hmp⟩ := h
  have hL48 := hC.2.2.1.2.2.2.2.1
  have hFl : ∀ e d2 s2 l2, Fl X M q L e d2 s2 l2 → Fl X' M' q L e d2 s2 l2 := fun e d2 s2 l2 ⟨z1, d3, s3, l3, z2, z3⟩ => ⟨z1, d3, s3, l3, z2.j x m hne (by omega), z3⟩
  have hN : ∀ p', p' < 48 → (NoJ X' M' q p' ↔ NoJ X M q p') := fun p' hp' => by
    rw [NoJ, NoJ, x.2 _ _ hne, (m.2 (48 * q + p') (by omega)).1]
  refine ⟨lc, stk, L, mp, gq, pl, l0, hC.j x.1 m.1, by rw [x.1.1 _ _ _ (by decide) (by first | decide | exact KX_ne (by decide))]; exact hk, hFl _ _ _ _ hF, fun p' hp' => ?_, fun j hj z => hmp j hj ((hN _ (by have := (hC.2.2.2.1.2.2.2.1 j hj).1; omega)).mp z)⟩
  rcases hall p' hp' with a | ⟨a1, o', g', d', s', l', a2, a3, a4, a5, a6, a7⟩
  · exact Or.inl ((hN p' hp').mpr a)
  · refine Or.inr ⟨a1, o', g', d', s', l', (m.1.1 _ _ _ (NR_b (by decide) (by decide))).trans a2, a3.j x.1 m.1, a4.j x m hne hp', a5, fun j hj hjp => (a6 j hj hjp).j x.1 m.1, fun z1 z2 => ?_⟩
    rw [afD_j m.1 o' g' d' s' l', afS_j m.1 o' g' d' s' l']
    exact hFl _ _ _ _ (a7 z1 z2)
theorem bgGo_at (m d : Nat) : ∀ (n i : Nat) (S : MS), (bgGo m n i S).1 43 0 d = if 48 * m + i ≤ d ∧ d < 48 * m + i + n then 0 else S.1 43 0 d
  | 0, i, S => by rw [if_neg (by omega)]; rfl
  | n + 1, i, S => by
    rw [bgGo, bgGo_at m d n (i + 1)]
    by_cases hd : d = 48 * m + i
    · rw [hd, if_neg (by omega), if_pos (by omega), wI_rd]
    · rw [wI_o _ _ _ _ _ _ _ _ (fun z => hd z.2.2)]
      by_cases h : 48 * m + i ≤ d ∧ d < 48 * m + i + (n + 1)
      · rw [if_pos (by omega), if_pos h]
      · rw [if_neg (by omega), if_neg h]
theorem ltGo_at (m d : Nat) : ∀ (n i : Nat) (S : MS), (ltGo m n i S).1 49 0 d = if i ≤ d ∧ d < i + n then (if S.1 31 0 m ≤ nI d then 0 else S.1 32 0 (3 * m + d)) else S.1 49 0 d
  | 0, i, S => by rw [if_neg (by omega)]; rfl
  | n + 1, i, S => by
    rw [ltGo, ltGo_at m d n (i + 1)]
    rw [wI_o _ _ _ _ 31 _ _ _ (fun z => absurd z.1 (by decide)), wI_o _ _ _ _ 32 _ _ _ (fun z => absurd z.1 (by decide))]
    by_cases hd : d = i
    · rw [hd, if_neg (show ¬ (i + 1 ≤ i ∧ i < i + 1 + n) by omega), if_pos (show i ≤ i ∧ i < i + (n + 1) by omega), wI_rd]
    · rw [wI_o _ _ _ _ _ _ _ _ (fun z => hd z.2.2)]
      by_cases h : i ≤ d ∧ d < i + (n + 1)
      · rw [if_pos (by omega), if_pos h]
      · rw [if_neg (by omega), if_neg h]
theorem bgGo_2 (m : Nat) : ∀ (n i : Nat) (S : MS), (bgGo m n i S).2 = S.2
  | 0, _, _ => rfl
  | n + 1, i, S => by rw [bgGo, bgGo_2 m n, wI_2]
theorem ltGo_2 (m : Nat) : ∀ (n i : Nat) (S : MS), (ltGo m n i S).2 = S.2
  | 0, _, _ => rfl
  | n + 1, i, S => by rw [ltGo, ltGo_2 m n, wI_2]
theorem mjg1_o (M : MS) (q b c d : Nat) (h : b ≠ 49) (h43 : b ≠ 43) (h8 : b = 8 → d ≠ 33 ∧ d ≠ 32) : (mjg1 M q).1 b c d = M.1 b c d := by
  rw [mjg1, wI_o _ _ _ _ _ _ _ _ (fun z => (h8 z.1).2 z.2.2), wI_o _ _ _ _ _ _ _ _ (fun z => (h8 z.1).1 z.2.2), mjg0, ltGo_o _ _ _ _ h, bgGo_o _ _ _ _ h43]
theorem mjg1_43 (M : MS) (q d : Nat) : (mjg1 M q).1 43 0 d = if 48 * q ≤ d ∧ d < 48 * q + 48 then 0 else M.1 43 0 d := by
  rw [mjg1, wI_o _ _ _ _ _ _ _ _ (fun z => absurd z.1 (by decide)), wI_o _ _ _ _ _ _ _ _ (fun z => absurd z.1 (by decide)), mjg0, ltGo_o _ _ _ _ (by decide), bgGo_at, Nat.add_zero]
theorem jm0_q (X : MS) (q : Nat) : XQ X (jm0 X q) q := by
  refine ⟨⟨fun b c d h6 h17 => ?_, fun _ => rfl⟩, fun c d h => ?_⟩
  · rw [jm0, wI_o _ _ _ _ _ _ _ _ (fun z => h6 z.1), wI_o _ _ _ _ _ _ _ _ (fun z => h6 z.1), clrJ_o _ _ _ _ _ _ h17.1]
  · rw [jm0, wI_o _ _ _ _ _ _ _ _ (fun z => absurd z.1 (by decide)), wI_o _ _ _ _ _ _ _ _ (fun z => absurd z.1 (by decide))]
    exact if_neg (fun z => h z.2.1)
theorem mjg1_q (M : MS) (q : Nat) : MJQ M (mjg1 M q) q := by
  refine ⟨⟨fun b c d h => mjg1_o _ _ _ _ _ h.1.1.2.1 h.1.2.1 (fun z => ⟨(h.1.1.2.2 z).2.2.2, (h.1.1.2.2 z).2.2.1⟩), fun d => by rw [mjg1, wI_2, wI_2, mjg0, ltGo_2, bgGo_2]⟩, fun a h => ⟨?_, ?_, fun i hi => ⟨?_, ?_⟩⟩⟩
  · rw [mjg1_43, if_neg (by omega)]
  · exact mjg1_o _ _ _ _ _ (by decide) (by decide) (fun z => absurd z (by decide))
  · exact mjg1_o _ _ _ _ _ (by decide) (by decide) (fun z => absurd z (by decide))
  · exact mjg1_o _ _ _ _ _ (by decide) (by decide) (fun z => absurd z (by decide))
theorem JI.start {X M : MS} {k en q : Nat} (hR : RFile X M k en) (hq : q < k) (h28 : M.1 8 0 28 = 0) : ∃ lc stk L mp gq pl l0, KW (X.1 4 q 8) 0 (fun _ => 0) l0 ∧ JI (jm0 X q) (mjg1 M q) k en q lc stk L mp gq pl 0 0 (fun _ => 0) l0 true l0 := by
  obtain ⟨lc, stk, L, mp, gq, pl, hC⟩ := hR.ctx hq
  have hx := jm0_q X q
  have hm := mjg1_q M q
  have hC2 := hC
  obtain ⟨-, -, hH, -, -, -, hTG⟩ := hC2
  obtain ⟨t, g, lc', st', L', mp', ⟨b1, b2, b3, b4⟩, -, hH', -, -, -⟩ := hR.2.2.2.2.2.2.2 q hq
  have hlc : lc' = lc := by
    have e1 := hH.2.2.2.2.2.1
    have e2 := hH'.2.2.2.2.2.1
    have h1 := hH.1
    have h2 := hH'.1
    rw [e1, nI_eq (by omega) (by omega)] at e2
    exact e2.symm
  obtain ⟨t2, gg, hT⟩ := hTG q hq
  obtain ⟨c1, c2, c3, -, -, -, -, l0, k1, k2, k3⟩ := hT
  have htt : t2 = t := by
    rw [b1, nI_eq (by omega) (by omega)] at c1
    exact c1.symm
  have hl2 : ∀ l, l0 l ≤ 2 := fun l => by
    by_cases hl : l < t2
    · exact (k2 l hl).2.2
    · rw [k3 l (by omega)]; decide
  refine ⟨lc, stk, L, mp, gq, pl, l0, k1, hC.j hx.1 hm.1, ⟨?_, ?_, fun i hi => absurd hi (Nat.not_lt_zero _), fun l hl => ?_, fun l hl => k3 l (by omega), Nat.zero_le _, fun i hi => absurd hi (Nat.not_lt_zero _), hl2⟩, ?_, ?_, ?_, Nat.zero_le _, Or.inl ⟨rfl, rfl, rfl, rfl, rfl⟩, fun p' hp' => Or.inl ⟨?_, ?_⟩⟩
  · rw [jm0, wI_o _ _ _ _ _ _ _ _ (by decide), wI_rd]; exact k1
  · rw [mjg1, wI_o _ _ _ _ _ _ _ _ (by decide), wI_rd]; rfl
  · rw [mjg1, wI_o _ _ _ _ _ _ _ _ (fun z => absurd z.1 (by decide)), wI_o _ _ _ _ _ _ _ _ (fun z => absurd z.1 (by decide)), mjg0, ltGo_at, if_pos (by omega), bgGo_o _ _ _ _ (by decide), bgGo_o _ _ _ _ (by decide), c2]
    by_cases h : l < t2
    · rw [if_neg (by rw [nI_leI (by omega) (by omega)]; omega)]; exact (k2 l h).1
    · rw [if_pos (by rw [nI_leI (by omega) (by omega)]; omega), k3 l (by omega)]; rfl
  · rw [jm0, wI_rd]; rfl
  · rw [mjg1, wI_rd]; rfl
  · rw [mjg1_o _ _ _ _ _ (by decide) (by decide) (fun _ => by decide)]; exact h28
  · rw [jm0, wI_o _ _ _ _ _ _ _ _ (fun z => absurd z.1 (by decide)), wI_o _ _ _ _ _ _ _ _ (fun z => absurd z.1 (by decide))]
    exact if_pos ⟨rfl, rfl, hp'⟩
  · rw [mjg1_43, if_pos (by omega)]
/-- a METHOD is judged alike -/
theorem J_meth {X M : MS} {k en q : Nat} {tk : Nat → Nat} (hR : RFile X M k en) (hq : q < k) (h28 : M.1 8 0 28 = 0) (htk : ∀ j, j < 5 → X.1 4 j 1 = nI (tk j) ∧ tk j ≤ 3) : ∃ X' M', (jmGo q tk 50 0 (jm0 X q)).2 = X' ∧ mjgS M q = M' ∧ XQ X X' q ∧ MJQ M M' q ∧
    ((∃ (w : Int32) (p' : Nat), w ≠ 0 ∧ p' < 48 ∧ (jmGo q tk 50 0 (jm0 X q)).1 = w ∧ X'.1 6 0 0 = nI p' ∧ M'.1 8 0 28 = w ∧ M'.1 8 0 29 = nI p') ∨ ((jmGo q tk 50 0 (jm0 X q)).1 = 0 ∧ M'.1 8 0 28 = 0 ∧ RJ X' M' k en q)) := by
  obtain ⟨lc, stk, L, mp, gq, pl, l0, k1, hI⟩ := JI.start hR hq h28
  have hx := jm0_q X q
  have hm := mjg1_q M q
  have htk' : ∀ j, j < 5 → (jm0 X q).1 4 j 1 = nI (tk j) ∧ tk j ≤ 3 := fun j hj => by rw [hx.1.1 _ _ _ (by decide) (by first | decide | exact KX_ne (by decide))]; exact htk j hj
  have hMp := hI.1.2.2.2.1
  have hmp : (M.1 38 0 q).toNatClampNeg = mp := by
    rw [← hm.1.1 38 0 q (NR_b (by decide) (by decide)), hMp.2.1, nI_c (by have := hMp.2.2.1; omega)]
  obtain ⟨X1, M1, j1, j2, j3, j4⟩ := J_loop 50 0 _ _ _ _ _ _ (by decide) hI htk'
  rw [mjgS, mjg2, hmp, j3]
  rcases j4 with ⟨w, p', w1, w2, w3, w4, w5, w6⟩ | ⟨w1, d', st', lo', h', hI'⟩
  · rw [w3, mmpGo_stop _ _ _ _ (by rw [w5]; exact w1)]
    exact ⟨X1, M1, rfl, rfl, hx.tr j1, hm.tr j2, Or.inl ⟨w, p', w1, w2, rfl, w4, w5, w6⟩⟩
  · rw [w1]
    obtain ⟨hC, hK, i1, i2, i28, -, hF0, hall⟩ := hI'
    have hL1 : 1 ≤ L := hC.2.2.1.2.2.2.1
    have hL48 := hC.2.2.1.2.2.2.2.1
    have hJ : ∀ p', p' < L → (X1.1 17 q p' = -1 ∧ M1.1 43 0 (48 * q + p') = 0) ∨ (X1.1 17 q p' ≠ -1 ∧ M1.1 43 0 (48 * q + p') = 1) := fun p' hp' => by
      rcases hall p' (by omega) with a | ⟨a1, o', g', d', s', l', a2, a3, a4, a5⟩
      · exact Or.inl a
      · exact Or.inr ⟨a4.1.nm1, a4.2.1⟩
    obtain ⟨X2, M2, n1, n2, n3, n4, n5⟩ := J_mp hC i28 hJ 9 0 X1 (XQ.rf X1 q) (fun _ _ => rfl) rfl (Nat.zero_le _)
    rw [Nat.sub_zero] at n4
    rw [n4]
    have hm2 := hm.tr (j2.tr (n3.q q))
    have hx2 := hx.tr (j1.tr n1)
    rcases n5 with ⟨j, o1, o2, o3, o4, o5⟩ | ⟨o1, o2, o3⟩
    · rw [o2]
      exact ⟨X2, M2, rfl, rfl, hx2, hm2, Or.inl ⟨11, pl j, by decide, by have := (hC.2.2.2.1.2.2.2.1 j o1).1; omega, rfl, o3, o4, o5⟩⟩
    · rw [o1]
      subst o2
      have hJKw : ∀ e d s l, JK X1 M2 q e d s l → JK X2 M2 q e d s l := fun e d s l z => z.same (n2 _ _) rfl rfl (fun _ _ => ⟨rfl, rfl⟩)
      have hFl : ∀ e d2 s2 l2, e < L → Flow X1 M2 q L h' d' st' lo' e d2 s2 l2 → Fl X2 M2 q L e d2 s2 l2 := fun e d2 s2 l2 he z => by
        rcases z with ⟨z, -⟩ | ⟨z1, d3, s3, l3, z2, z3⟩
        · omega
        · exact ⟨z1, d3, s3, l3, hJKw _ _ _ _ z2, z3⟩
      refine ⟨X2, M2, rfl, rfl, hx2, hm2, Or.inr ⟨rfl, i28, lc, stk, L, mp, gq, pl, l0, hC.j n1.1 (JM.rf M2), ?_, hFl _ _ _ _ (by omega) hF0, fun p' hp' => ?_, fun j hj z => o3 j (Nat.zero_le _) hj ((n2 _ _).symm.trans z.1)⟩⟩
      · rw [hx2.1.1 _ _ _ (by decide) (by first | decide | exact KX_ne (by decide))]; exact k1
      · rcases hall p' hp' with ⟨a1, a2⟩ | ⟨a1, o', g', e', s', l', a2, a3, a4, a5, a6, a7⟩
        · exact Or.inl ⟨(n2 _ _).trans a1, a2⟩
        · exact Or.inr ⟨a1, o', g', e', s', l', a2, a3.j n1.1 (JM.rf M2), hJKw _ _ _ _ a4, a5, fun j hj hjp => (a6 j hj hjp).j n1.1 (JM.rf M2), fun z1 z2 => hFl _ _ _ _ (a3.2.2.1 z1 z2) (a7 z1 z2)⟩
