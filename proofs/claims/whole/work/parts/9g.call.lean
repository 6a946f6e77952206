/-! the two sides run alike: a CALL from outside begins, ends -/
theorem ST.g {X M X' M' : MS} {k en : Nat} (h : ST X M k en) (x : JX X X') (x17 : ∀ q d, X'.1 17 q d = X.1 17 q d) (m : JM M M') (m4 : ∀ b d, 43 ≤ b → b ≤ 46 → M'.1 b 0 d = M.1 b 0 d) : ST X' M' k en := ⟨h.1.j x m, fun q hq => (h.2 q hq).same x (fun d => x17 _ _) m m4⟩
/-- an argument given -/
theorem arg_N {X M : MS} {q i c t : Nat} {l0 st : Nat → Nat} {v : Int64} (h : TP X M 0 0 0 st (cut l0 i)) (hi : i < t) (ht : t ≤ 3) (ht4 : X.1 4 q 1 = nI t) (hK : KW (X.1 4 q 8) 0 (fun _ => 0) l0) (hc : l0 i = c) (hc2 : c = 1 ∨ c = 2) : TP (xmArg X q (nI i) v) (mGiveS M i (nI c) v) 0 0 0 st (cut l0 (i + 1)) ∧ FX X (xmArg X q (nI i) v) ∧ FM M (mGiveS M i (nI c) v) ∧ (∀ a b d, (xmArg X q (nI i) v).1 a b d = X.1 a b d) ∧ (∀ a b d, a ≠ 20 → (xmArg X q (nI i) v).2.1 a b d = X.2.1 a b d) ∧ (∀ a b d, a ≠ 53 → (mGiveS M i (nI c) v).1 a b d = M.1 a b d) ∧ (mGiveS M i (nI c) v).2.1 = M.2.1 := by
  have hle : ¬ X.1 4 q 1 ≤ nI i := by rw [ht4, nI_leI (by omega) (by omega)]; omega
  have hkl : kLocal (X.1 4 q 8) (nI i) = nI c := by rw [hK.loc (by omega), hc]
  have hsl : ∀ u, xmSetLoc X (nI i) u = wL X 20 0 (6 * 0 + i) u := fun u => xmSetLoc_N h.1 (by decide) (by omega)
  rw [Nat.mul_zero, Nat.zero_add] at hsl
  obtain ⟨t1, t2, t3, t4, t5, t6, t7, t8, t9⟩ := h
  have key : ∀ (u : Int64) (N : MS), xmArg X q (nI i) v = wL X 20 0 i u → mGiveS M i (nI c) v = N → (∀ a b d, a ≠ 53 → N.1 a b d = M.1 a b d) → N.2.1 = M.2.1 → (∀ d, d ≠ i → N.1 53 0 d = M.1 53 0 d) → (∀ d, d ≠ i → N.2.2 54 0 d = M.2.2 54 0 d) → (∀ a b d, a ≠ 54 → N.2.2 a b d = M.2.2 a b d) → VR c u (N.1 53 0 i) (N.2.2 54 0 i) → TP (xmArg X q (nI i) v) (mGiveS M i (nI c) v) 0 0 0 st (cut l0 (i + 1)) ∧ FX X (xmArg X q (nI i) v) ∧ FM M (mGiveS M i (nI c) v) ∧ (∀ a b d, (xmArg X q (nI i) v).1 a b d = X.1 a b d) ∧ (∀ a b d, a ≠ 20 → (xmArg X q (nI i) v).2.1 a b d = X.2.1 a b d) ∧ (∀ a b d, a ≠ 53 → (mGiveS M i (nI c) v).1 a b d = M.1 a b d) ∧ (mGiveS M i (nI c) v).2.1 = M.2.1 := fun u N e1 e2 n1 n2 n3 n4 n5 hv => by
    rw [e1, e2]
    refine ⟨⟨by rw [wL_1]; exact t1, by rw [n1 _ _ _ (by decide)]; exact t2, t3, t4, t5, by rw [wL_1]; exact t6, by rw [n1 _ _ _ (by decide)]; exact t7, fun j hj => absurd hj (by omega), fun l hl => ?_⟩, ⟨fun a b d _ _ _ _ => by rw [wL_1], fun a b d _ _ a3 => wL_o _ _ _ _ _ _ _ _ (fun z => a3 z.1)⟩, ⟨fun a b d _ _ _ a4 _ => n1 a b d a4, fun a b d _ => by rw [n2], fun a b d a1 => n5 a b d a1⟩, fun a b d => by rw [wL_1], fun a b d a1 => wL_o _ _ _ _ _ _ _ _ (fun z => a1 z.1), n1, n2⟩
    by_cases hli : l = i
    · subst hli
      rw [Nat.mul_zero, Nat.zero_add, wL_rd, cut_at (by omega), hc]
      exact hv
    · have e : cut l0 (i + 1) l = cut l0 i l := by
        by_cases hlt : l < i
        · rw [cut_at (by omega), cut_at hlt]
        · rw [cut_ge (by omega), cut_ge (by omega)]
      rw [e, wL_o _ _ _ _ _ _ _ _ (fun z => by have := z.2.2; omega)]
      have h9 := t9 l hl
      rw [Nat.mul_zero, Nat.zero_add] at h9
      rw [Nat.mul_zero, Nat.zero_add, n3 l hli, n4 l hli]
      exact h9
  rcases hc2 with rfl | rfl
  · refine key _ (wI M 53 0 i v.toInt32) (by rw [xmArg, if_neg hle, hkl, if_pos (show nI 1 = 1 from rfl), hsl]) (by rw [mGiveS, if_pos (show nI 1 = 1 from rfl)]) (fun a b d h => wI_o _ _ _ _ _ _ _ _ (fun z => h z.1)) (by rw [wI_2]) (fun d h => wI_o _ _ _ _ _ _ _ _ (fun z => h z.2.2)) (fun d _ => by rw [wI_2]) (fun a b d _ => by rw [wI_2]) (VR.i (by rw [wI_rd]))
  · refine key _ (wD M 54 0 i (mDo v)) (by rw [xmArg, if_neg hle, hkl, if_neg (by decide), hsl]) (by rw [mGiveS, if_neg (by decide)]) (fun a b d _ => by rw [wD_1]) (by rw [wD_l]) (fun d _ => by rw [wD_1]) (fun d h => wD_o _ _ _ _ _ _ _ _ (fun z => h z.2.2)) (fun a b d h => wD_o _ _ _ _ _ _ _ _ (fun z => h z.1)) (VR.d (by rw [wD_rd]; exact D_all.can v))
theorem arg_ge {X : MS} {q i t : Nat} {v : Int64} (ht : t ≤ 3) (hi : i ≤ 2) (h : t ≤ i) (ht4 : X.1 4 q 1 = nI t) : xmArg X q (nI i) v = X := by
  rw [xmArg, if_pos (by rw [ht4, nI_leI (by omega) (by omega)]; exact h)]
/-- all arguments -/
theorem args_N {X M : MS} {q t : Nat} {l0 st : Nat → Nat} {a b c : Int64} (h : TP X M 0 0 0 st (cut l0 0)) (ht : t ≤ 3) (ht4 : X.1 4 q 1 = nI t) (hK : KW (X.1 4 q 8) 0 (fun _ => 0) l0) (hM : ∀ l, l < t → M.1 32 0 (3 * q + l) = nI (l0 l) ∧ (l0 l = 1 ∨ l0 l = 2)) : ∃ X' M', xmArg (xmArg (xmArg X q 0 a) q 1 b) q 2 c = X' ∧ gvGo q a b c t 0 M = M' ∧ TP X' M' 0 0 0 st (cut l0 t) ∧ FX X X' ∧ FM M M' ∧ (∀ a b d, X'.1 a b d = X.1 a b d) ∧ (∀ a b d, a ≠ 20 → X'.2.1 a b d = X.2.1 a b d) ∧ (∀ a b d, a ≠ 53 → M'.1 a b d = M.1 a b d) ∧ M'.2.1 = M.2.1 := by
  have i0 : (0 : Int32) = nI 0 := rfl
  have i1 : (1 : Int32) = nI 1 := rfl
  have i2 : (2 : Int32) = nI 2 := rfl
  have b0 : mArgB a b c 0 = a := by rw [mArgB, if_pos (show nI 0 = 0 from rfl)]
  have b1 : mArgB a b c 1 = b := by rw [mArgB, if_neg (by decide), if_pos (show nI 1 = 1 from rfl)]
  have b2 : mArgB a b c 2 = c := by rw [mArgB, if_neg (by decide), if_neg (by decide)]
  by_cases t0 : t = 0
  · subst t0
    have e1 : xmArg X q 0 a = X := arg_ge (by decide) (by decide) (by decide) ht4
    have e2 : xmArg X q 1 b = X := arg_ge (by decide) (by decide) (by decide) ht4
    have e3 : xmArg X q 2 c = X := arg_ge (by decide) (by decide) (by decide) ht4
    rw [e1, e2, e3]
    exact ⟨X, M, rfl, rfl, h, FX.rf X, FM.rf M, fun _ _ _ => rfl, fun _ _ _ _ => rfl, fun _ _ _ _ => rfl, rfl⟩
  obtain ⟨p1, p2, p3, p4, p5, p6, p7⟩ := arg_N (v := a) h (show 0 < t by omega) ht ht4 hK rfl (hM 0 (by omega)).2
  have eg : ∀ n, gvGo q a b c (n + 1) 0 M = gvGo q a b c n 1 (mGiveS M 0 (nI (l0 0)) a) := fun n => by rw [gvGo, (hM 0 (by omega)).1, b0]
  rw [← i0] at p1 p2 p4 p5
  have ht41 : (xmArg X q 0 a).1 4 q 1 = nI t := by rw [p4]; exact ht4
  by_cases t1 : t = 1
  · subst t1
    have e2 : xmArg (xmArg X q 0 a) q 1 b = xmArg X q 0 a := arg_ge (by decide) (by decide) (by decide) ht41
    have e3 : xmArg (xmArg X q 0 a) q 2 c = xmArg X q 0 a := arg_ge (by decide) (by decide) (by decide) ht41
    rw [e2, e3, eg]
    exact ⟨_, _, rfl, rfl, p1, p2, p3, p4, p5, p6, p7⟩
  have hM1 : (mGiveS M 0 (nI (l0 0)) a).1 32 0 (3 * q + 1) = nI (l0 1) := by rw [p6 _ _ _ (by decide)]; exact (hM 1 (by omega)).1
  obtain ⟨r1, r2, r3, r4, r5, r6, r7⟩ := arg_N (v := b) p1 (show 1 < t by omega) ht ht41 (by rw [p4]; exact hK) rfl (hM 1 (by omega)).2
  have eg2 : ∀ n, gvGo q a b c (n + 1) 1 (mGiveS M 0 (nI (l0 0)) a) = gvGo q a b c n 2 (mGiveS (mGiveS M 0 (nI (l0 0)) a) 1 (nI (l0 1)) b) := fun n => by rw [gvGo, hM1, b1]
  rw [← i1] at r1 r2 r4 r5
  have ht42 : (xmArg (xmArg X q 0 a) q 1 b).1 4 q 1 = nI t := by rw [r4]; exact ht41
  by_cases t2 : t = 2
  · subst t2
    have e3 : xmArg (xmArg (xmArg X q 0 a) q 1 b) q 2 c = xmArg (xmArg X q 0 a) q 1 b := arg_ge (by decide) (by decide) (by decide) ht42
    rw [e3, eg, eg2]
    exact ⟨_, _, rfl, rfl, r1, p2.tr r2, p3.tr r3, fun a' b' d' => (r4 _ _ _).trans (p4 _ _ _), fun a' b' d' h1 => (r5 _ _ _ h1).trans (p5 _ _ _ h1), fun a' b' d' h1 => (r6 _ _ _ h1).trans (p6 _ _ _ h1), r7.trans p7⟩
  have t3 : t = 3 := by omega
  subst t3
  have hM2 : (mGiveS (mGiveS M 0 (nI (l0 0)) a) 1 (nI (l0 1)) b).1 32 0 (3 * q + 2) = nI (l0 2) := by rw [r6 _ _ _ (by decide), p6 _ _ _ (by decide)]; exact (hM 2 (by omega)).1
  obtain ⟨s1, s2, s3, s4, s5, s6, s7⟩ := arg_N (v := c) r1 (show 2 < 3 by omega) ht ht42 (by rw [r4, p4]; exact hK) rfl (hM 2 (by omega)).2
  rw [← i2] at s1 s2 s4 s5
  rw [eg, eg2, gvGo, hM2, b2]
  exact ⟨_, _, rfl, rfl, s1, (p2.tr r2).tr s2, (p3.tr r3).tr s3, fun a' b' d' => (s4 _ _ _).trans ((r4 _ _ _).trans (p4 _ _ _)), fun a' b' d' h1 => (s5 _ _ _ h1).trans ((r5 _ _ _ h1).trans (p5 _ _ _ h1)), fun a' b' d' h1 => (s6 _ _ _ h1).trans ((r6 _ _ _ h1).trans (p6 _ _ _ h1)), s7.trans (r7.trans p7)⟩
