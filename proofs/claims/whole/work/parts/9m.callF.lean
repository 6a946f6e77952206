/-! the face alike: call -/
/-- what a CALL from outside leaves -/
def GX (X X' : MS) : Prop := (∀ c e d, c ≠ 7 → c ≠ 21 → c ≠ 22 → c ≠ 23 → ¬ (c = 0 ∧ e = 0 ∧ d = 6) → X'.1 c e d = X.1 c e d) ∧ ∀ c e d, c ≠ 7 → c ≠ 19 → c ≠ 20 → X'.2.1 c e d = X.2.1 c e d
def GM (M M' : MS) : Prop := (∀ c e d, c ≠ 50 → c ≠ 51 → c ≠ 52 → c ≠ 53 → ¬ (c = 8 ∧ (d = 30 ∨ d = 36 ∨ d = 42 ∨ d = 44 ∨ d = 45 ∨ d = 46 ∨ d = 47 ∨ d = 48)) → M'.1 c e d = M.1 c e d) ∧ (∀ c e d, ¬ (c = 8 ∧ d = 43) → M'.2.1 c e d = M.2.1 c e d) ∧ ∀ c e d, c ≠ 54 → M'.2.2 c e d = M.2.2 c e d
theorem GX.f {A B C : MS} (h : GX A B) (g : FX B C) : GX A C := ⟨fun c e d a1 a2 a3 a4 a5 => (g.1 c e d a1 a2 a3 a4).trans (h.1 c e d a1 a2 a3 a4 a5), fun c e d a1 a2 a3 => (g.2 c e d a1 a2 a3).trans (h.2 c e d a1 a2 a3)⟩
theorem GM.f {A B C : MS} (h : GM A B) (g : FM B C) : GM A C := ⟨fun c e d a1 a2 a3 a4 a5 => (g.1 c e d a1 a2 a3 a4 (fun z => a5 ⟨z.1, by omega⟩)).trans (h.1 c e d a1 a2 a3 a4 a5), fun c e d a1 => (g.2.1 c e d a1).trans (h.2.1 c e d a1), fun c e d a1 => (g.2.2 c e d a1).trans (h.2.2 c e d a1)⟩
theorem GX.j {X X' : MS} (h : GX X X') : JX X X' := ⟨fun b c d _ hk => h.1 b c d (by have := hk.2; omega) (by have := hk.2; omega) (by have := hk.2; omega) (by have := hk.2; omega) (fun z => by have := hk.2; omega), fun d => h.2 13 0 d (by decide) (by decide) (by decide)⟩
theorem GM.j {M M' : MS} (h : GM M M') : JM M M' := ⟨fun b c d hn => by
  have hn2 := hn.2
  exact h.1 b c d (by omega) (by omega) (by omega) (by omega) (by omega), fun d => h.2.1 27 0 d (by omega)⟩
theorem GX.st {X M X' M' : MS} {k en : Nat} (h : ST X M k en) (x : GX X X') (m : GM M M') : ST X' M' k en := h.g x.j (fun q d => x.1 17 q d (by decide) (by decide) (by decide) (by decide) (fun z => absurd z.1 (by decide))) m.j (fun b d h1 h2 => m.1 b 0 d (by omega) (by omega) (by omega) (by omega) (by omega))
theorem GX.tb {X M X' M' : MS} (h : TB X M) (x : GX X X') (m : GM M M') : TB X' M' := h.o (fun d => x.2 18 0 d (by decide) (by decide) (by decide)) (fun d => m.2.2 25 0 d (by decide))
theorem J_begin {X M : MS} {k en q t : Nat} (hS : ST X M k en) (hT : TB X M) (hq : q < k) (ht : M.1 31 0 q = nI t) (ht3 : t ≤ 3) (a b c : Int64) : Run (call0 X (nI q) a b c) (mCs1 M q t a b c) k en ∧ GX X (call0 X (nI q) a b c) ∧ GM M (mCs1 M q t a b c) ∧ (call0 X (nI q) a b c).1 0 0 6 = X.1 0 0 6 + 1 ∧ (mCs1 M q t a b c).1 8 0 30 = M.1 8 0 30 + 1 ∧ (mCs1 M q t a b c).1 8 0 42 = 1 := by
  have hk5 := hS.1.2.1
  obtain ⟨t', gg, hTG⟩ := hS.1.tgs q hq
  have htt : t' = t := (nI_eq (by have := hTG.2.2.1; omega) (by omega)).mp (hTG.2.1.symm.trans ht)
  subst htt
  obtain ⟨lc, stk, L, mp, gq, pl, l0, hJ⟩ := hS.2 q hq
  obtain ⟨flo, fl1, fl2⟩ := hTG.tkk
  obtain ⟨-, -, uq⟩ := fl1.uniq hJ.2.1
  have lcl : ∀ l, l < t' → M.1 32 0 (3 * q + l) = nI (l0 l) ∧ (l0 l = 1 ∨ l0 l = 2) := fun l hl => by
    obtain ⟨f1, f2, f3, f4⟩ := fl2 l hl
    rw [← uq l (by omega), f2]
    exact ⟨f1, by omega⟩
  have lc0 : ∀ l, l < 6 → t' ≤ l → l0 l = 0 := fun l hl6 hl => by
    obtain ⟨lo', kw', -, z'⟩ := hTG.2.2.2.2.2.2.2
    rw [← (kw'.uniq hJ.2.1).2.2 l hl6]
    exact z' l hl
  -- the class's side
  obtain ⟨X1, hX1⟩ : ∃ X1, xmPrep0 (wI X 0 0 6 (X.1 0 0 6 + 1)) (nI q) = X1 := ⟨_, rfl⟩
  have x16 : X1.1 7 0 6 = nI 0 := by rw [← hX1, xmPrep0, wI_rd]; rfl
  have x17 : X1.1 7 0 7 = nI 0 := by rw [← hX1, xmPrep0, wI_o _ _ _ _ _ _ _ _ (by decide), wI_rd]; rfl
  have x113 : X1.1 7 0 13 = 0 := by rw [← hX1, xmPrep0, wI_o _ _ _ _ _ _ _ _ (by decide), wI_o _ _ _ _ _ _ _ _ (by decide), wL_1, wI_rd]
  have x112 : X1.1 7 0 12 = -1 := by rw [← hX1, xmPrep0, wI_o _ _ _ _ _ _ _ _ (by decide), wI_o _ _ _ _ _ _ _ _ (by decide), wL_1, wI_o _ _ _ _ _ _ _ _ (by decide), wI_rd]
  have x111 : X1.1 7 0 11 = nI q := by rw [← hX1, xmPrep0, wI_o _ _ _ _ _ _ _ _ (by decide), wI_o _ _ _ _ _ _ _ _ (by decide), wL_1, wI_o _ _ _ _ _ _ _ _ (by decide), wI_o _ _ _ _ _ _ _ _ (by decide), wI_rd]
  have x110 : X1.1 7 0 10 = 0 := by rw [← hX1, xmPrep0, wI_o _ _ _ _ _ _ _ _ (by decide), wI_o _ _ _ _ _ _ _ _ (by decide), wL_1, wI_o _ _ _ _ _ _ _ _ (by decide), wI_o _ _ _ _ _ _ _ _ (by decide), wI_o _ _ _ _ _ _ _ _ (by decide), wI_rd]
  have x19 : X1.1 7 0 9 = 0 := by rw [← hX1, xmPrep0, wI_o _ _ _ _ _ _ _ _ (by decide), wI_o _ _ _ _ _ _ _ _ (by decide), wL_1, wI_o _ _ _ _ _ _ _ _ (by decide), wI_o _ _ _ _ _ _ _ _ (by decide), wI_o _ _ _ _ _ _ _ _ (by decide), wI_o _ _ _ _ _ _ _ _ (by decide), wI_rd]
  have x1l : X1.2.1 7 0 14 = 0 := by rw [← hX1, xmPrep0, wI_2, wI_2, wL_rd]
  have x1o : ∀ c' e' d', c' ≠ 7 → X1.1 c' e' d' = (wI X 0 0 6 (X.1 0 0 6 + 1)).1 c' e' d' := fun c' e' d' h => by
    rw [← hX1, xmPrep0, wI_o _ _ _ _ _ _ _ _ (fun z => h z.1), wI_o _ _ _ _ _ _ _ _ (fun z => h z.1), wL_1, wI_o _ _ _ _ _ _ _ _ (fun z => h z.1), wI_o _ _ _ _ _ _ _ _ (fun z => h z.1), wI_o _ _ _ _ _ _ _ _ (fun z => h z.1), wI_o _ _ _ _ _ _ _ _ (fun z => h z.1), wI_o _ _ _ _ _ _ _ _ (fun z => h z.1)]
  have x1lo : ∀ c' e' d', c' ≠ 7 → X1.2.1 c' e' d' = X.2.1 c' e' d' := fun c' e' d' h => by
    rw [← hX1, xmPrep0, wI_2, wI_2, wL_o _ _ _ _ _ _ _ _ (fun z => h z.1), wI_2, wI_2, wI_2, wI_2, wI_2, wI_2]
  obtain ⟨X2, hX2⟩ : ∃ X2, xmEnter X1 (nI q) = X2 := ⟨_, rfl⟩
  have eX2 : X2 = wI (wI (wI (wI (wI X1 21 0 0 (nI q)) 22 0 0 0) 23 0 0 (nI 0)) 7 0 6 (nI 1)) 7 0 13 (maxI 0 (nI 1)) := by
    rw [← hX2, xmEnter_N x16 (by decide), x17, x113]
  have x2o : ∀ c' e' d', c' ≠ 21 → c' ≠ 22 → c' ≠ 23 → ¬ (c' = 7 ∧ (d' = 6 ∨ d' = 13)) → X2.1 c' e' d' = X1.1 c' e' d' := fun c' e' d' h1 h2 h3 h7 => by
    rw [eX2, wI_o _ _ _ _ _ _ _ _ (fun z => h7 ⟨z.1, Or.inr z.2.2⟩), wI_o _ _ _ _ _ _ _ _ (fun z => h7 ⟨z.1, Or.inl z.2.2⟩), wI_o _ _ _ _ _ _ _ _ (fun z => h3 z.1), wI_o _ _ _ _ _ _ _ _ (fun z => h2 z.1), wI_o _ _ _ _ _ _ _ _ (fun z => h1 z.1)]
  have x2l : X2.2 = X1.2 := by rw [eX2]; rfl
  have x26 : X2.1 7 0 6 = nI 1 := by rw [eX2, wI_o _ _ _ _ _ _ _ _ (by decide), wI_rd]
  have x221 : X2.1 21 0 0 = nI q := by rw [eX2, wI_o _ _ _ _ _ _ _ _ (by decide), wI_o _ _ _ _ _ _ _ _ (by decide), wI_o _ _ _ _ _ _ _ _ (by decide), wI_o _ _ _ _ _ _ _ _ (by decide), wI_rd]
  have x222 : X2.1 22 0 0 = nI 0 := by rw [eX2, wI_o _ _ _ _ _ _ _ _ (by decide), wI_o _ _ _ _ _ _ _ _ (by decide), wI_o _ _ _ _ _ _ _ _ (by decide), wI_rd]; rfl
  have x223 : X2.1 23 0 0 = nI 0 := by rw [eX2, wI_o _ _ _ _ _ _ _ _ (by decide), wI_o _ _ _ _ _ _ _ _ (by decide), wI_rd]
  have x213 : X2.1 7 0 13 = maxI 0 (nI 1) := by rw [eX2, wI_rd]
  have gx2 : GX X X2 := ⟨fun c' e' d' a1 a2 a3 a4 a5 => by
    rw [x2o c' e' d' a2 a3 a4 (fun z => a1 z.1), x1o c' e' d' a1, wI_o _ _ _ _ _ _ _ _ a5], fun c' e' d' a1 _ _ => by rw [x2l, x1lo c' e' d' a1]⟩
  -- the model's side
  obtain ⟨M0, hM0⟩ : ∃ M0, mCs0 M q = M0 := ⟨_, rfl⟩
  have m0o : ∀ c' e' d', ¬ (c' = 8 ∧ (d' = 30 ∨ d' = 36 ∨ d' = 42 ∨ d' = 44 ∨ d' = 45 ∨ d' = 46 ∨ d' = 47 ∨ d' = 48)) → M0.1 c' e' d' = M.1 c' e' d' := fun c' e' d' h => by
    rw [← hM0, mCs0, wI_o _ _ _ _ _ _ _ _ (fun z => h ⟨z.1, by omega⟩), wI_o _ _ _ _ _ _ _ _ (fun z => h ⟨z.1, by omega⟩), wI_o _ _ _ _ _ _ _ _ (fun z => h ⟨z.1, by omega⟩), wI_o _ _ _ _ _ _ _ _ (fun z => h ⟨z.1, by omega⟩), wI_o _ _ _ _ _ _ _ _ (fun z => h ⟨z.1, by omega⟩), wI_o _ _ _ _ _ _ _ _ (fun z => h ⟨z.1, by omega⟩), wL_1, wI_o _ _ _ _ _ _ _ _ (fun z => h ⟨z.1, by omega⟩), wI_o _ _ _ _ _ _ _ _ (fun z => h ⟨z.1, by omega⟩)]
  have m048 : M0.1 8 0 48 = 0 := by rw [← hM0, mCs0, wI_rd]
  have m046 : M0.1 8 0 46 = nI q := by rw [← hM0, mCs0, wI_o _ _ _ _ _ _ _ _ (by decide), wI_o _ _ _ _ _ _ _ _ (by decide), wI_rd]
  have m045 : M0.1 8 0 45 = 0 := by rw [← hM0, mCs0, wI_o _ _ _ _ _ _ _ _ (by decide), wI_o _ _ _ _ _ _ _ _ (by decide), wI_o _ _ _ _ _ _ _ _ (by decide), wI_rd]
  have m047 : M0.1 8 0 47 = -1 := by rw [← hM0, mCs0, wI_o _ _ _ _ _ _ _ _ (by decide), wI_o _ _ _ _ _ _ _ _ (by decide), wI_o _ _ _ _ _ _ _ _ (by decide), wI_o _ _ _ _ _ _ _ _ (by decide), wI_rd]
  have m044 : M0.1 8 0 44 = 0 := by rw [← hM0, mCs0, wI_o _ _ _ _ _ _ _ _ (by decide), wI_o _ _ _ _ _ _ _ _ (by decide), wI_o _ _ _ _ _ _ _ _ (by decide), wI_o _ _ _ _ _ _ _ _ (by decide), wI_o _ _ _ _ _ _ _ _ (by decide), wI_rd]
  have m042 : M0.1 8 0 42 = 1 := by rw [← hM0, mCs0, wI_o _ _ _ _ _ _ _ _ (by decide), wI_o _ _ _ _ _ _ _ _ (by decide), wI_o _ _ _ _ _ _ _ _ (by decide), wI_o _ _ _ _ _ _ _ _ (by decide), wI_o _ _ _ _ _ _ _ _ (by decide), wI_o _ _ _ _ _ _ _ _ (by decide), wL_1, wI_rd]
  have m030 : M0.1 8 0 30 = M.1 8 0 30 + 1 := by rw [← hM0, mCs0, wI_o _ _ _ _ _ _ _ _ (by decide), wI_o _ _ _ _ _ _ _ _ (by decide), wI_o _ _ _ _ _ _ _ _ (by decide), wI_o _ _ _ _ _ _ _ _ (by decide), wI_o _ _ _ _ _ _ _ _ (by decide), wI_o _ _ _ _ _ _ _ _ (by decide), wL_1, wI_o _ _ _ _ _ _ _ _ (by decide), wI_rd]
  have m043 : M0.2.1 8 0 43 = 0 := by rw [← hM0, mCs0, wI_2, wI_2, wI_2, wI_2, wI_2, wI_2, wL_rd]
  have m0l : ∀ c' e' d', ¬ (c' = 8 ∧ d' = 43) → M0.2.1 c' e' d' = M.2.1 c' e' d' := fun c' e' d' h => by
    rw [← hM0, mCs0, wI_2, wI_2, wI_2, wI_2, wI_2, wI_2, wL_o _ _ _ _ _ _ _ _ (fun z => h ⟨z.1, z.2.2⟩), wI_2, wI_2]
  have m0d : M0.2.2 = M.2.2 := by rw [← hM0, mCs0, wI_2, wI_2, wI_2, wI_2, wI_2, wI_2, wL_d, wI_2, wI_2]
  obtain ⟨M2, hM2⟩ : ∃ M2, mEnS M0 (nI q) 0 = M2 := ⟨_, rfl⟩
  obtain ⟨s1, s2, s3, s4, s5, s6, s7⟩ := mEnS_at (M := M0) (q := nI q) (G := 0)
  have s8 := mEnS_48 (M := M0) (q := nI q) (G := 0)
  rw [hM2] at s1 s2 s3 s4 s5 s6 s7 s8
  have m2k : ∀ d', d' ≠ 36 → d' ≠ 48 → M2.1 8 0 d' = M0.1 8 0 d' := fun d' h1 h2 => s5 8 0 d' (fun z => by have := z.2; omega) (fun z => by have := z.1; omega) (fun z => absurd z.1 (by decide))
  have gm2 : GM M M2 := ⟨fun c' e' d' a1 a2 a3 a4 a5 => by
    rw [s5 c' e' d' (fun z => a5 ⟨z.1, by omega⟩) (fun z => by have := z.1; omega) (fun z => a4 z.1), m0o c' e' d' a5], fun c' e' d' a1 => by rw [s6, m0l c' e' d' a1], fun c' e' d' a1 => by rw [s7 c' e' d' (fun z => a1 z.1), m0d]⟩
  -- the arguments
  have tp0 : TP X2 M2 0 0 0 (fun _ => 0) (cut l0 0) := ⟨x26, s1, by decide, Nat.le_refl _, by decide, by rw [x2o 7 0 7 (by decide) (by decide) (by decide) (by decide)]; exact x17, s4, fun i hi => absurd hi (by omega), fun l hl => VR.z (cut_ge (Nat.zero_le _))⟩
  have h41 : X2.1 4 q 1 = nI t' := by rw [gx2.1 4 q 1 (by decide) (by decide) (by decide) (by decide) (fun z => absurd z.1 (by decide))]; exact hTG.1
  have h48 : X2.1 4 q 8 = X.1 4 q 8 := gx2.1 4 q 8 (by decide) (by decide) (by decide) (by decide) (fun z => absurd z.1 (by decide))
  have h32 : ∀ l, l < t' → M2.1 32 0 (3 * q + l) = nI (l0 l) ∧ (l0 l = 1 ∨ l0 l = 2) := fun l hl => by
    rw [gm2.1 32 0 _ (by decide) (by decide) (by decide) (by decide) (fun z => absurd z.1 (by decide))]; exact lcl l hl
  obtain ⟨X3, M3, a1, a2, a3, a4, a5, a6, a7, a8, a9⟩ := args_N (a := a) (b := b) (c := c) tp0 ht3 h41 (by rw [h48]; exact hJ.2.1) h32
  have eX : call0 X (nI q) a b c = X3 := by rw [call0, nI_c (by omega), hX1, hX2]; exact a1
  have eM : mCs1 M q t' a b c = M3 := by rw [mCs1, hM0, hM2]; exact a2
  rw [eX, eM]
  have gx : GX X X3 := gx2.f a4
  have gm : GM M M3 := gm2.f a5
  have x3k : ∀ d', d' ≠ 6 → d' ≠ 13 → X3.1 7 0 d' = X1.1 7 0 d' := fun d' h1 h2 => by
    rw [a6, x2o 7 0 d' (by decide) (by decide) (by decide) (fun z => by have := z.2; omega)]
  have m3k : ∀ d', d' ≠ 36 → d' ≠ 48 → M3.1 8 0 d' = M0.1 8 0 d' := fun d' h1 h2 => by rw [a8 8 0 d' (by decide), m2k d' h1 h2]
  have hS3 := GX.st hS gx gm
  have hL := hJ.1.2.2.1
  have tp3 : TP X3 M3 0 0 0 (fun _ => 0) l0 := a3.kinds (fun i hi => absurd hi (by omega)) (fun l hl => by
    by_cases hlt : l < t'
    · right; rw [cut_at hlt]
    · left; exact lc0 l hl (by omega))
  have sx : SX X X3 := ⟨fun q d => gx.1 17 q d (by decide) (by decide) (by decide) (by decide) (fun z => absurd z.1 (by decide)), fun q => gx.1 4 q 5 (by decide) (by decide) (by decide) (by decide) (fun z => absurd z.1 (by decide))⟩
  have sm : SM M M3 := ⟨fun b d h1 h2 => gm.1 b 0 d (by omega) (by omega) (by omega) (by omega) (by omega), fun q => gm.1 33 0 q (by decide) (by decide) (by decide) (by decide) (fun z => absurd z.1 (by decide))⟩
  refine ⟨⟨⟨?_, ?_, ?_, ?_, ?_, ?_⟩, hS3, GX.tb hT gx gm, Or.inr ⟨0, by decide, by rw [a6]; exact x26, by rw [a8 _ _ _ (by decide)]; exact s1, fun _ => ⟨q, 0, 0, 0, fun _ => 0, l0, L, ⟨hq, by rw [a6]; exact x221, by rw [a8 _ _ _ (by decide)]; exact s2, by rw [a6]; exact x222, by rw [a8 _ _ _ (by decide)]; exact s3, by rw [a6]; exact x223⟩, tp3, ⟨by rw [sx.2]; exact hL.2.2.2.2.2.2.2.2.2.1, hL.2.2.2.2.1⟩, hJ.2.2.1.s sx sm, rfl⟩, 0, by rw [a6]; exact x222, fun _ => by rw [a8 _ _ _ (by decide)]; exact s3⟩⟩, gx, gm, ?_, ?_, ?_⟩
  · rw [x3k _ (by decide) (by decide), m3k _ (by decide) (by decide), x19, m044]
  · rw [x3k _ (by decide) (by decide), m3k _ (by decide) (by decide), x110, m045]
  · rw [x3k _ (by decide) (by decide), m3k _ (by decide) (by decide), x111, m046]
  · rw [x3k _ (by decide) (by decide), m3k _ (by decide) (by decide), x112, m047]
  · rw [a6, x213, a8 _ _ _ (by decide), s8, m048]
    exact deep_eq
  · rw [a7 _ _ _ (by decide), x2l, x1l, a9, s6, m043]
  · rw [a6, x2o 0 0 6 (by decide) (by decide) (by decide) (fun z => absurd z.1 (by decide)), x1o _ _ _ (by decide), wI_rd]
  · rw [m3k _ (by decide) (by decide), m030]
  · rw [m3k _ (by decide) (by decide), m042]
