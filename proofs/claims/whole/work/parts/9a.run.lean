/-! the two sides run alike: frames within one another, a run's state -/
/-- what a run leaves, on either side -/
def FX (X X' : MS) : Prop := (∀ c e d, c ≠ 7 → c ≠ 21 → c ≠ 22 → c ≠ 23 → X'.1 c e d = X.1 c e d) ∧ ∀ c e d, c ≠ 7 → c ≠ 19 → c ≠ 20 → X'.2.1 c e d = X.2.1 c e d
def FM (M M' : MS) : Prop := (∀ c e d, c ≠ 50 → c ≠ 51 → c ≠ 52 → c ≠ 53 → ¬ (c = 8 ∧ (d = 36 ∨ d = 44 ∨ d = 45 ∨ d = 46 ∨ d = 47 ∨ d = 48)) → M'.1 c e d = M.1 c e d) ∧ (∀ c e d, ¬ (c = 8 ∧ d = 43) → M'.2.1 c e d = M.2.1 c e d) ∧ ∀ c e d, c ≠ 54 → M'.2.2 c e d = M.2.2 c e d
theorem FX.rf (X : MS) : FX X X := ⟨fun _ _ _ _ _ _ _ => rfl, fun _ _ _ _ _ _ => rfl⟩
theorem FM.rf (M : MS) : FM M M := ⟨fun _ _ _ _ _ _ _ _ => rfl, fun _ _ _ _ => rfl, fun _ _ _ _ => rfl⟩
theorem FX.tr {A B C : MS} (h : FX A B) (g : FX B C) : FX A C := ⟨fun c e d a1 a2 a3 a4 => (g.1 c e d a1 a2 a3 a4).trans (h.1 c e d a1 a2 a3 a4), fun c e d a1 a2 a3 => (g.2 c e d a1 a2 a3).trans (h.2 c e d a1 a2 a3)⟩
theorem FM.tr {A B C : MS} (h : FM A B) (g : FM B C) : FM A C := ⟨fun c e d a1 a2 a3 a4 a5 => (g.1 c e d a1 a2 a3 a4 a5).trans (h.1 c e d a1 a2 a3 a4 a5), fun c e d a1 => (g.2.1 c e d a1).trans (h.2.1 c e d a1), fun c e d a1 => (g.2.2 c e d a1).trans (h.2.2 c e d a1)⟩
theorem FX.j {X X' : MS} (h : FX X X') : JX X X' := ⟨fun b c d _ hk => h.1 b c d (by have := hk.2; omega) (by have := hk.2; omega) (by have := hk.2; omega) (by have := hk.2; omega), fun d => h.2 13 0 d (by decide) (by decide) (by decide)⟩
theorem FM.j {M M' : MS} (h : FM M M') : JM M M' := ⟨fun b c d hn => by
  have hn2 := hn.2
  exact h.1 b c d (by omega) (by omega) (by omega) (by omega) (by omega), fun d => h.2.1 27 0 d (by omega)⟩
/-- the FILE, judged and sound -/
def ST (X M : MS) (k en : Nat) : Prop := RFile X M k en ∧ ∀ q, q < k → RJ X M k en q
theorem ST.f {X M X' M' : MS} {k en : Nat} (h : ST X M k en) (x : FX X X') (m : FM M M') : ST X' M' k en := ⟨h.1.j x.j m.j, fun q hq => (h.2 q hq).same x.j (fun d => x.1 17 _ _ (by decide) (by decide) (by decide) (by decide)) m.j (fun b d h1 h2 => m.1 b 0 d (by omega) (by omega) (by omega) (by omega) (by omega))⟩
theorem TB.f {X M X' M' : MS} (h : TB X M) (x : FX X X') (m : FM M M') : TB X' M' := h.o (fun d => x.2 18 0 d (by decide) (by decide) (by decide)) (fun d => m.2.2 25 0 d (by decide))
/-- what a run's counts are -/
def EQ (X M : MS) : Prop := X.1 7 0 9 = M.1 8 0 44 ∧ X.1 7 0 10 = M.1 8 0 45 ∧ X.1 7 0 11 = M.1 8 0 46 ∧ X.1 7 0 12 = M.1 8 0 47 ∧ X.1 7 0 13 = M.1 8 0 48 ∧ X.2.1 7 0 14 = M.2.1 8 0 43
def Fr1 (X M : MS) (k f q p b : Nat) : Prop := q < k ∧ X.1 21 0 f = nI q ∧ M.1 50 0 f = nI q ∧ X.1 22 0 f = nI p ∧ M.1 51 0 f = nI p ∧ X.1 23 0 f = nI b
def VS (X M : MS) (f b d : Nat) (st lo : Nat → Nat) : Prop := (∀ i, i < d → (st i = 1 ∨ st i = 2) ∧ VR (st i) (X.2.1 19 0 (b + i)) (M.1 53 0 (12 * f + 6 + i)) (M.2.2 54 0 (12 * f + 6 + i))) ∧ ∀ l, l < 6 → VR (lo l) (X.2.1 20 0 (6 * f + l)) (M.1 53 0 (12 * f + l)) (M.2.2 54 0 (12 * f + l))
/-- the frames that wait -/
def Frs (X M : MS) (k : Nat) : Nat → Nat → Nat → Prop
  | 0, b, _ => b = 0
  | F + 1, b, q => ∃ q' p' b' d' st' lo' L', Fr1 X M k F q' p' b' ∧ M.1 52 0 F = nI d' ∧ d' < 6 ∧ b' ≤ 6 * F ∧ b = b' + d' ∧ VS X M F b' d' st' lo' ∧ (X.1 4 q' 5 = nI L' ∧ L' ≤ 48) ∧ Fl X M q' L' p' (d' + 1) (up (cut st' d') d' (gvN M q)) lo' ∧ Frs X M k F b' q'
def Top (X M : MS) (k F : Nat) : Prop := ∃ q p b d st lo L, Fr1 X M k F q p b ∧ TP X M F b d st lo ∧ (X.1 4 q 5 = nI L ∧ L ≤ 48) ∧ Fl X M q L p d st lo ∧ Frs X M k F b q
/-- statics that frames speak of -/
def SX (X X' : MS) : Prop := (∀ q d, X'.1 17 q d = X.1 17 q d) ∧ ∀ q, X'.1 4 q 5 = X.1 4 q 5
def SM (M M' : MS) : Prop := (∀ b d, 43 ≤ b → b ≤ 46 → M'.1 b 0 d = M.1 b 0 d) ∧ ∀ q, M'.1 33 0 q = M.1 33 0 q
theorem FX.s {X X' : MS} (h : FX X X') : SX X X' := ⟨fun q d => h.1 17 q d (by decide) (by decide) (by decide) (by decide), fun q => h.1 4 q 5 (by decide) (by decide) (by decide) (by decide)⟩
theorem FM.s {M M' : MS} (h : FM M M') : SM M M' := ⟨fun b d h1 h2 => h.1 b 0 d (by omega) (by omega) (by omega) (by omega) (by omega), fun q => h.1 33 0 q (by decide) (by decide) (by decide) (by decide) (fun z => absurd z.1 (by decide))⟩
theorem Fl.s {X M X' M' : MS} {q L e d : Nat} {st lo : Nat → Nat} (h : Fl X M q L e d st lo) (x : SX X X') (m : SM M M') : Fl X' M' q L e d st lo := by
  obtain ⟨h1, d3, s3, l3, h2, h3⟩ := h
  exact ⟨h1, d3, s3, l3, h2.same (x.1 _ _) (m.1 _ _ (by decide) (by decide)) (m.1 _ _ (by decide) (by decide)) (fun _ _ => ⟨m.1 _ _ (by decide) (by decide), m.1 _ _ (by decide) (by decide)⟩), h3⟩
/-- what work on frame F and above leaves -/
def LX (X X' : MS) (F b : Nat) : Prop := (∀ c d, c = 21 ∨ c = 22 ∨ c = 23 → d < F → X'.1 c 0 d = X.1 c 0 d) ∧ (∀ d, d < b → X'.2.1 19 0 d = X.2.1 19 0 d) ∧ ∀ d, d < 6 * F → X'.2.1 20 0 d = X.2.1 20 0 d
def LM (M M' : MS) (F : Nat) : Prop := (∀ c d, c = 50 ∨ c = 51 ∨ c = 52 → d < F → M'.1 c 0 d = M.1 c 0 d) ∧ ∀ d, d < 12 * F → M'.1 53 0 d = M.1 53 0 d ∧ M'.2.2 54 0 d = M.2.2 54 0 d
theorem VS.o {X M X' M' : MS} {f b d : Nat} {st lo : Nat → Nat} (h : VS X M f b d st lo) (x1 : ∀ i, i < d → X'.2.1 19 0 (b + i) = X.2.1 19 0 (b + i)) (x2 : ∀ l, l < 6 → X'.2.1 20 0 (6 * f + l) = X.2.1 20 0 (6 * f + l)) (m : ∀ j, j < 12 → M'.1 53 0 (12 * f + j) = M.1 53 0 (12 * f + j) ∧ M'.2.2 54 0 (12 * f + j) = M.2.2 54 0 (12 * f + j)) (hd : d ≤ 6) : VS X' M' f b d st lo := by
  refine ⟨fun i hi => ?_, fun l hl => ?_⟩
  · obtain ⟨m1, m2⟩ := m (6 + i) (by omega)
    rw [← Nat.add_assoc] at m1 m2
    rw [x1 i hi, m1, m2]; exact h.1 i hi
  · obtain ⟨m1, m2⟩ := m l (by omega)
    rw [x2 l hl, m1, m2]; exact h.2 l hl
theorem Frs.o {X M X' M' : MS} {k : Nat} (sx : SX X X') (sm : SM M M') : ∀ (F b q : Nat), Frs X M k F b q → LX X X' F b → LM M M' F → Frs X' M' k F b q
  | 0, b, q, h, _, _ => h
  | F + 1, b, q, h, x, m => by
    obtain ⟨q', p', b', d', st', lo', L', ⟨a1, a2, a3, a4, a5, a6⟩, b1, b2, b3, b4, b5, b6, b7, b8⟩ := h
    refine ⟨q', p', b', d', st', lo', L', ⟨a1, (x.1 _ _ (Or.inl rfl) (by omega)).trans a2, (m.1 _ _ (Or.inl rfl) (by omega)).trans a3, (x.1 _ _ (Or.inr (Or.inl rfl)) (by omega)).trans a4, (m.1 _ _ (Or.inr (Or.inl rfl)) (by omega)).trans a5, (x.1 _ _ (Or.inr (Or.inr rfl)) (by omega)).trans a6⟩, (m.1 _ _ (Or.inr (Or.inr rfl)) (by omega)).trans b1, b2, b3, b4, b5.o (fun i hi => x.2.1 _ (by omega)) (fun l hl => x.2.2 _ (by omega)) (fun j hj => m.2 _ (by omega)) (by omega), ⟨(sx.2 _).trans b6.1, b6.2⟩, ?_, ?_⟩
    · have : gvN M' q = gvN M q := by rw [gvN, gvN, sm.2]
      rw [this]
      exact b7.s sx sm
    · exact Frs.o sx sm F b' q' b8 ⟨fun c d h1 h2 => x.1 c d h1 (by omega), fun d hd => x.2.1 d (by omega), fun d hd => x.2.2 d (by omega)⟩ ⟨fun c d h1 h2 => m.1 c d h1 (by omega), fun d hd => m.2 d (by omega)⟩
/-- a run's state: alive, ended, or failed -/
def Run (X M : MS) (k en : Nat) : Prop := EQ X M ∧ ST X M k en ∧ TB X M ∧ ((X.1 7 0 6 = 0 ∧ M.1 8 0 36 = 0) ∨ ∃ F, F < 8 ∧ X.1 7 0 6 = nI (F + 1) ∧ M.1 8 0 36 = nI (F + 1) ∧ (X.1 7 0 9 = 0 → Top X M k F) ∧ ∃ p, X.1 22 0 F = nI p ∧ (X.1 7 0 9 = 0 → M.1 51 0 F = nI p))
theorem TP.vs {X M : MS} {F b d : Nat} {st lo : Nat → Nat} (h : TP X M F b d st lo) : VS X M F b d st lo := ⟨h.2.2.2.2.2.2.2.1, h.2.2.2.2.2.2.2.2⟩
/-- work on the top frame, its place too -/
def OX2 (X X' : MS) (F b : Nat) : Prop := (∀ c e d, ¬ (c = 7 ∧ e = 0 ∧ (d = 7 ∨ d = 8)) → ¬ (c = 22 ∧ e = 0 ∧ d = F) → X'.1 c e d = X.1 c e d) ∧ ∀ c e d, ¬ (c = 19 ∧ b ≤ d) → ¬ (c = 20 ∧ 6 * F ≤ d) → X'.2.1 c e d = X.2.1 c e d
theorem OX2.f {X X' : MS} {F b : Nat} (h : OX2 X X' F b) : FX X X' := ⟨fun c e d a1 _ a3 _ => h.1 c e d (fun z => a1 z.1) (fun z => a3 z.1), fun c e d _ a2 a3 => h.2 c e d (fun z => a2 z.1) (fun z => a3 z.1)⟩
theorem OM.f {M M' : MS} {F : Nat} (h : OM M M' F) : FM M M' := ⟨fun c e d _ _ a3 a4 _ => h.1 c e d (fun z => a3 z.1) (fun z => a4 z.1), fun c e d _ => by rw [h.2.1], fun c e d a1 => h.2.2 c e d (fun z => a1 z.1)⟩
theorem OX2.l {X X' : MS} {F b : Nat} (h : OX2 X X' F b) : LX X X' F b := ⟨fun c d h1 h2 => h.1 c 0 d (fun z => by have := z.1; omega) (fun z => by have := z.2.2; omega), fun d hd => h.2 19 0 d (fun z => by have := z.2; omega) (fun z => absurd z.1 (by decide)), fun d hd => h.2 20 0 d (fun z => absurd z.1 (by decide)) (fun z => by have := z.2; omega)⟩
theorem OM.l {M M' : MS} {F : Nat} (h : OM M M' F) : LM M M' F := ⟨fun c d h1 h2 => h.1 c 0 d (fun z => by have := z.2; omega) (fun z => by have := z.1; omega), fun d hd => ⟨h.1 53 0 d (fun z => absurd z.1 (by decide)) (fun z => by have := z.2; omega), h.2.2 54 0 d (fun z => by have := z.2; omega)⟩⟩
theorem wI51 (M : MS) (F : Nat) (v : Int32) : FM M (wI M 51 0 F v) ∧ LM M (wI M 51 0 F v) F := ⟨⟨fun c e d _ a2 _ _ _ => wI_o _ _ _ _ _ _ _ _ (fun z => a2 z.1), fun c e d _ => by rw [wI_2], fun c e d _ => by rw [wI_2]⟩, ⟨fun c d h1 h2 => wI_o _ _ _ _ _ _ _ _ (fun z => by have := z.2.2; omega), fun d hd => ⟨wI_o _ _ _ _ _ _ _ _ (fun z => absurd z.1 (by decide)), by rw [wI_2]⟩⟩⟩
theorem LM.tr {A B C : MS} {F : Nat} (h : LM A B F) (g : LM B C F) : LM A C F := ⟨fun c d h1 h2 => (g.1 c d h1 h2).trans (h.1 c d h1 h2), fun d hd => ⟨(g.2 d hd).1.trans (h.2 d hd).1, (g.2 d hd).2.trans (h.2 d hd).2⟩⟩
/-- the top frame goes on -/
theorem Run.nx {X M X' M1 : MS} {k en F q p b p' d' L : Nat} {s' l' : Nat → Nat} (hE : EQ X M) (h9 : X.1 7 0 9 = 0) (hS : ST X M k en) (hT : TB X M) (hF : Fr1 X M k F q p b) (hL : X.1 4 q 5 = nI L ∧ L ≤ 48) (hR : Frs X M k F b q) (h : TP X' M1 F b d' s' l') (x : OX2 X X' F b) (m : OM M M1 F) (hp' : X'.1 22 0 F = nI p') (hf : Fl X M q L p' d' s' l') : Run X' (wI M1 51 0 F (nI p')) k en ∧ FX X X' ∧ FM M (wI M1 51 0 F (nI p')) := by
  obtain ⟨w1, w2⟩ := wI51 M1 F (nI p')
  have fx := x.f
  have fm := m.f.tr w1
  have m8 : ∀ d, (wI M1 51 0 F (nI p')).1 8 0 d = M.1 8 0 d := fun d => by
    rw [wI_o _ _ _ _ _ _ _ _ (fun z => absurd z.1 (by decide))]
    exact m.1 8 0 d (fun z => absurd z.1 (by decide)) (fun z => absurd z.1 (by decide))
  have x7 : ∀ d, d ≠ 7 → d ≠ 8 → X'.1 7 0 d = X.1 7 0 d := fun d h1 h2 => x.1 7 0 d (fun z => by have := z.2.2; omega) (fun z => absurd z.1 (by decide))
  obtain ⟨e1, e2, e3, e4, e5, e6⟩ := hE
  have hq := hF.1
  refine ⟨⟨⟨?_, ?_, ?_, ?_, ?_, ?_⟩, hS.f fx fm, hT.f fx fm, Or.inr ⟨F, h.2.2.1, h.1, ?_, fun _ => ?_, p', hp', fun _ => by rw [wI_rd]⟩⟩, fx, fm⟩
  · rw [x7 _ (by decide) (by decide), m8]; exact e1
  · rw [x7 _ (by decide) (by decide), m8]; exact e2
  · rw [x7 _ (by decide) (by decide), m8]; exact e3
  · rw [x7 _ (by decide) (by decide), m8]; exact e4
  · rw [x7 _ (by decide) (by decide), m8]; exact e5
  · rw [x.2 _ _ _ (fun z => absurd z.1 (by decide)) (fun z => absurd z.1 (by decide)), wI_2, m.2.1]; exact e6
  · rw [wI_o _ _ _ _ _ _ _ _ (fun z => absurd z.1 (by decide))]; exact h.2.1
  · obtain ⟨a1, a2, a3, a4, a5, a6⟩ := hF
    obtain ⟨t1, t2, t3, t4, t5, t6, t7, t8, t9⟩ := h
    refine ⟨q, p', b, d', s', l', L, ⟨hq, ?_, ?_, hp', by rw [wI_rd], ?_⟩, ⟨t1, ?_, t3, t4, t5, t6, ?_, fun i hi => ?_, fun l hl => ?_⟩, ⟨?_, hL.2⟩, hf.s fx.s fm.s, hR.o fx.s fm.s _ _ _ x.l (m.l.tr w2)⟩
    · rw [x.1 21 0 F (fun z => absurd z.1 (by decide)) (fun z => absurd z.1 (by decide))]; exact a2
    · rw [wI_o _ _ _ _ _ _ _ _ (fun z => absurd z.1 (by decide)), m.1 50 0 F (fun z => absurd z.1 (by decide)) (fun z => absurd z.1 (by decide))]; exact a3
    · rw [x.1 23 0 F (fun z => absurd z.1 (by decide)) (fun z => absurd z.1 (by decide))]; exact a6
    · rw [wI_o _ _ _ _ _ _ _ _ (fun z => absurd z.1 (by decide))]; exact t2
    · rw [wI_o _ _ _ _ _ _ _ _ (fun z => absurd z.1 (by decide))]; exact t7
    · rw [wI_o _ _ _ _ _ _ _ _ (fun z => absurd z.1 (by decide)), wI_2]; exact t8 i hi
    · rw [wI_o _ _ _ _ _ _ _ _ (fun z => absurd z.1 (by decide)), wI_2]; exact t9 l hl
    · rw [fx.s.2]; exact hL.1
/-- the CALL fails, at place p of the top frame -/
theorem Run.fl {X M Xa Ma : MS} {k en F p : Nat} {w : Int32} (hE : EQ X M) (hS : ST X M k en) (hT : TB X M) (hF8 : F < 8) (h6 : X.1 7 0 6 = nI (F + 1)) (h36 : M.1 8 0 36 = nI (F + 1)) (x : FX X Xa) (x7 : ∀ d, d ≠ 7 → d ≠ 8 → Xa.1 7 0 d = X.1 7 0 d) (x14 : Xa.2.1 7 0 14 = X.2.1 7 0 14) (h8 : Xa.1 7 0 8 = nI p) (h22 : ∃ p', Xa.1 22 0 F = nI p') (m : FM M Ma) (m8 : ∀ d, Ma.1 8 0 d = M.1 8 0 d) (m43 : Ma.2.1 8 0 43 = M.2.1 8 0 43) (h51 : Ma.1 51 0 F = nI p) (hw : w ≠ 0) : Run (xmFail Xa w) (mFailS Ma w F) k en ∧ FX X (xmFail Xa w) ∧ FM M (mFailS Ma w F) := by
  have fx : FX X (xmFail Xa w) := x.tr ⟨fun c e d a1 _ _ _ => by rw [xmFail, wI_o _ _ _ _ _ _ _ _ (fun z => a1 z.1), wI_o _ _ _ _ _ _ _ _ (fun z => a1 z.1)], fun c e d _ _ _ => by rw [xmFail, wI_2, wI_2]⟩
  have fm : FM M (mFailS Ma w F) := m.tr ⟨fun c e d _ _ _ _ a5 => by rw [mFailS, wI_o _ _ _ _ _ _ _ _ (fun z => a5 ⟨z.1, by omega⟩), wI_o _ _ _ _ _ _ _ _ (fun z => a5 ⟨z.1, by omega⟩)], fun c e d _ => by rw [mFailS, wI_2, wI_2], fun c e d _ => by rw [mFailS, wI_2, wI_2]⟩
  have X9 : (xmFail Xa w).1 7 0 9 = w := by rw [xmFail, wI_o _ _ _ _ _ _ _ _ (by decide), wI_rd]
  have xo : ∀ d, d ≠ 9 → d ≠ 12 → (xmFail Xa w).1 7 0 d = Xa.1 7 0 d := fun d h1 h2 => by rw [xmFail, wI_o _ _ _ _ _ _ _ _ (fun z => h2 z.2.2), wI_o _ _ _ _ _ _ _ _ (fun z => h1 z.2.2)]
  have mo : ∀ d, d ≠ 44 → d ≠ 47 → (mFailS Ma w F).1 8 0 d = Ma.1 8 0 d := fun d h1 h2 => by rw [mFailS, wI_o _ _ _ _ _ _ _ _ (fun z => h2 z.2.2), wI_o _ _ _ _ _ _ _ _ (fun z => h1 z.2.2)]
  obtain ⟨e1, e2, e3, e4, e5, e6⟩ := hE
  obtain ⟨p', h22⟩ := h22
  refine ⟨⟨⟨?_, ?_, ?_, ?_, ?_, ?_⟩, hS.f fx fm, hT.f fx fm, Or.inr ⟨F, hF8, ?_, ?_, fun z => absurd (X9.symm.trans z) hw, p', ?_, fun z => absurd (X9.symm.trans z) hw⟩⟩, fx, fm⟩
  · rw [X9, mFailS, wI_o _ _ _ _ _ _ _ _ (by decide), wI_rd]
  · rw [xo _ (by decide) (by decide), mo _ (by decide) (by decide), x7 _ (by decide) (by decide), m8]; exact e2
  · rw [xo _ (by decide) (by decide), mo _ (by decide) (by decide), x7 _ (by decide) (by decide), m8]; exact e3
  · rw [xmFail, wI_rd, mFailS, wI_rd, h8, h51]
  · rw [xo _ (by decide) (by decide), mo _ (by decide) (by decide), x7 _ (by decide) (by decide), m8]; exact e5
  · rw [xmFail, wI_2, wI_2, mFailS, wI_2, wI_2, x14, m43]; exact e6
  · rw [xo _ (by decide) (by decide), x7 _ (by decide) (by decide)]; exact h6
  · rw [mo _ (by decide) (by decide), m8]; exact h36
  · rw [xmFail, wI_o _ _ _ _ _ _ _ _ (fun z => absurd z.1 (by decide)), wI_o _ _ _ _ _ _ _ _ (fun z => absurd z.1 (by decide))]; exact h22
