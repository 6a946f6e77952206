/-! the two sides alike between calls; the face, but read and call -/
def R2 (X M : MS) : Prop := XB X ∧ MW M ∧ RD X M ∧ X.1 0 0 5 = M.1 8 0 28 ∧ X.1 0 0 6 = M.1 8 0 30 ∧ X.2.1 7 0 14 = M.2.1 8 0 43 ∧ ((M.1 8 0 42 = 1 ∧ EQ X M) ∨ (M.1 8 0 42 = 0 ∧ X.1 7 0 9 = 0 ∧ X.1 7 0 10 = 0 ∧ X.1 7 0 11 = 0 ∧ X.1 7 0 12 = 0 ∧ X.1 7 0 13 = 0))
def RR (X M : MS) : Prop := (∃ n, QT X M n) ∧ TB X M ∧ R2 X M
theorem RD.g {X M X' M' : MS} (h : RD X M) (x : JX X X') (x17 : ∀ q d, X'.1 17 q d = X.1 17 q d) (x7 : ∀ q, X'.1 4 q 7 = X.1 4 q 7) (m : JM M M') (m4 : ∀ b d, 43 ≤ b → b ≤ 47 → M'.1 b 0 d = M.1 b 0 d) : RD X' M' := by
  have nk : ∀ b d, b = 2 ∨ b = 3 → X'.1 b 0 d = X.1 b 0 d := fun b d hb => x.1 b 0 d (by omega) (by refine ⟨by omega, by omega, by omega⟩)
  have mk : ∀ d, d = 3 ∨ d = 4 ∨ d = 9 → M'.1 8 0 d = M.1 8 0 d := fun d hd => m.1 8 0 d ⟨⟨⟨by decide, by decide, fun _ => by omega⟩, by decide, by decide, by decide, by decide⟩, Or.inr ⟨rfl, hd⟩⟩
  rcases h with ⟨a1, a2, a3, a4, a5, a6⟩ | ⟨k, en, b1, b2, b3⟩
  · exact Or.inl ⟨by rw [nk _ _ (Or.inl rfl)]; exact a1, by rw [nk _ _ (Or.inr rfl)]; exact a2, by rw [nk _ _ (Or.inl rfl)]; exact a3, by rw [mk _ (by decide)]; exact a4, by rw [mk _ (by decide)]; exact a5, by rw [mk _ (by decide)]; exact a6⟩
  · have hs : ST X' M' k en := ST.g ⟨b1, b2⟩ x x17 m (fun b d h1 h2 => m4 b d h1 (by omega))
    refine Or.inr ⟨k, en, hs.1, hs.2, fun q hq => ?_⟩
    obtain ⟨c, c1, c2, c3⟩ := b3 q hq
    exact ⟨c, c1, by rw [x7]; exact c2, by rw [m4 _ _ (by decide) (by decide)]; exact c3⟩
theorem R2.fr {X M X' M' : MS} (h : R2 X M) (x : ∀ a b d, a ≠ 1 → a ≠ 8 → a ≠ 9 → a < 24 → X'.1 a b d = X.1 a b d) (xl : ∀ a b d, a ≠ 8 → a ≠ 18 → a < 24 → X'.2.1 a b d = X.2.1 a b d) (m : ∀ a b d, (a = 8 ∧ d ≠ 1) ∨ 25 ≤ a → M'.1 a b d = M.1 a b d) (ml : ∀ a b d, a = 8 ∨ 24 ≤ a → M'.2.1 a b d = M.2.1 a b d) : R2 X' M' := by
  obtain ⟨h1, h2, h3, h4, h5, h6, h7⟩ := h
  have jx : JX X X' := ⟨fun b c d _ hk => x b c d (by have := hk.2; omega) (by have := hk.2; omega) (by have := hk.2; omega) (by have := hk.2; omega), fun d => xl 13 0 d (by decide) (by decide) (by decide)⟩
  have jm : JM M M' := ⟨fun b c d hn => m b c d (by have := hn.2; omega), fun d => ml 27 0 d (by decide)⟩
  have x7 : ∀ d, X'.1 7 0 d = X.1 7 0 d := fun d => x 7 0 d (by decide) (by decide) (by decide) (by decide)
  have m8 : ∀ d, d ≠ 1 → M'.1 8 0 d = M.1 8 0 d := fun d hd => m 8 0 d (Or.inl ⟨rfl, hd⟩)
  refine ⟨h1.same (fun q d => x 4 q d (by decide) (by decide) (by decide) (by decide)), fun e he => ?_, h3.g jx (fun q d => x 17 q d (by decide) (by decide) (by decide) (by decide)) (fun q => x 4 q 7 (by decide) (by decide) (by decide) (by decide)) jm (fun b d y1 _ => m b 0 d (Or.inr (by omega))), ?_, ?_, ?_, ?_⟩
  · obtain ⟨w, w1, w2⟩ := h2 e he
    exact ⟨w, w1, (m 28 0 e (Or.inr (by decide))).trans w2⟩
  · rw [x 0 0 5 (by decide) (by decide) (by decide) (by decide), m8 _ (by decide)]; exact h4
  · rw [x 0 0 6 (by decide) (by decide) (by decide) (by decide), m8 _ (by decide)]; exact h5
  · rw [xl 7 0 14 (by decide) (by decide) (by decide), ml 8 0 43 (Or.inl rfl)]; exact h6
  · unfold EQ
    rw [m8 _ (by decide), m8 _ (by decide), m8 _ (by decide), m8 _ (by decide), m8 _ (by decide), m8 _ (by decide), x7, x7, x7, x7, x7, xl 7 0 14 (by decide) (by decide) (by decide), ml 8 0 43 (Or.inl rfl)]
    exact h7
theorem RR.fr {X M X' M' : MS} (h : RR X M) (x : MWr X X') (m : CW M M') : RR X' M' := by
  obtain ⟨⟨n, h1⟩, h2, h3⟩ := h
  refine ⟨⟨n, h1.same (x.1 _ _ _ (by decide) (by decide)) (m.1 _ _ _ (Or.inl rfl)) (fun j => x.1 _ _ _ (by decide) (by decide)) (fun j => m.1 _ _ _ (Or.inr (by decide)))⟩, h2.o (fun d => x.2 _ _ _ (by decide) (by decide)) (fun d => by rw [m.2.2]), h3.fr (fun a b d _ y2 _ y4 => x.1 a b d y2 y4) (fun a b d y1 _ y3 => x.2 a b d y1 y3) (fun a b d y => m.1 a b d (by omega)) (fun a b d y => m.2.1 a b d y)⟩
/-- one call, in lockstep -/
theorem RR.lock {S X' M' : MS} (h : RR X' M') (m : MWr X' M') : RR M' M' := h.fr m (CW.rf M')
theorem RR.pre {S X' : MS} (h : RR S S) (c : CW S X') : RR S X' := h.fr (MWr.rf S) c
/-! ranges -/
theorem rng_iff {v : Int32} {n : Nat} (hn : n < 2 ^ 31) : (¬ v < 0 ∧ ¬ nI n ≤ v) ↔ ∃ j, j < n ∧ v = nI j := by
  constructor
  · intro ⟨h1, h2⟩
    obtain ⟨j, hj, rfl⟩ := nI_of h1
    rw [nI_leI hn hj] at h2
    exact ⟨j, by omega, rfl⟩
  · rintro ⟨j, hj, rfl⟩
    exact ⟨nI_pos (by omega), by rw [nI_leI hn (by omega)]; omega⟩
theorem mIn_iff {v : Int32} {n : Nat} (hn : n < 2 ^ 31) : mIn v 0 (nI n - 1) = true ↔ ∃ j, j < n ∧ v = nI j := by
  rw [mIn, Bool.and_eq_true, decide_eq_true_eq, decide_eq_true_eq]
  cases n with
  | zero =>
    constructor
    · intro ⟨h1, h2⟩
      exfalso
      rw [show nI 0 - 1 = (-1 : Int32) from rfl, Int32.lt_iff_toInt_lt] at h2
      rw [Int32.lt_iff_toInt_lt] at h1
      rw [show ((0 : Int32)).toInt = 0 from rfl] at h1
      rw [show ((-1 : Int32)).toInt = -1 from rfl] at h2
      omega
    · rintro ⟨j, hj, -⟩
      exact absurd hj (by omega)
  | succ n =>
    rw [nI_m1]
    constructor
    · intro ⟨h1, h2⟩
      obtain ⟨j, hj, rfl⟩ := nI_of h1
      rw [nI_ltI (by omega) hj] at h2
      exact ⟨j, by omega, rfl⟩
    · rintro ⟨j, hj, rfl⟩
      exact ⟨nI_pos (by omega), by rw [nI_ltI (by omega) (by omega)]; omega⟩
theorem mIn_lit {v : Int32} {n : Nat} {u : Int32} (hn : n < 2 ^ 31) (hu : u = nI n) : mIn v 0 u = true ↔ ∃ j, j ≤ n ∧ v = nI j := by
  rw [mIn, Bool.and_eq_true, decide_eq_true_eq, decide_eq_true_eq, hu]
  constructor
  · intro ⟨h1, h2⟩
    obtain ⟨j, hj, rfl⟩ := nI_of h1
    rw [nI_ltI (by omega) hj] at h2
    exact ⟨j, by omega, rfl⟩
  · rintro ⟨j, hj, rfl⟩
    exact ⟨nI_pos (by omega), by rw [nI_ltI (by omega) (by omega)]; omega⟩
theorem lit_rng {v u : Int32} {n : Nat} (hn : n + 1 < 2 ^ 31) (hu : u = nI n) : (¬ v < 0 ∧ v ≤ u) ↔ ∃ j, j ≤ n ∧ v = nI j := by
  constructor
  · intro ⟨h1, h2⟩
    obtain ⟨j, hj, rfl⟩ := nI_of h1
    rw [hu, nI_leI hj (by omega)] at h2
    exact ⟨j, h2, rfl⟩
  · rintro ⟨j, hj, rfl⟩
    exact ⟨nI_pos (by omega), by rw [hu, nI_leI (by omega) (by omega)]; exact hj⟩
theorem hasT_iff {X : MS} {n : Nat} {v : Int32} (h : X.1 1 0 1 = nI n) (hn : n ≤ 500) : hasT X v = true ↔ ∃ j, j < n ∧ v = nI j := by
  rw [hasT, Bool.and_eq_true, Bool.and_eq_true, decide_eq_true_eq, decide_eq_true_eq, decide_eq_true_eq, h]
  constructor
  · intro ⟨z, _⟩
    exact (rng_iff (by omega)).mp z
  · intro z
    have h1 := (rng_iff (by omega)).mpr z
    obtain ⟨j, hj, rfl⟩ := z
    exact ⟨h1, by rw [show (500 : Int32) = nI 500 from rfl, nI_leI (by decide) (by omega)]; omega⟩
theorem okG_iff {X : MS} {k : Nat} {v : Int32} (h : X.1 2 0 3 = nI k) (hk : k ≤ 5) : okG X v = true ↔ ∃ j, j < k ∧ v = nI j := by
  rw [okG, Bool.and_eq_true, Bool.and_eq_true, decide_eq_true_eq, decide_eq_true_eq, decide_eq_true_eq, h]
  constructor
  · intro ⟨z, _⟩
    exact (rng_iff (by omega)).mp z
  · intro z
    have h1 := (rng_iff (by omega)).mpr z
    obtain ⟨j, hj, rfl⟩ := z
    exact ⟨h1, by rw [show (5 : Int32) = nI 5 from rfl, nI_leI (by decide) (by omega)]; omega⟩
theorem hasP_iff {X : MS} {k : Nat} {v : Int32} (h : X.1 3 0 3 = nI k) (hk : k ≤ 16) : hasP X v = true ↔ ∃ j, j < k ∧ v = nI j := by
  rw [hasP, Bool.and_eq_true, Bool.and_eq_true, decide_eq_true_eq, decide_eq_true_eq, decide_eq_true_eq, h]
  constructor
  · intro ⟨z, _⟩
    exact (rng_iff (by omega)).mp z
  · intro z
    have h1 := (rng_iff (by omega)).mpr z
    obtain ⟨j, hj, rfl⟩ := z
    exact ⟨h1, by rw [show (16 : Int32) = nI 16 from rfl, nI_leI (by decide) (by omega)]; omega⟩
/-- how many METHODs and entries, on both sides -/
theorem RD.k {X M : MS} (h : RD X M) : ∃ k en, k ≤ 5 ∧ en ≤ 16 ∧ X.1 2 0 3 = nI k ∧ M.1 8 0 9 = nI k ∧ X.1 3 0 3 = nI en ∧ M.1 8 0 4 = nI en ∧ X.1 2 0 2 = M.1 8 0 3 ∧ (k = 0 ∨ ∃ en', ST X M k en' ∧ en' = en ∧ ∀ q, q < k → ∃ c, c ≤ 3 ∧ X.1 4 q 7 = nI c ∧ M.1 47 0 q = nI c) ∧ (0 < en → RP X M en) := by
  rcases h with ⟨a1, a2, a3, a4, a5, a6⟩ | ⟨k, en, b1, b2, b3⟩
  · exact ⟨0, 0, by decide, by decide, a1, a4, a2, a5, by rw [a3, a6], Or.inl rfl, fun z => absurd z (by decide)⟩
  · have hP := b1.2.2.2.2.2.1
    exact ⟨k, en, b1.2.1, hP.1, b1.2.2.1, b1.2.2.2.1, hP.2.1, hP.2.2.1, b1.2.2.2.2.1, Or.inr ⟨en, ⟨b1, b2⟩, rfl, b3⟩, fun _ => hP⟩
/-! the TAPE -/
theorem QT.tw {X M : MS} {n i b : Nat} (h : QT X M n) (hi : i < n) (hb : b < 256) : QT (wI X 9 0 i (nI b)) (wI M 24 0 i (nI b)) n := by
  obtain ⟨h1, h2, h3, h4⟩ := h
  refine ⟨h1, by rw [wI_o _ _ _ _ _ _ _ _ (fun z => absurd z.1 (by decide))]; exact h2, by rw [wI_o _ _ _ _ _ _ _ _ (fun z => absurd z.1 (by decide))]; exact h3, fun j hj => ?_⟩
  by_cases c : j = i
  · rw [c, wI_rd, wI_rd]; exact ⟨rfl, b, hb, rfl⟩
  · rw [wI_o _ _ _ _ _ _ _ _ (fun z => c z.2.2), wI_o _ _ _ _ _ _ _ _ (fun z => c z.2.2)]; exact h4 j hj
theorem QT.app {X M : MS} {n b : Nat} (h : QT X M n) (hn : n < 500) (hb : b < 256) : QT (wI (wI X 9 0 n (nI b)) 1 0 1 (nI (n + 1))) (wI (wI M 24 0 n (nI b)) 8 0 1 (nI (n + 1))) (n + 1) := by
  obtain ⟨h1, h2, h3, h4⟩ := h
  refine ⟨by omega, by rw [wI_rd], by rw [wI_rd], fun j hj => ?_⟩
  have a1 : (wI (wI X 9 0 n (nI b)) 1 0 1 (nI (n + 1))).1 9 0 j = (wI X 9 0 n (nI b)).1 9 0 j := wI_o _ _ _ _ _ _ _ _ (fun z => absurd z.1 (by decide))
  have a2 : (wI (wI M 24 0 n (nI b)) 8 0 1 (nI (n + 1))).1 24 0 j = (wI M 24 0 n (nI b)).1 24 0 j := wI_o _ _ _ _ _ _ _ _ (fun z => absurd z.1 (by decide))
  rw [a1, a2]
  by_cases c : j = n
  · rw [c, wI_rd, wI_rd]; exact ⟨rfl, b, hb, rfl⟩
  · rw [wI_o _ _ _ _ _ _ _ _ (fun z => c z.2.2), wI_o _ _ _ _ _ _ _ _ (fun z => c z.2.2)]; exact h4 j (by omega)
/-- what work on the TAPE leaves -/
def TX (X X' : MS) : Prop := (∀ a b d, a ≠ 1 → a ≠ 9 → X'.1 a b d = X.1 a b d) ∧ X'.2 = X.2
def TM (M M' : MS) : Prop := (∀ a b d, ¬ (a = 8 ∧ d = 1) → a ≠ 24 → M'.1 a b d = M.1 a b d) ∧ M'.2 = M.2
theorem TX.rf (X : MS) : TX X X := ⟨fun _ _ _ _ _ => rfl, rfl⟩
theorem TM.rf (X : MS) : TM X X := ⟨fun _ _ _ _ _ => rfl, rfl⟩
theorem TX.tr {A B C : MS} (h : TX A B) (g : TX B C) : TX A C := ⟨fun a b d y z => (g.1 a b d y z).trans (h.1 a b d y z), g.2.trans h.2⟩
theorem TM.tr {A B C : MS} (h : TM A B) (g : TM B C) : TM A C := ⟨fun a b d y z => (g.1 a b d y z).trans (h.1 a b d y z), g.2.trans h.2⟩
theorem TX.w (X : MS) (k i j : Nat) (v : Int32) (hk : k = 1 ∨ k = 9) : TX X (wI X k i j v) := ⟨fun a b d y z => wI_o _ _ _ _ _ _ _ _ (fun x => by have := x.1; omega), by rw [wI_2]⟩
theorem TM.w (X : MS) (k i j : Nat) (v : Int32) (hk : k = 24 ∨ (k = 8 ∧ j = 1)) : TM X (wI X k i j v) := ⟨fun a b d y z => wI_o _ _ _ _ _ _ _ _ (fun x => by have := x.1; have := x.2; omega), by rw [wI_2]⟩
theorem RR.t {X M X' M' : MS} (h : RR X M) (x : TX X X') (m : TM M M') {n : Nat} (q : QT X' M' n) : RR X' M' :=
  ⟨⟨n, q⟩, h.2.1.o (fun d => by rw [x.2]) (fun d => by rw [m.2]), h.2.2.fr (fun a b d y1 _ y3 _ => x.1 a b d y1 y3) (fun a b d _ _ _ => by rw [x.2]) (fun a b d y => m.1 a b d (by omega) (by omega)) (fun a b d _ => by rw [m.2])⟩
theorem and255 {w : Int64} {n : Nat} (hn : n ≤ 7) : ∃ b, b < 256 ∧ (ushr64 w (8 * nI n)).toInt32 &&& 255 = nI b ∧ (shr64 w (8 * nI n)).toInt32 &&& 255 = nI b := by
  have e8 : (8 : Int32) * nI n = nI (8 * n) := pk_mul 8 n
  obtain ⟨N, hN, rfl⟩ := q_of w
  have hb : ∀ v : Int32, ∃ b, b < 256 ∧ v &&& 255 = nI b := fun v => by
    refine ⟨(v.toBitVec.toNat) % 256, Nat.mod_lt _ (by decide), ?_⟩
    apply i32_ext
    rw [Int32.toBitVec_and, BitVec.toNat_and, show (255 : Int32).toBitVec.toNat = 2 ^ 8 - 1 from rfl, Nat.and_two_pow_sub_one_eq_mod]
    show _ = (BitVec.ofNat 32 _).toNat
    rw [BitVec.toNat_ofNat]
    omega
  obtain ⟨b, b1, b2⟩ := hb (ushr64 (lN N) (nI (8 * n))).toInt32
  rw [e8]
  refine ⟨b, b1, b2, ?_⟩
  rw [← b2]
  apply Int32.toBitVec_inj.mp
  have hk : 8 * n < 64 := by omega
  have e1 : (ushr64 (lN N) (nI (8 * n))).toBitVec = (lN N).toBitVec >>> (8 * n) := by
    unfold ushr64
    rw [q_cu _ hk]
    show ((lN N).toUInt64 >>> UInt64.ofNat (8 * n)).toBitVec = _
    apply BitVec.eq_of_toNat_eq
    show ((lN N).toUInt64 >>> UInt64.ofNat (8 * n)).toNat = _
    rw [UInt64.toNat_shiftRight, BitVec.toNat_ushiftRight, q_u (by omega), Nat.mod_eq_of_lt hk]
    rfl
  have e2 : (shr64 (lN N) (nI (8 * n))).toBitVec = (lN N).toBitVec.sshiftRight (8 * n) := by
    unfold shr64
    rw [q_c _ hk]
    have h : ((lN (8 * n)).toBitVec.smod 64).toNat = 8 * n := by
      rw [q_tb, q_sm _ hk, BitVec.toNat_ofNat, Nat.mod_eq_of_lt (by omega)]
    have h2 : (lN N >>> lN (8 * n)).toBitVec = (lN N).toBitVec.sshiftRight ((lN (8 * n)).toBitVec.smod 64).toNat := rfl
    rw [h2, h]
  apply BitVec.eq_of_getLsbD_eq
  intro i hi
  rw [Int32.toBitVec_and, Int32.toBitVec_and, BitVec.getLsbD_and, BitVec.getLsbD_and]
  by_cases h8 : i < 8
  · congr 1
    show ((shr64 (lN N) (nI (8 * n))).toBitVec.signExtend 32).getLsbD i = ((ushr64 (lN N) (nI (8 * n))).toBitVec.signExtend 32).getLsbD i
    rw [e1, e2, BitVec.getLsbD_signExtend, BitVec.getLsbD_signExtend, BitVec.getLsbD_sshiftRight, BitVec.getLsbD_ushiftRight]
    have h1 : 8 * n + i < 64 := by omega
    have h2 : ¬ 64 ≤ i := by omega
    simp [h1, h2, hi, show i < 64 by omega]
  · have : (255 : Int32).toBitVec.getLsbD i = false := by
      have key : ∀ i, i < 32 → 8 ≤ i → (255 : Int32).toBitVec.getLsbD i = false := by decide
      exact key i hi (by omega)
    rw [this, Bool.and_false, Bool.and_false]
theorem J_feedGo (w : Int64) : ∀ (k n : Nat) (X M : MS), k ≤ 8 → n + k ≤ 500 → QT X M n → QT (feedGo w k X) (mFeedGo w k M) (n + k) ∧ TX X (feedGo w k X) ∧ TM M (mFeedGo w k M)
  | 0, n, X, M, _, _, h => ⟨h, TX.rf X, TM.rf M⟩
  | k + 1, n, X, M, hk, hn, h => by
    obtain ⟨b, b1, b2, b3⟩ := and255 (w := w) (n := k) (by omega)
    have g := nI_guard (i := n) (N := 500) (M := 500) rfl (by omega) (by decide)
    rw [feedGo, mFeedGo, b2, b3, h.2.2.1, nI_1, nI_c (by omega), appT, h.2.1, if_pos g, nI_1, nI_c (by omega)]
    obtain ⟨r1, r2, r3⟩ := J_feedGo w k (n + 1) _ _ (by omega) (by omega) (h.app (by omega) b1)
    rw [show n + (k + 1) = n + 1 + k by omega]
    exact ⟨r1, ((TX.w X 9 0 n (nI b) (Or.inr rfl)).tr (TX.w _ 1 0 1 _ (Or.inl rfl))).tr r2, ((TM.w M 24 0 n (nI b) (Or.inl rfl)).tr (TM.w _ 8 0 1 _ (Or.inr ⟨rfl, rfl⟩))).tr r3⟩
theorem J_feed {X M : MS} (h : RR X M) (w : Int64) (n : Int32) : feedV X w n = mFeedV M w n ∧ RR (feedS X w n) (mFeedS M w n) := by
  obtain ⟨⟨s, hq⟩, -⟩ := id h
  have h1 : (¬ n < 1 ∧ n ≤ 8) ↔ mIn n 1 8 = true := by
    rw [mIn, Bool.and_eq_true, decide_eq_true_eq, decide_eq_true_eq, Int32.not_lt (a := 8)]
  rw [feedV, mFeedV, feedS, mFeedS]
  by_cases c : mIn n 1 8 = true
  · obtain ⟨c1, c2⟩ := h1.mpr c
    obtain ⟨j, hj, rfl⟩ := nI_of2 (M := 8) (n := 8) rfl (fun z => c1 (Int32.lt_of_lt_of_le z (by decide))) c2
    have hs := hq.1
    have e : ∀ v, v = nI s → (v + nI j ≤ 500 ↔ s + j ≤ 500) := fun v hv => by rw [hv, nI_add, show (500 : Int32) = nI 500 from rfl, nI_leI (by omega) (by decide)]
    rw [if_neg c1, if_pos c2, if_pos c, if_neg c1, if_pos c2, if_pos c]
    by_cases d : s + j ≤ 500
    · rw [if_pos ((e _ hq.2.1).mpr d), if_pos ((e _ hq.2.2.1).mpr d), if_pos ((e _ hq.2.1).mpr d), if_pos ((e _ hq.2.2.1).mpr d), nI_c (by omega)]
      obtain ⟨r1, r2, r3⟩ := J_feedGo w j s X M hj d hq
      exact ⟨by rw [r1.2.1, r1.2.2.1], h.t r2 r3 r1⟩
    · rw [if_neg (fun z => d ((e _ hq.2.1).mp z)), if_neg (fun z => d ((e _ hq.2.2.1).mp z)), if_neg (fun z => d ((e _ hq.2.1).mp z)), if_neg (fun z => d ((e _ hq.2.2.1).mp z))]
      exact ⟨rfl, h⟩
  · rw [if_neg c, if_neg c]
    by_cases c1 : n < 1
    · rw [if_pos c1, if_pos c1]; exact ⟨rfl, h⟩
    · have c2 : ¬ n ≤ 8 := fun z => c (h1.mp ⟨c1, z⟩)
      rw [if_neg c1, if_neg c2, if_neg c1, if_neg c2]; exact ⟨rfl, h⟩
theorem J_wipe {X M : MS} (h : RR X M) : X.1 1 0 1 = M.1 8 0 1 ∧ RR (wI X 1 0 1 0) (wI M 8 0 1 0) := by
  obtain ⟨⟨s, hq⟩, -⟩ := id h
  exact ⟨by rw [hq.2.1, hq.2.2.1], h.t (TX.w X 1 0 1 0 (Or.inl rfl)) (TM.w M 8 0 1 0 (Or.inr ⟨rfl, rfl⟩)) (n := 0) ⟨by decide, by rw [wI_rd]; rfl, by rw [wI_rd]; rfl, fun j hj => absurd hj (by omega)⟩⟩
theorem bool_eq {a b : Bool} (h : a = true ↔ b = true) : a = b := Bool.eq_iff_iff.mpr h
theorem nI_xor {a b : Nat} (ha : a < 256) (hb : b < 256) : nI a ^^^ nI b = nI (a ^^^ b) := by
  apply i32_ext
  have hx : a ^^^ b < 2 ^ 8 := Nat.xor_lt_two_pow ha hb
  have e : ∀ n, n < 256 → (nI n).toBitVec.toNat = n := fun n hn => by
    show (BitVec.ofNat 32 n).toNat = n
    rw [BitVec.toNat_ofNat, Nat.mod_eq_of_lt (by omega)]
  rw [Int32.toBitVec_xor, BitVec.toNat_xor, e a ha, e b hb, e _ (by omega)]
theorem J_at {X M : MS} (h : RR X M) (i : Int32) : atV X i = mAtV M i := by
  obtain ⟨⟨s, hq⟩, -⟩ := h
  have hs := hq.1
  have e := hasT_iff (v := i) hq.2.1 hs
  have e2 := mIn_iff (v := i) (n := s) (by omega)
  rw [atV, mAtV, hq.2.2.1]
  by_cases c : hasT X i = true
  · obtain ⟨j, hj, rfl⟩ := e.mp c
    rw [if_pos c, if_pos (e2.mpr ⟨j, hj, rfl⟩), byteT, if_pos c, nI_c (by omega)]
    exact (hq.2.2.2 j hj).1
  · rw [if_neg c, if_neg (fun z => c (e.mpr (e2.mp z)))]
theorem J_alter {X M : MS} (h : RR X M) (i m : Int32) : alterV X i m = mAltV M i m ∧ RR (alterS X i m) (mAltS M i m) := by
  obtain ⟨⟨s, hq⟩, -⟩ := id h
  have hs := hq.1
  have e := hasT_iff (v := i) hq.2.1 hs
  have e2 := mIn_iff (v := i) (n := s) (by omega)
  have e3 := mIn_lit (v := m) (n := 255) (u := 255) (by decide) rfl
  have e4 := lit_rng (v := m) (n := 255) (u := 255) (by decide) rfl
  rw [alterV, mAltV, alterS, mAltS, hq.2.2.1]
  by_cases c : hasT X i = true
  · obtain ⟨j, hj, rfl⟩ := e.mp c
    have c2 := e2.mpr ⟨j, hj, rfl⟩
    rw [if_pos c, if_pos c2, if_pos c, if_pos c2]
    by_cases d : mIn m 0 255 = true
    · obtain ⟨d1, d2⟩ := e4.mpr (e3.mp d)
      obtain ⟨b, hb, rfl⟩ := e3.mp d
      obtain ⟨q1, v, q2, q3⟩ := hq.2.2.2 j hj
      have eb : byteT X (nI j) = nI v := by rw [byteT, if_pos c, nI_c (by omega), q1, q3]
      rw [if_neg d1, if_pos d2, if_pos d, if_neg d1, if_pos d2, if_pos d, eb, nI_c (by omega), q3, nI_xor q2 (by omega), replT, if_pos c, nI_c (by omega)]
      have hx : v ^^^ b < 256 := Nat.xor_lt_two_pow (n := 8) q2 (by omega)
      exact ⟨rfl, h.t (TX.w _ _ _ _ _ (Or.inr rfl)) (TM.w _ _ _ _ _ (Or.inl rfl)) (hq.tw hj hx)⟩
    · rw [if_neg d, if_neg d]
      by_cases d1 : m < 0
      · rw [if_pos d1, if_pos d1]; exact ⟨rfl, h⟩
      · have d2 : ¬ m ≤ 255 := fun z => d (e3.mpr (e4.mp ⟨d1, z⟩))
        rw [if_neg d1, if_neg d2, if_neg d1, if_neg d2]; exact ⟨rfl, h⟩
  · have c2 : ¬ mIn i 0 (nI s - 1) = true := fun z => c (e.mpr (e2.mp z))
    rw [if_neg c, if_neg c2, if_neg c, if_neg c2]; exact ⟨rfl, h⟩
theorem sum255 (v : Int32) : ∃ b, b < 256 ∧ v &&& 255 = nI b := by
  refine ⟨(v.toBitVec.toNat) % 256, Nat.mod_lt _ (by decide), ?_⟩
  apply i32_ext
  rw [Int32.toBitVec_and, BitVec.toNat_and, show (255 : Int32).toBitVec.toNat = 2 ^ 8 - 1 from rfl, Nat.and_two_pow_sub_one_eq_mod]
  show _ = (BitVec.ofNat 32 _).toNat
  rw [BitVec.toNat_ofNat]
  omega
theorem J_seal {X M : MS} (h : RR X M) : (X.1 1 0 1 = 0 ∧ M.1 8 0 1 = 0) ∨ ∃ k, k + 1 ≤ 500 ∧ X.1 1 0 1 = nI (k + 1) ∧ M.1 8 0 1 = nI (k + 1) ∧ sumTo (X.1 9 0) k &&& 255 = sumTo (M.1 24 0) k &&& 255 ∧ RR (wI X 9 0 k (sumTo (X.1 9 0) k &&& 255)) (wI M 24 0 k (sumTo (M.1 24 0) k &&& 255)) := by
  obtain ⟨⟨s, hq⟩, -⟩ := id h
  have hs := hq.1
  cases s with
  | zero => exact Or.inl ⟨hq.2.1, hq.2.2.1⟩
  | succ k =>
    have e : sumTo (X.1 9 0) k = sumTo (M.1 24 0) k := sumTo_congr k (fun j hj => (hq.2.2.2 j (by omega)).1)
    refine Or.inr ⟨k, hs, hq.2.1, hq.2.2.1, by rw [e], ?_⟩
    rw [e]
    obtain ⟨b, b1, b2⟩ := sum255 (sumTo (M.1 24 0) k)
    rw [b2]
    exact h.t (TX.w _ _ _ _ _ (Or.inr rfl)) (TM.w _ _ _ _ _ (Or.inl rfl)) (hq.tw (by omega) b1)
theorem J_fault {X M : MS} (h : RR X M) : X.1 0 0 5 = M.1 8 0 28 := h.2.2.2.2.2.1
theorem J_result {X M : MS} (h : RR X M) : X.2.1 7 0 14 = M.2.1 8 0 43 := h.2.2.2.2.2.2.2.1
