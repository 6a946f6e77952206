/-! the two sides judge alike: what an OP does to the kinds -/
def cut (st : Nat → Nat) (n : Nat) : Nat → Nat := fun i => if i < n then st i else 0
theorem cut_at {st : Nat → Nat} {n i : Nat} (h : i < n) : cut st n i = st i := if_pos h
theorem cut_ge {st : Nat → Nat} {n i : Nat} (h : n ≤ i) : cut st n i = 0 := if_neg (by omega)
theorem cut_lt {st : Nat → Nat} {n : Nat} (h : ∀ i, st i < 4) : ∀ i, cut st n i < 4 := fun i => by
  unfold cut
  split
  · exact h i
  · decide
theorem cut_all {st : Nat → Nat} {d : Nat} (h : ∀ i, d ≤ i → st i = 0) : cut st d = st := by
  funext i
  unfold cut
  split
  · rfl
  · exact (h i (by omega)).symm
theorem cut_cut {st : Nat → Nat} {n m : Nat} (h : m ≤ n) : cut (cut st n) m = cut st m := by
  funext i
  unfold cut
  split
  · rw [if_pos (by omega)]
  · rfl
theorem cut_up {st : Nat → Nat} {d : Nat} (h : ∀ i, d + 1 ≤ i → st i = 0) : up st d 0 = cut st d := by
  funext i
  unfold up cut
  by_cases h1 : i = d
  · rw [if_pos h1, if_neg (by omega)]
  · rw [if_neg h1]
    by_cases h2 : i < d
    · rw [if_pos h2]
    · rw [if_neg h2]; exact h i (by omega)
theorem up_cut {st : Nat → Nat} {d : Nat} (h : ∀ i, d + 1 ≤ i → st i = 0) : up (cut st d) d (st d) = st := by
  funext i
  unfold up cut
  by_cases h1 : i = d
  · rw [if_pos h1, h1]
  · rw [if_neg h1]
    by_cases h2 : i < d
    · rw [if_pos h2]
    · rw [if_neg h2]; exact (h i (by omega)).symm
theorem KW.pop1 {w : Int32} {d : Nat} {st lo : Nat → Nat} (h : KW w (d + 1) st lo) : KW (kPop w) d (cut st d) lo := by
  rw [← cut_up (d := d) h.2.2.2.1]
  exact h.pop
/-- pops, wanted kinds: the class's stack part -/
theorem jsGo_N (want : Int32) : ∀ (c d : Nat) (w top : Int32) (b : Bool) (st lo : Nat → Nat), KW w d st lo → c ≤ d → KW (jsGo want c w top b).1 (d - c) (cut st (d - c)) lo ∧ (jsGo want c w top b).2.1 = (if c = 0 then top else nI (st (d - c))) ∧ ((jsGo want c w top b).2.2 = true ↔ b = true ∧ ∀ k, k < c → want = 0 ∨ want = nI (st (d - 1 - k)))
  | 0, d, w, top, b, st, lo, h, _ => ⟨by rw [Nat.sub_zero, cut_all h.2.2.2.1]; exact h, rfl, ⟨fun z => ⟨z, fun k hk => absurd hk (Nat.not_lt_zero _)⟩, fun z => z.1⟩⟩
  | c + 1, d, w, top, b, st, lo, h, hc => by
    obtain ⟨e, rfl⟩ : ∃ e, d = e + 1 := ⟨d - 1, by omega⟩
    have ht := h.top0 (by omega)
    rw [Nat.add_sub_cancel] at ht
    obtain ⟨a1, a2, a3⟩ := jsGo_N want c e (kPop w) (kItem w (kDepth w - 1)) (b && (decide (want = 0) || decide (want = kItem w (kDepth w - 1)))) (cut st e) lo h.pop1 (by omega)
    rw [jsGo]
    rw [show e + 1 - (c + 1) = e - c by omega]
    refine ⟨by rw [cut_cut (by omega)] at a1; exact a1, ?_, ?_⟩
    · rw [a2, if_neg (show ¬ c + 1 = 0 by omega)]
      by_cases hc0 : c = 0
      · rw [if_pos hc0, ht, hc0, Nat.sub_zero]
      · rw [if_neg hc0, cut_at (by omega)]
    · rw [a3, Bool.and_eq_true, Bool.or_eq_true, decide_eq_true_eq, decide_eq_true_eq, ht]
      constructor
      · rintro ⟨⟨g1, g2⟩, g3⟩
        refine ⟨g1, fun k hk => ?_⟩
        by_cases hk0 : k = 0
        · rw [hk0]; exact g2
        · have := g3 (k - 1) (by omega)
          rw [cut_at (by omega), show e - 1 - (k - 1) = e + 1 - 1 - k by omega] at this
          exact this
      · rintro ⟨g1, g3⟩
        refine ⟨⟨g1, g3 0 (by omega)⟩, fun k hk => ?_⟩
        have := g3 (k + 1) (by omega)
        rw [cut_at (by omega), show e - 1 - k = e + 1 - 1 - (k + 1) by omega]
        exact this
theorem jcGo_N {fk : Int32} {fst flo : Nat → Nat} {fd : Nat} (hf : KW fk fd fst flo) : ∀ (c d : Nat) (w : Int32) (st lo : Nat → Nat), c ≤ 6 → KW w d st lo → c ≤ d → ((jcGo fk c w).1 = true ↔ ∀ k, k < c → st (d - 1 - k) = flo (c - 1 - k)) ∧ ((jcGo fk c w).1 = true → KW (jcGo fk c w).2 (d - c) (cut st (d - c)) lo)
  | 0, d, w, st, lo, _, h, _ => ⟨⟨fun _ k hk => absurd hk (Nat.not_lt_zero _), fun _ => rfl⟩, fun _ => by rw [Nat.sub_zero, cut_all h.2.2.2.1]; exact h⟩
  | c + 1, d, w, st, lo, hc6, h, hc => by
    obtain ⟨e, rfl⟩ : ∃ e, d = e + 1 := ⟨d - 1, by omega⟩
    have ht := h.top0 (by omega)
    rw [Nat.add_sub_cancel] at ht
    obtain ⟨a1, a2⟩ := jcGo_N hf c e (kPop w) (cut st e) lo (by omega) h.pop1 (by omega)
    have b1 := h.2.2.1 e
    have b2 := hf.2.2.2.2 c
    rw [jcGo, ht, hf.loc (by omega), show e + 1 - (c + 1) = e - c by omega]
    by_cases h1 : nI (st e) = nI (flo c)
    · rw [if_pos h1]
      rw [nI_eq (by omega) (by omega)] at h1
      refine ⟨?_, fun z => by have := a2 z; rw [cut_cut (by omega)] at this; exact this⟩
      rw [a1]
      constructor
      · intro g k hk
        by_cases hk0 : k = 0
        · rw [hk0]; exact h1
        · have := g (k - 1) (by omega)
          rw [cut_at (by omega), show e - 1 - (k - 1) = e + 1 - 1 - k by omega, show c - 1 - (k - 1) = c + 1 - 1 - k by omega] at this
          exact this
      · intro g k hk
        have := g (k + 1) (by omega)
        rw [cut_at (by omega), show e - 1 - k = e + 1 - 1 - (k + 1) by omega, show c - 1 - k = c + 1 - 1 - (k + 1) by omega]
        exact this
    · rw [if_neg h1]
      rw [nI_eq (by omega) (by omega)] at h1
      refine ⟨⟨fun z => absurd z (by simp), fun g => absurd (g 0 (by omega)) h1⟩, fun z => absurd z (by simp)⟩
theorem jkGo_iff (S : MS) (o : Int32) (m g d : Nat) : ∀ (n k : Nat) (b : Bool), jkGo S o m g d n k b = true ↔ b = true ∧ ∀ i, k ≤ i → i < k + n → jkW S o m g i = 0 ∨ S.1 48 0 (d - 1 - i) = jkW S o m g i
  | 0, k, b => ⟨fun h => ⟨h, fun i h1 h2 => by omega⟩, fun h => h.1⟩
  | n + 1, k, b => by
    rw [jkGo, jkGo_iff S o m g d n (k + 1), Bool.and_eq_true, Bool.or_eq_true, decide_eq_true_eq, decide_eq_true_eq]
    constructor
    · rintro ⟨⟨h0, h1⟩, h2⟩
      refine ⟨h0, fun i hi hi2 => ?_⟩
      by_cases hik : i = k
      · rw [hik]; exact h1
      · exact h2 i (by omega) (by omega)
    · rintro ⟨h0, h2⟩
      exact ⟨⟨h0, h2 k (by omega) (by omega)⟩, fun i hi hi2 => h2 i (by omega) (by omega)⟩
/-! an OP's numbers -/
def tkN (M : MS) (g : Nat) : Nat := (M.1 31 0 g).toNatClampNeg
def gvN (M : MS) (g : Nat) : Nat := (M.1 33 0 g).toNatClampNeg
def tkk (M : MS) (g l : Nat) : Nat := (M.1 32 0 (3 * g + l)).toNatClampNeg
def tab (k o : Nat) : Nat := (opTab k (nI o)).toNatClampNeg
def opN (M : MS) (o g : Nat) : Nat := if o = 21 then tkN M g else tab 0 o
def opW (M : MS) (q o g k : Nat) : Nat := if o = 21 then tkk M g (tkN M g - 1 - k) else if o = 22 then gvN M q else tab 1 o
def opP (M : MS) (o g d : Nat) (st lo : Nat → Nat) : Nat := if o = 3 then lo g else if o = 5 then st (d - 1) else if o = 21 then gvN M g else tab 2 o
def opOk (M : MS) (q o g d : Nat) (st lo : Nat → Nat) : Prop := (o = 3 → lo g ≠ 0) ∧ ∀ k, k < opN M o g → opW M q o g k = 0 ∨ st (d - 1 - k) = opW M q o g k
def afN (M : MS) (o g : Nat) : Nat := if o = 5 then 0 else opN M o g
def afL (o g d : Nat) (st lo : Nat → Nat) : Nat → Nat := if o = 4 then up lo g (st (d - 1)) else lo
def afD (M : MS) (o g d : Nat) (st lo : Nat → Nat) : Nat := if opP M o g d st lo = 0 then d - afN M o g else d - afN M o g + 1
def afS (M : MS) (o g d : Nat) (st lo : Nat → Nat) : Nat → Nat := if opP M o g d st lo = 0 then cut st (d - afN M o g) else up (cut st (d - afN M o g)) (d - afN M o g) (opP M o g d st lo)
theorem tab_ok : ∀ k, k < 3 → ∀ o, o < 25 → opTab k (nI o) = nI (tab k o) ∧ tab k o ≤ 2 := by decide +kernel
theorem tab_pops : ∀ o, o < 25 → o ≠ 21 → (if (mIn (nI o) 7 14 || decide (nI o = 17) || decide (nI o = 18)) = true then (2 : Int32) else bI (mIn (nI o) 4 6 || decide (nI o = 15) || decide (nI o = 16) || decide (nI o = 20) || decide (21 < nI o))) = nI (tab 0 o) := by decide +kernel
theorem tab_wnt : ∀ o, o < 25 → o ≠ 22 → (if (mIn (nI o) 7 10 || decide (nI o = 15) || decide (nI o = 17) || decide (nI o = 20) || decide (nI o = 23)) = true then (1 : Int32) else if (mIn (nI o) 11 14 || decide (nI o = 16) || decide (nI o = 18) || decide (nI o = 24)) = true then 2 else 0) = nI (tab 1 o) := by decide +kernel
theorem tab_psh1 : ∀ o, o < 25 → o ≠ 3 → o ≠ 5 → o ≠ 21 → (if (decide (nI o = 1) || mIn (nI o) 7 10 || mIn (nI o) 16 18) = true then (1 : Int32) else if (decide (nI o = 2) || mIn (nI o) 11 15 || decide (¬ nI o ≤ 22)) = true then 2 else 0) = nI (tab 2 o) := by decide +kernel
theorem tab_psh2 : (decide ((3 : Int32) = 1) || mIn 3 7 10 || mIn 3 16 18) = false ∧ (decide ((3 : Int32) = 2) || mIn 3 11 15 || decide (¬ (3 : Int32) ≤ 22)) = false ∧ (decide ((5 : Int32) = 1) || mIn 5 7 10 || mIn 5 16 18) = false ∧ (decide ((5 : Int32) = 2) || mIn 5 11 15 || decide (¬ (5 : Int32) ≤ 22)) = false ∧ (decide ((21 : Int32) = 1) || mIn 21 7 10 || mIn 21 16 18) = false ∧ (decide ((21 : Int32) = 2) || mIn 21 11 15 || decide (¬ (21 : Int32) ≤ 22)) = false := by decide +kernel
theorem nI_o {o v : Nat} (ho : o < 25) (hv : v < 25) : nI o = nI v ↔ o = v := nI_eq (by omega) (by omega)
theorem mPops_N {M : MS} {o g t : Nat} (ho : o < 25) (ht : o = 21 → M.1 31 0 g = nI t ∧ t ≤ 3) : mPops M (nI o) g = nI (opN M o g) ∧ opN M o g ≤ 3 := by
  unfold mPops opN
  by_cases h : o = 21
  · obtain ⟨h1, h2⟩ := ht h
    rw [if_pos (by rw [h]; rfl), if_pos h, tkN, h1, nI_c (by omega)]
    exact ⟨rfl, h2⟩
  · rw [if_neg (show ¬ nI o = (21 : Int32) from fun z => h ((nI_o ho (v := 21) (by decide)).mp z)), if_neg h, tab_pops o ho h]
    exact ⟨rfl, by have := (tab_ok 0 (by decide) o ho).2; omega⟩
theorem jkW_N {M : MS} {q o g k t gq : Nat} (ho : o < 25) (ht : o = 21 → M.1 31 0 g = nI t ∧ t ≤ 3 ∧ ∀ l, l < t → M.1 32 0 (3 * g + l) = nI (tkk M g l) ∧ tkk M g l ≤ 2) (hg : M.1 33 0 q = nI gq) (hg2 : gq ≤ 2) (hk : k < opN M o g) : jkW M (nI o) q g k = nI (opW M q o g k) ∧ opW M q o g k ≤ 2 := by
  unfold jkW opW
  by_cases h : o = 21
  · obtain ⟨h1, h2, h3⟩ := ht h
    have hkt : k < t := by rw [opN, if_pos h, tkN, h1, nI_c (by omega)] at hk; exact hk
    rw [if_pos (by rw [h]; rfl), if_pos h, tkN, h1, nI_c (by omega)]
    exact h3 (t - 1 - k) (by omega)
  · rw [if_neg (show ¬ nI o = (21 : Int32) from fun z => h ((nI_o ho (v := 21) (by decide)).mp z)), if_neg h]
    unfold mWnt
    by_cases h22 : o = 22
    · rw [if_pos (by rw [h22]; rfl), if_pos h22, gvN, hg, nI_c (by omega)]
      exact ⟨rfl, hg2⟩
    · rw [if_neg (show ¬ nI o = (22 : Int32) from fun z => h22 ((nI_o ho (v := 22) (by decide)).mp z)), if_neg h22, tab_wnt o ho h22]
      exact ⟨rfl, (tab_ok 1 (by decide) o ho).2⟩
theorem mPsh_N {M : MS} {o g d gg : Nat} {st lo : Nat → Nat} {top : Int32} (ho : o < 25) (h3 : o = 3 → M.1 49 0 g = nI (lo g)) (h5 : o = 5 → top = nI (st (d - 1))) (h21 : o = 21 → M.1 33 0 g = nI gg ∧ gg ≤ 2) : mPsh M (nI o) g top = nI (opP M o g d st lo) := by
  obtain ⟨z1, z2, z3, z4, z5, z6⟩ := tab_psh2
  unfold mPsh opP
  by_cases e3 : o = 3
  · rw [if_pos e3, e3, show nI 3 = 3 from rfl, z1, z2]
    exact h3 e3
  · by_cases e5 : o = 5
    · rw [if_neg e3, if_pos e5, e5, show nI 5 = 5 from rfl, z3, z4]
      exact h5 e5
    · by_cases e21 : o = 21
      · obtain ⟨h1, h2⟩ := h21 e21
        rw [if_neg e3, if_neg e5, if_pos e21, e21, show nI 21 = 21 from rfl, z5, z6, gvN, h1, nI_c (by omega)]
        rfl
      · rw [if_neg e3, if_neg e5, if_neg e21, ← tab_psh1 o ho e3 e5 e21, if_neg (show ¬ nI o = (3 : Int32) from fun z => e3 ((nI_o ho (v := 3) (by decide)).mp z)), if_neg (show ¬ nI o = (5 : Int32) from fun z => e5 ((nI_o ho (v := 5) (by decide)).mp z)), if_neg (show ¬ nI o = (21 : Int32) from fun z => e21 ((nI_o ho (v := 21) (by decide)).mp z))]
