/-! DOUBLEs: what is rounded, on numbers -/
/-- D tells of N / M: it is that, or odd and less than one away -/
def Sy (N M D : Nat) : Prop := N = D * M ∨ (D % 2 = 1 ∧ (D - 1) * M < N ∧ N < (D + 1) * M)
theorem Sy.lt {N M D T : Nat} (h : Sy N M D) (hM : 0 < M) (hT : T % 2 = 0) : N < T * M ↔ D < T := by
  rcases h with rfl | ⟨h1, h2, h3⟩
  · exact Nat.mul_lt_mul_right hM
  · constructor
    · intro z
      have : D - 1 < T := Nat.lt_of_mul_lt_mul_right (Nat.lt_trans h2 z)
      omega
    · intro z
      exact Nat.lt_of_lt_of_le h3 (Nat.mul_le_mul_right M (by omega))
theorem Sy.eq {N M D T : Nat} (h : Sy N M D) (hM : 0 < M) (hT : T % 2 = 0) : N = T * M ↔ D = T := by
  rcases h with rfl | ⟨h1, h2, h3⟩
  · exact ⟨fun z => Nat.eq_of_mul_eq_mul_right hM z, fun z => by rw [z]⟩
  · refine ⟨fun z => ?_, fun z => by omega⟩
    subst z
    have a := Nat.lt_of_mul_lt_mul_right h2
    have b := Nat.lt_of_mul_lt_mul_right h3
    omega
theorem Sy.comp {N M D K D' : Nat} (h : Sy N M D) (hM : 0 < M) (hK : K % 2 = 0 ∨ K = 1) (h2 : Sy D K D') : Sy N (K * M) D' := by
  rcases h2 with e | ⟨a1, a2, a3⟩
  · rcases h with rfl | ⟨b1, b2, b3⟩
    · exact Or.inl (by rw [e, Nat.mul_assoc])
    · rcases hK with z | z
      · exfalso
        rw [e, Nat.mul_mod, z, Nat.mul_zero] at b1
        exact absurd b1 (by decide)
      · subst z
        rw [Nat.mul_one] at e
        subst e
        rw [Nat.one_mul]
        exact Or.inr ⟨b1, b2, b3⟩
  · have t1 : (D' - 1) * K % 2 = 0 := by rw [Nat.mul_mod, show (D' - 1) % 2 = 0 by omega, Nat.zero_mul]
    have t2 : (D' + 1) * K % 2 = 0 := by rw [Nat.mul_mod, show (D' + 1) % 2 = 0 by omega, Nat.zero_mul]
    refine Or.inr ⟨a1, ?_, ?_⟩
    · rw [← Nat.mul_assoc]
      have e1 := h.lt hM t1
      have e2 := h.eq hM t1
      have n1 : ¬ N < (D' - 1) * K * M := fun z => by have := e1.mp z; omega
      have n2 : ¬ N = (D' - 1) * K * M := fun z => by have := e2.mp z; omega
      omega
    · rw [← Nat.mul_assoc]
      exact (h.lt hM t2).mpr a3
theorem Sy.rf (D : Nat) : Sy D 1 D := Or.inl (Nat.mul_one D).symm
theorem pw_par (k : Nat) : 2 ^ k % 2 = 0 ∨ 2 ^ k = 1 := by
  cases k with
  | zero => exact Or.inr rfl
  | succ k => left; rw [Nat.pow_succ]; omega
/-- digits shifted down, the last one telling of what is lost -/
def shS (D k : Nat) : Nat := if D % 2 ^ k = 0 then D / 2 ^ k else D / 2 ^ k / 2 * 2 + 1
theorem shS_gen {D P c r : Nat} (hd : P * c + r = D) (hm : r < P) (h : ¬ r = 0) : (c / 2 * 2 + 1) % 2 = 1 ∧ (c / 2 * 2 + 1 - 1) * P < D ∧ D < (c / 2 * 2 + 1 + 1) * P := by
  refine ⟨by omega, ?_, ?_⟩
  · have h1 : c / 2 * 2 + 1 - 1 ≤ c := by omega
    have h2 := Nat.mul_le_mul_right P h1
    rw [Nat.mul_comm c P] at h2
    omega
  · have h1 : c + 1 ≤ c / 2 * 2 + 1 + 1 := by omega
    have h2 := Nat.mul_le_mul_right P h1
    rw [Nat.add_mul c 1 P, Nat.one_mul, Nat.mul_comm c P] at h2
    omega
theorem shS_y (D k : Nat) : Sy D (2 ^ k) (shS D k) := by
  have hp := Nat.two_pow_pos k
  have hd := Nat.div_add_mod D (2 ^ k)
  have hm := Nat.mod_lt D hp
  unfold shS
  by_cases h : D % 2 ^ k = 0
  · rw [if_pos h]; left; rw [Nat.mul_comm]; omega
  · rw [if_neg h]; right
    exact shS_gen hd hm h
theorem near_u {A B m : Nat} (hB : 0 < B) (h1 : 2 * A ≤ 2 * (m * B) + B) (h2 : 2 * (m * B) ≤ 2 * A + B) (h3 : 2 * A = 2 * (m * B) + B ∨ 2 * (m * B) = 2 * A + B → m % 2 = 0) : FP.Core.nearest A B = m := by
  obtain ⟨g1, g2, g3⟩ := FP.Core.nearest_spec A B hB
  generalize FP.Core.nearest A B = n at *
  have e1 : (2 * n + 1) * B = 2 * (n * B) + B := by rw [Nat.add_mul, Nat.mul_assoc, Nat.one_mul]
  rw [e1] at g1 g3
  rw [Nat.mul_assoc 2 n B] at g2 g3
  rcases Nat.lt_trichotomy n m with z | z | z
  · exfalso
    by_cases y : m = n + 1
    · subst y
      have e2 : (n + 1) * B = n * B + B := Nat.succ_mul _ _
      rw [e2] at h1 h2 h3
      have a1 := g3 (Or.inl (by omega))
      have a2 := h3 (Or.inr (by omega))
      omega
    · have h4 := Nat.mul_le_mul_right B (show n + 2 ≤ m by omega)
      have e2 : (n + 2) * B = n * B + 2 * B := Nat.add_mul _ _ _
      rw [e2] at h4
      omega
  · exact z
  · exfalso
    by_cases y : n = m + 1
    · subst y
      have e2 : (m + 1) * B = m * B + B := Nat.succ_mul _ _
      rw [e2] at g1 g2 g3
      have a1 := h3 (Or.inl (by omega))
      have a2 := g3 (Or.inr (by omega))
      omega
    · have h4 := Nat.mul_le_mul_right B (show m + 2 ≤ n by omega)
      have e2 : (m + 2) * B = m * B + 2 * B := Nat.add_mul _ _ _
      rw [e2] at h4
      omega
/-- t = 4 or 2: units of which 8 / (2 t) .. -/
theorem near_t {N M D c t m : Nat} (h : Sy N M D) (hM : 0 < M) (ht : t % 2 = 0) (hc : c * t = 4) (hc0 : 0 < c) (g1 : 2 * (D * c) ≤ (2 * m + 1) * 8) (g2 : 2 * m * 8 ≤ 2 * (D * c) + 8) (g3 : 2 * (D * c) = (2 * m + 1) * 8 ∨ 2 * m * 8 = 2 * (D * c) + 8 → m % 2 = 0) : FP.Core.nearest (N * c) (M * 8) = m := by
  have hT : (2 * m + 1) * t % 2 = 0 := by rw [Nat.mul_mod, ht, Nat.mul_zero]
  have hD1 : D ≤ (2 * m + 1) * t := by
    have : D * c ≤ (2 * m + 1) * t * c := by rw [Nat.mul_assoc, Nat.mul_comm t c, hc]; omega
    exact Nat.le_of_mul_le_mul_right this hc0
  have x1 : (2 * m + 1) * t * M * c = 8 * (m * M) + 4 * M := by
    have : (2 * m + 1) * t * M * c = (c * t) * ((2 * m + 1) * M) := by ac_rfl
    rw [this, hc, Nat.add_mul, Nat.mul_assoc 2 m M]; omega
  have x2 : m * (M * 8) = 8 * (m * M) := by ac_rfl
  have l1 := h.lt hM hT
  have l2 := h.eq hM hT
  have hN1 : N ≤ (2 * m + 1) * t * M := by
    rcases Nat.lt_or_ge D ((2 * m + 1) * t) with z | z
    · exact Nat.le_of_lt (l1.mpr z)
    · exact Nat.le_of_eq (l2.mpr (by omega))
  have hN1' := Nat.mul_le_mul_right c hN1
  have hlow : ∀ j, m = j + 1 → (2 * j + 1) * t % 2 = 0 ∧ (2 * j + 1) * t * M * c = 8 * (j * M) + 4 * M ∧ (2 * j + 1) * t ≤ D ∧ (2 * j + 1) * t * M ≤ N := fun j hj => by
    have hT' : (2 * j + 1) * t % 2 = 0 := by rw [Nat.mul_mod, ht, Nat.mul_zero]
    have y1 : (2 * j + 1) * t * M * c = 8 * (j * M) + 4 * M := by
      have : (2 * j + 1) * t * M * c = (c * t) * ((2 * j + 1) * M) := by ac_rfl
      rw [this, hc, Nat.add_mul, Nat.mul_assoc 2 j M]; omega
    have hD2 : (2 * j + 1) * t ≤ D := by
      have : (2 * j + 1) * t * c ≤ D * c := by rw [Nat.mul_assoc, Nat.mul_comm t c, hc]; omega
      exact Nat.le_of_mul_le_mul_right this hc0
    refine ⟨hT', y1, hD2, ?_⟩
    have l3 := h.lt hM hT'
    exact Nat.not_lt.mp (fun z => by have := l3.mp z; omega)
  refine near_u (by omega) ?_ ?_ ?_
  · rw [x2]; omega
  · rw [x2]
    cases hm : m with
    | zero => omega
    | succ j =>
      obtain ⟨-, y1, -, y3⟩ := hlow j hm
      have y4 := Nat.mul_le_mul_right c y3
      rw [Nat.add_mul j 1 M, Nat.one_mul]
      omega
  · intro z
    apply g3
    rw [x2] at z
    rcases z with z | z
    · left
      have : N * c = (2 * m + 1) * t * M * c := by omega
      have e := l2.mp (Nat.eq_of_mul_eq_mul_right hc0 this)
      rw [e, Nat.mul_assoc, Nat.mul_comm t c, hc]; omega
    · right
      cases hm : m with
      | zero => rw [hm] at z; omega
      | succ j =>
        obtain ⟨y0, y1, y2, y3⟩ := hlow j hm
        rw [hm, Nat.add_mul j 1 M, Nat.one_mul] at z
        have : N * c = (2 * j + 1) * t * M * c := by omega
        have e := (h.eq hM y0).mp (Nat.eq_of_mul_eq_mul_right hc0 this)
        have e5 : (2 * j + 1) * t * c = (2 * j + 1) * 4 := by rw [Nat.mul_assoc, Nat.mul_comm t c, hc]
        rw [e, e5]; omega
theorem near_Sy {N M D u : Nat} (h : Sy N M D) (hM : 0 < M) (hu : N = D * M ∨ u ≤ 1) : FP.Core.nearest (N * 2 ^ u) (M * 8) = FP.Core.nearest (D * 2 ^ u) 8 := by
  by_cases he : N = D * M
  · exact FP.Core.nearest_congr (by omega) (by decide) (by rw [he]; ac_rfl)
  · obtain ⟨g1, g2, g3⟩ := FP.Core.nearest_spec (D * 2 ^ u) 8 (by decide)
    rcases (show u = 0 ∨ u = 1 by omega) with rfl | rfl
    · exact near_t (t := 4) h hM (by decide) (by decide) (by decide) g1 g2 g3
    · exact near_t (t := 2) h hM (by decide) (by decide) (by decide) g1 g2 g3
theorem thr_Sy {N M D u y : Nat} (h : Sy N M D) (hM : 0 < M) (hu : N = D * M ∨ u ≤ 1) : N * 2 ^ u < M * 2 ^ (y + 2) ↔ D * 2 ^ u < 2 ^ (y + 2) := by
  by_cases he : N = D * M
  · rw [he, show D * M * 2 ^ u = D * 2 ^ u * M by ac_rfl, Nat.mul_comm M]
    exact Nat.mul_lt_mul_right hM
  · have e : 2 ^ (y + 2) = 4 * 2 ^ y := by rw [Nat.pow_add]; omega
    rcases (show u = 0 ∨ u = 1 by omega) with rfl | rfl
    · have := h.lt (T := 2 ^ (y + 2)) hM (by omega)
      rw [Nat.pow_zero, Nat.mul_one, Nat.mul_one, Nat.mul_comm M]
      exact this
    · have := h.lt (T := 2 * 2 ^ y) hM (by omega)
      have e2 : M * (4 * 2 ^ y) = 2 * (2 * 2 ^ y * M) := by
        have a1 : M * (4 * 2 ^ y) = 4 * (2 ^ y * M) := by ac_rfl
        have a2 : 2 * 2 ^ y * M = 2 * (2 ^ y * M) := by ac_rfl
        omega
      rw [e, e2, Nat.pow_one]
      omega
theorem Sy.pos {N M D : Nat} (h : Sy N M D) (hM : 0 < M) (hD : 0 < D) : 0 < N := by
  rcases h with rfl | ⟨-, h2, -⟩
  · exact Nat.mul_pos hD hM
  · exact Nat.lt_of_le_of_lt (Nat.zero_le _) h2
theorem rr_up {s : Bool} {N M D u n : Nat} {e : Int} (hM : 0 < M) (hD : 0 < D) (h : Sy N M D) (hu : N = D * M ∨ u ≤ 1) (he : e = (n : Int) + u - 1077) (h1 : D * 2 ^ u < 2 ^ 56) (h2 : n = 0 ∨ 2 ^ 55 ≤ D * 2 ^ u) : FP.Core.roundRatio FP.Core.b64 s N M e = FP.Core.settle FP.Core.b64 s (FP.Core.nearest (D * 2 ^ u) 8) ((n : Int) - 1074) := by
  have hN := h.pos hM hD
  have hmin : FP.Core.b64.qmin = -1074 := by decide
  have hq : FP.Core.quantum FP.Core.b64 N M e = (n : Int) - 1074 := by
    refine FP.Core.quantum_eq hN hM (by rw [hmin]; omega) ?_ ?_
    · have e1 : (n : Int) - 1074 - e + ((FP.Core.b64.p : Nat) : Int) = ((56 : Nat) : Int) - (u : Nat) := by
        show (n : Int) - 1074 - e + ((53 : Nat) : Int) = _
        omega
      rw [e1, FP.Core.below_iff]
      exact (thr_Sy (y := 54) h hM hu).mpr h1
    · rcases h2 with z | z
      · left; rw [hmin, z]; rfl
      · right
        have e1 : (n : Int) - 1074 - e + (((FP.Core.b64.p : Nat) : Int) - 1) = ((55 : Nat) : Int) - (u : Nat) := by
          show (n : Int) - 1074 - e + (((53 : Nat) : Int) - 1) = _
          omega
        rw [e1, FP.Core.below_iff]
        intro y
        have := (thr_Sy (y := 53) h hM hu).mp y
        omega
  rw [FP.Core.roundRatio, if_neg (by omega), FP.Core.roundAt, hq, ← near_Sy h hM hu]
  congr 1
  refine FP.Core.nearest_congr (FP.Core.unitsDen_pos hM _ _) (by omega) ?_
  unfold FP.Core.unitsNum FP.Core.unitsDen
  have e3 : 2 ^ (e - ((n : Int) - 1074)).toNat * 8 = 2 ^ u * 2 ^ ((n : Int) - 1074 - e).toNat := by
    rw [show (8 : Nat) = 2 ^ 3 from rfl, ← Nat.pow_add, ← Nat.pow_add]
    congr 1
    omega
  rw [show N * 2 ^ (e - ((n : Int) - 1074)).toNat * (M * 8) = N * M * (2 ^ (e - ((n : Int) - 1074)).toNat * 8) by ac_rfl, e3]
  ac_rfl
theorem rr_dn {s : Bool} {N M D k n : Nat} {e : Int} (hM : 0 < M) (hD : 0 < D) (h : Sy N M D) (he : e = (n : Int) - k - 1077) (h1 : D < 2 ^ (56 + k)) (h2 : n = 0 ∨ 2 ^ (55 + k) ≤ D) : FP.Core.roundRatio FP.Core.b64 s N M e = FP.Core.settle FP.Core.b64 s (FP.Core.nearest (shS D k) 8) ((n : Int) - 1074) := by
  have hN := h.pos hM hD
  have hmin : FP.Core.b64.qmin = -1074 := by decide
  have hu : N = D * M ∨ 0 ≤ 1 := Or.inr (by decide)
  have hq : FP.Core.quantum FP.Core.b64 N M e = (n : Int) - 1074 := by
    refine FP.Core.quantum_eq hN hM (by rw [hmin]; omega) ?_ ?_
    · have e1 : (n : Int) - 1074 - e + ((FP.Core.b64.p : Nat) : Int) = ((54 + k + 2 : Nat) : Int) - (0 : Nat) := by
        show (n : Int) - 1074 - e + ((53 : Nat) : Int) = _
        omega
      rw [e1, FP.Core.below_iff]
      refine (thr_Sy (y := 54 + k) h hM hu).mpr ?_
      rw [Nat.pow_zero, Nat.mul_one, show 54 + k + 2 = 56 + k by omega]
      exact h1
    · rcases h2 with z | z
      · left; rw [hmin, z]; rfl
      · right
        have e1 : (n : Int) - 1074 - e + (((FP.Core.b64.p : Nat) : Int) - 1) = ((53 + k + 2 : Nat) : Int) - (0 : Nat) := by
          show (n : Int) - 1074 - e + (((53 : Nat) : Int) - 1) = _
          omega
        rw [e1, FP.Core.below_iff]
        intro y
        have := (thr_Sy (y := 53 + k) h hM hu).mp y
        rw [Nat.pow_zero, Nat.mul_one, show 53 + k + 2 = 55 + k by omega] at this
        omega
  have hS := h.comp hM (pw_par k) (shS_y D k)
  have hK : 0 < 2 ^ k * M := Nat.mul_pos (Nat.two_pow_pos k) hM
  have e0 := near_Sy (u := 0) hS hK (Or.inr (by decide))
  rw [Nat.pow_zero, Nat.mul_one, Nat.mul_one] at e0
  rw [FP.Core.roundRatio, if_neg (by omega), FP.Core.roundAt, hq, ← e0]
  congr 1
  refine FP.Core.nearest_congr (FP.Core.unitsDen_pos hM _ _) (by omega) ?_
  unfold FP.Core.unitsNum FP.Core.unitsDen
  rw [show (e - ((n : Int) - 1074)).toNat = 0 by omega, show ((n : Int) - 1074 - e).toNat = k + 3 by omega, Nat.pow_add, Nat.pow_zero, Nat.mul_one]
  show N * (2 ^ k * M * 8) = N * (M * (2 ^ k * 8))
  ac_rfl
/-- the bits of what is settled -/
theorem enc_set {s : Bool} {c n : Nat} (hc : c ≤ 2 ^ 53) (h : n = 0 ∨ 2 ^ 52 ≤ c) : FP.Core.encode FP.Core.b64 (FP.Core.settle FP.Core.b64 s c ((n : Int) - 1074)) = s.toNat * 2 ^ 63 + if n ≤ 2045 then n * 2 ^ 52 + c else 2047 * 2 ^ 52 := by
  have hmin : FP.Core.b64.qmin = -1074 := by decide
  have hmax : FP.Core.b64.qmax = 971 := by decide
  have ht : FP.Core.b64.tails = 2 ^ 52 := by decide
  have hx : FP.Core.b64.exps = 2 ^ 11 := by decide
  have hp : (2 : Nat) ^ FP.Core.b64.p = 2 ^ 53 := by decide
  unfold FP.Core.settle FP.Core.bound
  rw [hp, hmax, ht]
  by_cases c1 : c < 2 ^ 53
  · rw [if_pos c1]
    by_cases c2 : n ≤ 2045
    · rw [if_pos (show (n : Int) - 1074 ≤ 971 by omega), if_pos c2, FP.Core.encode, ht]
      by_cases c3 : c < 2 ^ 52
      · rw [if_pos c3, FP.Core.assemble, hx, ht]; omega
      · rw [if_neg c3, FP.Core.assemble, hx, ht, hmin]; omega
    · rw [if_neg (show ¬ (n : Int) - 1074 ≤ 971 by omega), if_neg c2, FP.Core.encode, FP.Core.assemble, hx, ht]; omega
  · rw [if_neg c1]
    by_cases c2 : n ≤ 2044
    · rw [if_pos (show (n : Int) - 1074 + 1 ≤ 971 by omega), if_pos (by omega), FP.Core.encode, ht, if_neg (by omega), FP.Core.assemble, hx, ht, hmin]; omega
    · rw [if_neg (show ¬ (n : Int) - 1074 + 1 ≤ 971 by omega), FP.Core.encode, FP.Core.assemble, hx, ht]
      split <;> omega
theorem near8 (F : Nat) : FP.Core.nearest F 8 = if 4 < F % 8 then F / 8 + 1 else if F % 8 = 4 then (if F / 8 % 2 = 1 then F / 8 + 1 else F / 8) else F / 8 := by
  unfold FP.Core.nearest
  (repeat' split) <;> omega
theorem near8_le {F : Nat} (h : F < 2 ^ 56) : FP.Core.nearest F 8 ≤ 2 ^ 53 := by
  rw [near8]
  (repeat' split) <;> omega
theorem near8_ge {F : Nat} (h : 2 ^ 55 ≤ F) : 2 ^ 52 ≤ FP.Core.nearest F 8 := by
  rw [near8]
  (repeat' split) <;> omega
theorem shS_lt {D k : Nat} (h : D < 2 ^ (56 + k)) : shS D k < 2 ^ 56 := by
  have h1 : D / 2 ^ k < 2 ^ 56 := by rw [Nat.div_lt_iff_lt_mul (Nat.two_pow_pos k), ← Nat.pow_add]; exact h
  unfold shS
  split <;> omega
theorem shS_ge {D k : Nat} (h : 2 ^ (55 + k) ≤ D) : 2 ^ 55 ≤ shS D k := by
  have h1 : 2 ^ 55 ≤ D / 2 ^ k := by rw [Nat.le_div_iff_mul_le (Nat.two_pow_pos k), ← Nat.pow_add]; exact h
  unfold shS
  split <;> omega
