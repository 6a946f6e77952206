/-! the two sides read alike: the POOL -/
theorem takeS_2 (S : MS) (lo up f : Int32) : (takeS S lo up f).2 = S.2 := by unfold takeS; (repeat' split) <;> rfl
theorem mFaultS_2 (S : MS) (w a : Int32) : (mFaultS S w a).2 = S.2 := by unfold mFaultS; split <;> rfl
theorem mTakeS_2 (S : MS) : (mTakeS S).2 = S.2 := by
  unfold mTakeS
  (repeat' split) <;> first | exact mFaultS_2 _ _ _ | rfl
theorem mTknS_2 (S : MS) (lo up w : Int32) : (mTknS S lo up w).2 = S.2 := by
  unfold mTknS
  (repeat' split) <;> first | exact mTakeS_2 _ | exact (mFaultS_2 _ _ _).trans (mTakeS_2 _)
theorem manyGo_2 (lo up : Int32) : ∀ (n : Nat) (v : Int64) (S : MS), (manyGo lo up n v S).2.2 = S.2
  | 0, _, _ => rfl
  | n + 1, v, S => by rw [manyGo, manyGo_2 lo up n, takeS_2]
theorem manyGo_o (lo up : Int32) (a b d : Nat) (h : a ≠ 5) : ∀ (n : Nat) (v : Int64) (S : MS), (manyGo lo up n v S).2.1 a b d = S.1 a b d
  | 0, _, _ => rfl
  | n + 1, v, S => by rw [manyGo, manyGo_o lo up a b d h n, takeS_o _ _ _ _ _ _ _ h]
theorem mLongGo_2 : ∀ (n : Nat) (v : Int64) (S : MS), (mLongGo n v S).2.2 = S.2
  | 0, _, _ => rfl
  | n + 1, v, S => by rw [mLongGo, mLongGo_2 n, mTakeS_2]
theorem letGo_2 (e : Nat) : ∀ (n k : Nat) (S : MS), (letGo e n k S).2 = S.2
  | 0, _, _ => rfl
  | n + 1, k, S => by
    rw [letGo, letGo_2 e n]
    exact mTknS_2 _ _ _ _
theorem mLongGo_f : ∀ (n : Nat) (v : Int64) (S : MS), (mLongGo n v S).2.1 8 0 28 = 0 → S.1 8 0 28 = 0
  | 0, _, _, h => h
  | n + 1, v, S, h => mTakeS_f (mLongGo_f n _ _ h)
theorem letGo_f (e : Nat) : ∀ (n k : Nat) (S : MS), (letGo e n k S).1 8 0 28 = 0 → S.1 8 0 28 = 0
  | 0, _, _, h => h
  | n + 1, k, S, h => by
    have h1 := letGo_f e n (k + 1) _ h
    rw [wI_o _ _ _ _ _ _ _ _ (fun z => absurd z.1 (by decide))] at h1
    exact mTknS_f h1
theorem letGo_at (e : Nat) (d : Nat) : ∀ (n k : Nat) (S : MS), (d < 8 * e + k ∨ 8 * e + k + n ≤ d) → (letGo e n k S).1 29 0 d = S.1 29 0 d
  | 0, _, _, _ => rfl
  | n + 1, k, S, h => by
    rw [letGo, letGo_at e d n (k + 1) _ (by omega), wI_o _ _ _ _ _ _ _ _ (fun z => by have := z.2.2; omega), mTknS_o _ _ _ _ _ _ _ (fun z => absurd z.1 (by decide)) (fun z => absurd z.1 (by decide)) (fun z => absurd z.1 (by decide))]
/-- a byte that was no fault is within bounds -/
theorem mTkn_in {S : MS} {lo up w : Int32} (hw : ¬ w = 0) (h : (mTknS S lo up w).1 8 0 28 = 0) : mIn (mTknV S lo up w) lo up = true := by
  have hv : mTknV S lo up w = mTakeV S := by rw [mTknV, if_pos h]
  rw [hv]
  unfold mTknS at h
  by_cases h1 : (mTakeS S).1 8 0 28 = 0
  · rw [if_pos h1] at h
    by_cases h2 : mIn (mTakeV S) lo up = true
    · exact h2
    · rw [if_neg h2] at h
      exact (mFaultS_0 hw h).elim
  · rw [if_neg h1] at h; exact absurd h h1
theorem mIn_N {v lo up : Int32} {a b : Nat} (h : mIn v lo up = true) (ha : lo = nI a) (hb : up = nI b) (h31 : b < 2 ^ 31) (ha31 : a < 2 ^ 31) : ∃ j, a ≤ j ∧ j ≤ b ∧ v = nI j := by
  subst ha hb
  simp only [mIn, Bool.and_eq_true, decide_eq_true_eq] at h
  obtain ⟨j, hj, rfl⟩ := nI_of2 (M := nI b) (n := b) (nI_toInt h31) (fun z => h.1 (Int32.lt_of_lt_of_le z (nI_pos' ha31))) (Int32.not_lt.mp h.2)
  have h1 := h.1
  rw [nI_ltI (by omega) (by omega)] at h1
  exact ⟨j, by omega, hj, rfl⟩
/-- letters in one number -/
def pL (f : Nat → Nat) : Nat → Nat
  | 0 => 0
  | n + 1 => pL f n * 256 + f n
theorem pL_lt (f : Nat → Nat) : ∀ n, (∀ j, j < n → f j < 256) → pL f n < 256 ^ n
  | 0, _ => by rw [pL]; decide
  | n + 1, h => by
    have h1 := pL_lt f n (fun j hj => h j (by omega))
    have h2 := h n (by omega)
    rw [pL, Nat.pow_succ]
    omega
theorem pL_congr {f g : Nat → Nat} : ∀ n, (∀ j, j < n → f j = g j) → pL f n = pL g n
  | 0, _ => rfl
  | n + 1, h => by rw [pL, pL, pL_congr n (fun j hj => h j (by omega)), h n (by omega)]
theorem pL_pow {i : Nat} (hi : i ≤ 8) : (256 : Nat) ^ i ≤ 2 ^ 64 := by
  have : (256 : Nat) ^ i ≤ 256 ^ 8 := Nat.pow_le_pow_right (by decide) hi
  exact this
theorem pL_step {f : Nat → Nat} {i c : Nat} (hi : i < 8) (hf : ∀ j, j < i → f j < 256) (hc : c < 256) : shl64 (lN (pL f i)) 8 ||| (nI c).toInt64 = lN (pL (up f i c) (i + 1)) := by
  have h1 := pL_lt f i hf
  have h2 : (256 : Nat) ^ (i + 1) ≤ 2 ^ 64 := pL_pow (by omega)
  rw [Nat.pow_succ] at h2
  rw [show (8 : Int32) = nI 8 from rfl, q_shl _ (by decide), nI_l (by omega), q_or (by omega) (by omega), pL, up_at, pL_congr i (fun j hj => up_ne f c (by omega))]
def LT (M : MS) (e i : Nat) (f : Nat → Nat) : Prop := ∀ j, j < i → M.1 29 0 (8 * e + j) = nI (f j) ∧ 97 ≤ f j ∧ f j ≤ 122
theorem QR.let {n e : Nat} : ∀ (k i : Nat) (v : Int64) (X M : MS), QR X M n → i + k ≤ 8 → (M.1 8 0 28 = 0 → ∃ f, LT M e i f ∧ v = lN (pL f i)) → QR (manyGo 97 122 k v X).2 (letGo e k i M) n ∧ ((letGo e k i M).1 8 0 28 = 0 → ∃ f, LT (letGo e k i M) e (i + k) f ∧ (manyGo 97 122 k v X).1 = lN (pL f (i + k)))
  | 0, i, v, X, M, h, _, hL => ⟨h, hL⟩
  | k + 1, i, v, X, M, h, hi, hL => by
    obtain ⟨e1, h2⟩ := h.tk 97 122 5 (by decide)
    have h3 : QR (takeS X 97 122 5) (wI (mTknS M 97 122 5) 29 0 (8 * e + i) (mTknV M 97 122 5)) n := h2.same (fun _ _ _ => rfl) (fun d _ => wI_o _ _ _ _ _ _ _ _ (fun z => absurd z.1 (by decide))) (fun j => wI_o _ _ _ _ _ _ _ _ (fun z => absurd z.1 (by decide)))
    rw [manyGo, letGo, show i + (k + 1) = i + 1 + k by omega]
    refine QR.let k (i + 1) _ _ _ h3 (by omega) (fun hz => ?_)
    rw [wI_o _ _ _ _ _ _ _ _ (fun z => absurd z.1 (by decide))] at hz
    obtain ⟨f, hf, hv⟩ := hL (mTknS_f hz)
    obtain ⟨c, c1, c2, c3⟩ := mIn_N (mTkn_in (by decide) hz) (a := 97) (b := 122) rfl rfl (by decide) (by decide)
    refine ⟨up f i c, fun j hj => ?_, ?_⟩
    · by_cases hji : j = i
      · rw [hji, wI_rd, up_at]; exact ⟨c3, c1, c2⟩
      · rw [wI_o _ _ _ _ _ _ _ _ (fun z => by have := z.2.2; omega), mTknS_o _ _ _ _ _ _ _ (fun z => absurd z.1 (by decide)) (fun z => absurd z.1 (by decide)) (fun z => absurd z.1 (by decide)), up_ne _ _ hji]
        exact hf j (by omega)
    · rw [hv, e1, c3]
      exact pL_step (by omega) (fun j hj => by have := (hf j hj).2.2; omega) (by omega)
/-- entry e is alike -/
def RE (X M : MS) (e : Nat) : Prop := X.1 11 0 e = M.1 26 0 e ∧ ((M.1 26 0 e = 1 ∧ X.2.1 13 0 e = M.2.1 27 0 e ∧ ∃ x : Int32, M.2.1 27 0 e = x.toInt64) ∨ (M.1 26 0 e = 2 ∧ X.2.1 13 0 e = dCanon (M.2.1 27 0 e)) ∨ (M.1 26 0 e = 3 ∧ ∃ w f, 1 ≤ w ∧ w ≤ 8 ∧ X.1 12 0 e = nI w ∧ M.1 28 0 e = nI w ∧ LT M e w f ∧ X.2.1 13 0 e = lN (pL f w)))
theorem RE.same {X M X' M' : MS} {e : Nat} (h : RE X M e) (x1 : X'.1 11 0 e = X.1 11 0 e) (x2 : X'.1 12 0 e = X.1 12 0 e) (x3 : X'.2.1 13 0 e = X.2.1 13 0 e) (m1 : M'.1 26 0 e = M.1 26 0 e) (m2 : M'.1 28 0 e = M.1 28 0 e) (m3 : M'.2.1 27 0 e = M.2.1 27 0 e) (m4 : ∀ j, j < 8 → M'.1 29 0 (8 * e + j) = M.1 29 0 (8 * e + j)) : RE X' M' e := by
  obtain ⟨h1, h2⟩ := h
  refine ⟨by rw [x1, m1]; exact h1, ?_⟩
  rw [m1, m2, m3, x2, x3]
  rcases h2 with h2 | h2 | ⟨h2, w, f, a1, a2, a3, a4, a5, a6⟩
  · exact Or.inl h2
  · exact Or.inr (Or.inl h2)
  · exact Or.inr (Or.inr ⟨h2, w, f, a1, a2, a3, a4, fun j hj => by rw [m4 j (by omega)]; exact a5 j hj, a6⟩)
theorem appP_at {X : MS} {e : Nat} (he : e < 16) (h : X.1 3 0 3 = nI e) (t z : Int32) (v : Int64) : appP X t z v = wI (wL (wI (wI X 11 0 e t) 12 0 e z) 13 0 e v) 3 0 3 (nI (e + 1)) := by
  have g := nI_guard (N := 16) (M := 16) rfl he (by decide)
  rw [appP, h, if_pos g, nI_c (by omega), nI_1]
theorem appP_o (X : MS) (t z : Int32) (v : Int64) (a b d : Nat) (h1 : a ≠ 11) (h2 : a ≠ 12) (h3 : a ≠ 3) : (appP X t z v).1 a b d = X.1 a b d := by
  unfold appP
  split
  · rw [wI_o _ _ _ _ _ _ _ _ (fun z => h3 z.1), wL_1, wI_o _ _ _ _ _ _ _ _ (fun z => h2 z.1), wI_o _ _ _ _ _ _ _ _ (fun z => h1 z.1)]
  · rfl
theorem appP_3 (X : MS) (t z : Int32) (v : Int64) (d : Nat) (h : d ≠ 3) : (appP X t z v).1 3 0 d = X.1 3 0 d := by
  unfold appP
  split
  · rw [wI_o _ _ _ _ _ _ _ _ (fun z => h z.2.2), wL_1, wI_o _ _ _ _ _ _ _ _ (fun z => absurd z.1 (by decide)), wI_o _ _ _ _ _ _ _ _ (fun z => absurd z.1 (by decide))]
  · rfl
theorem wL_o (S : MS) (k i j a b d : Nat) (v : Int64) (h : ¬ (a = k ∧ b = i ∧ d = j)) : (wL S k i j v).2.1 a b d = S.2.1 a b d := if_neg h
theorem wL_rd (S : MS) (k i j : Nat) (v : Int64) : (wL S k i j v).2.1 k i j = v := by rw [wL_at, if_pos rfl]
theorem wI_2 (S : MS) (k i j : Nat) (v : Int32) : (wI S k i j v).2 = S.2 := rfl
/-- what is appended -/
theorem app_all {X : MS} {e : Nat} (he : e < 16) (h : X.1 3 0 3 = nI e) (t z : Int32) (v : Int64) : (appP X t z v).1 3 0 3 = nI (e + 1) ∧ (appP X t z v).1 11 0 e = t ∧ (appP X t z v).1 12 0 e = z ∧ (appP X t z v).2.1 13 0 e = v ∧ (∀ q, q ≠ e → (appP X t z v).1 11 0 q = X.1 11 0 q ∧ (appP X t z v).1 12 0 q = X.1 12 0 q ∧ (appP X t z v).2.1 13 0 q = X.2.1 13 0 q) := by
  rw [appP_at he h]
  refine ⟨wI_rd .., ?_, ?_, ?_, fun q hq => ⟨?_, ?_, ?_⟩⟩
  · rw [wI_o _ _ _ _ _ _ _ _ (fun z => absurd z.1 (by decide)), wL_1, wI_o _ _ _ _ _ _ _ _ (fun z => absurd z.1 (by decide)), wI_rd]
  · rw [wI_o _ _ _ _ _ _ _ _ (fun z => absurd z.1 (by decide)), wL_1, wI_rd]
  · rw [wI_2, wL_rd]
  · rw [wI_o _ _ _ _ _ _ _ _ (fun z => absurd z.1 (by decide)), wL_1, wI_o _ _ _ _ _ _ _ _ (fun z => absurd z.1 (by decide)), wI_o _ _ _ _ _ _ _ _ (fun z => hq z.2.2)]
  · rw [wI_o _ _ _ _ _ _ _ _ (fun z => absurd z.1 (by decide)), wL_1, wI_o _ _ _ _ _ _ _ _ (fun z => hq z.2.2), wI_o _ _ _ _ _ _ _ _ (fun z => absurd z.1 (by decide))]
  · rw [wI_2, wL_o _ _ _ _ _ _ _ _ (fun z => hq z.2.2)]; rfl
