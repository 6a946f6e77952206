/-! the two sides run alike: values, the top frame, pushes and pops -/
theorem wD_o (S : MS) (k i j a b d : Nat) (v : UInt64) (h : ¬ (a = k ∧ b = i ∧ d = j)) : (wD S k i j v).2.2 a b d = S.2.2 a b d := if_neg h
theorem wD_rd (S : MS) (k i j : Nat) (v : UInt64) : (wD S k i j v).2.2 k i j = v := by rw [wD_at, if_pos rfl]
theorem wD_l (S : MS) (k i j : Nat) (v : UInt64) : (wD S k i j v).2.1 = S.2.1 := rfl
theorem wL_d (S : MS) (k i j : Nat) (v : Int64) : (wL S k i j v).2.2 = S.2.2 := rfl
/-- one NaN -/
def CN (w : UInt64) : Prop := FP.dIsNaN w = true → w = 9221120237041090560
/-- a value, alike: kind 1 an INT, kind 2 a DOUBLE -/
def VR (c : Nat) (v : Int64) (i : Int32) (w : UInt64) : Prop := (c = 1 → v = i.toInt64) ∧ (c = 2 → v.toUInt64 = w ∧ CN w)
/-- the frame on top -/
def TP (X M : MS) (F b d : Nat) (st lo : Nat → Nat) : Prop := X.1 7 0 6 = nI (F + 1) ∧ M.1 8 0 36 = nI (F + 1) ∧ F < 8 ∧ b ≤ 6 * F ∧ d ≤ 6 ∧ X.1 7 0 7 = nI (b + d) ∧ M.1 52 0 F = nI d ∧ (∀ i, i < d → (st i = 1 ∨ st i = 2) ∧ VR (st i) (X.2.1 19 0 (b + i)) (M.1 53 0 (12 * F + 6 + i)) (M.2.2 54 0 (12 * F + 6 + i))) ∧ ∀ l, l < 6 → VR (lo l) (X.2.1 20 0 (6 * F + l)) (M.1 53 0 (12 * F + l)) (M.2.2 54 0 (12 * F + l))
/-- what work on the top frame leaves -/
def OX (X X' : MS) (F b : Nat) : Prop := (∀ c e d, ¬ (c = 7 ∧ e = 0 ∧ d = 7) → X'.1 c e d = X.1 c e d) ∧ ∀ c e d, ¬ (c = 19 ∧ b ≤ d) → ¬ (c = 20 ∧ 6 * F ≤ d) → X'.2.1 c e d = X.2.1 c e d
def OM (M M' : MS) (F : Nat) : Prop := (∀ c e d, ¬ (c = 52 ∧ d = F) → ¬ (c = 53 ∧ 12 * F ≤ d) → M'.1 c e d = M.1 c e d) ∧ M'.2.1 = M.2.1 ∧ ∀ c e d, ¬ (c = 54 ∧ 12 * F ≤ d) → M'.2.2 c e d = M.2.2 c e d
theorem OX.rf (X : MS) (F b : Nat) : OX X X F b := ⟨fun _ _ _ _ => rfl, fun _ _ _ _ _ => rfl⟩
theorem OM.rf (M : MS) (F : Nat) : OM M M F := ⟨fun _ _ _ _ _ => rfl, rfl, fun _ _ _ _ => rfl⟩
theorem OX.tr {A B C : MS} {F b : Nat} (h : OX A B F b) (g : OX B C F b) : OX A C F b := ⟨fun c e d z => (g.1 c e d z).trans (h.1 c e d z), fun c e d y z => (g.2 c e d y z).trans (h.2 c e d y z)⟩
theorem OM.tr {A B C : MS} {F : Nat} (h : OM A B F) (g : OM B C F) : OM A C F := ⟨fun c e d y z => (g.1 c e d y z).trans (h.1 c e d y z), g.2.1.trans h.2.1, fun c e d z => (g.2.2 c e d z).trans (h.2.2 c e d z)⟩
theorem TP.kinds {X M : MS} {F b d : Nat} {st lo st' lo' : Nat → Nat} (h : TP X M F b d st lo) (hs : ∀ i, i < d → st i = st' i) (hl : ∀ l, l < 6 → lo' l = 0 ∨ lo' l = lo l) : TP X M F b d st' lo' := by
  obtain ⟨a1, a2, a3, a4, a5, a6, a7, a8, a9⟩ := h
  refine ⟨a1, a2, a3, a4, a5, a6, a7, fun i hi => by rw [← hs i hi]; exact a8 i hi, fun l hl' => ?_⟩
  rcases hl l hl' with z | z
  · rw [z]; exact ⟨fun y => by omega, fun y => by omega⟩
  · rw [z]; exact a9 l hl'
/-- a value pushed -/
theorem TP.push {X M : MS} {F b d c : Nat} {st lo : Nat → Nat} {v : Int64} {i : Int32} {w : UInt64} (h : TP X M F b d st lo) (hd : d < 6) (hc : c = 1 ∨ c = 2) (hv : VR c v i w) : TP (xmPush X v) (mPushS M i w F d) F b (d + 1) (up (cut st d) d c) lo ∧ OX X (xmPush X v) F b ∧ OM M (mPushS M i w F d) F := by
  obtain ⟨a1, a2, a3, a4, a5, a6, a7, a8, a9⟩ := h
  have g := nI_guard (N := 48) (M := 48) rfl (show b + d < 48 by omega) (by decide)
  have eX : xmPush X v = wI (wL X 19 0 (b + d) v) 7 0 7 (nI (b + d + 1)) := by
    rw [xmPush, a6, if_pos g, nI_c (by omega), nI_1]
  rw [eX, mPushS]
  refine ⟨⟨?_, ?_, a3, a4, by omega, ?_, ?_, fun j hj => ?_, fun l hl => ?_⟩, ⟨fun c e x z => ?_, fun c e x z1 z2 => ?_⟩, ⟨fun c e x z1 z2 => ?_, ?_, fun c e x z => ?_⟩⟩
  · rw [wI_o _ _ _ _ _ _ _ _ (by decide), wL_1]; exact a1
  · rw [wI_o _ _ _ _ _ _ _ _ (fun z => absurd z.1 (by decide)), wD_1, wI_o _ _ _ _ _ _ _ _ (fun z => absurd z.1 (by decide))]; exact a2
  · rw [wI_rd, Nat.add_assoc]
  · rw [wI_rd]
  · rw [wI_2, wL_at, wI_o _ _ _ _ _ _ _ _ (fun z => absurd z.1 (by decide)), wD_1, wI_2, wD_at]
    by_cases hjd : j = d
    · rw [hjd, if_pos rfl, if_pos rfl, wI_rd, up_at]; exact ⟨hc, hv⟩
    · have hlt : j < d := by omega
      rw [if_neg (by omega), if_neg (by omega), wI_o _ _ _ _ _ _ _ _ (by omega), up_ne _ _ hjd, cut_at hlt, wI_2]; exact a8 j hlt
  · rw [wI_2, wL_o _ _ _ _ _ _ _ _ (fun z => absurd z.1 (by decide)), wI_o _ _ _ _ _ _ _ _ (fun z => absurd z.1 (by decide)), wD_1, wI_2, wD_o _ _ _ _ _ _ _ _ (by omega), wI_o _ _ _ _ _ _ _ _ (by omega), wI_2]
    exact a9 l hl
  · rw [wI_o _ _ _ _ _ _ _ _ z, wL_1]
  · rw [wI_2, wL_o _ _ _ _ _ _ _ _ (fun y => z1 ⟨y.1, by omega⟩)]
  · rw [wI_o _ _ _ _ _ _ _ _ (fun y => z1 ⟨y.1, y.2.2⟩), wD_1, wI_o _ _ _ _ _ _ _ _ (fun y => z2 ⟨y.1, by omega⟩)]
  · rw [wI_2, wD_l, wI_2]
  · rw [wI_2, wD_o _ _ _ _ _ _ _ _ (fun y => z ⟨y.1, by omega⟩), wI_2]
/-- a value popped -/
theorem TP.pop {X M : MS} {F b d : Nat} {st lo : Nat → Nat} (h : TP X M F b (d + 1) st lo) : TP (xmPopS X) (mPopS M F d) F b d (cut st d) lo ∧ OX X (xmPopS X) F b ∧ OM M (mPopS M F d) F ∧ VR (st d) (xmPopV X) (M.1 53 0 (12 * F + 6 + d)) (M.2.2 54 0 (12 * F + 6 + d)) := by
  obtain ⟨a1, a2, a3, a4, a5, a6, a7, a8, a9⟩ := h
  have e1 : X.1 7 0 7 - 1 = nI (b + d) := by rw [a6, ← Nat.add_assoc, nI_m1]
  have g := nI_guard (N := 48) (M := 48) rfl (show b + d < 48 by omega) (by decide)
  have g2 : nI (b + d) < (48 : Int32) := Int32.not_le.mp g.2
  have eX : xmPopS X = wI X 7 0 7 (nI (b + d)) := by rw [xmPopS, e1, if_neg g.1, if_pos g2]
  have eV : xmPopV X = X.2.1 19 0 (b + d) := by rw [xmPopV, e1, if_neg g.1, if_pos g2, nI_c (by omega)]
  rw [eX, eV, mPopS]
  refine ⟨⟨?_, ?_, a3, a4, by omega, ?_, ?_, fun j hj => ?_, fun l hl => ?_⟩, ⟨fun c e x z => wI_o _ _ _ _ _ _ _ _ z, fun c e x z1 z2 => by rw [wI_2]⟩, ⟨fun c e x z1 z2 => wI_o _ _ _ _ _ _ _ _ (fun y => z1 ⟨y.1, y.2.2⟩), by rw [wI_2], fun c e x z => by rw [wI_2]⟩, (a8 d (by omega)).2⟩
  · rw [wI_o _ _ _ _ _ _ _ _ (by decide)]; exact a1
  · rw [wI_o _ _ _ _ _ _ _ _ (fun z => absurd z.1 (by decide))]; exact a2
  · rw [wI_rd]
  · rw [wI_rd]
  · rw [wI_2, wI_2, wI_o _ _ _ _ _ _ _ _ (fun z => absurd z.1 (by decide)), cut_at hj]; exact a8 j (by omega)
  · rw [wI_2, wI_2, wI_o _ _ _ _ _ _ _ _ (fun z => absurd z.1 (by decide))]; exact a9 l hl
theorem xmAt_N {X : MS} {F g : Nat} (h : X.1 7 0 6 = nI (F + 1)) (hF : F < 8) (hg : g < 6) : xmAt X (nI g) = nI (6 * F + g) ∧ ¬ xmAt X (nI g) < 0 ∧ ¬ 48 ≤ xmAt X (nI g) ∧ (xmAt X (nI g)).toNatClampNeg = 6 * F + g := by
  have e : xmAt X (nI g) = nI (6 * F + g) := by rw [xmAt, h, nI_m1, show (6 : Int32) = nI 6 from rfl, Int32.mul_comm, ixN]
  have gd := nI_guard (N := 48) (M := 48) rfl (show 6 * F + g < 48 by omega) (by decide)
  rw [e]
  exact ⟨rfl, gd.1, gd.2, nI_c (by omega)⟩
/-- a local read -/
theorem TP.loc {X M : MS} {F b d g : Nat} {st lo : Nat → Nat} (h : TP X M F b d st lo) (hg : g < 6) : VR (lo g) (xmLoc X (nI g)) (M.1 53 0 (12 * F + g)) (M.2.2 54 0 (12 * F + g)) := by
  obtain ⟨e1, e2, e3, e4⟩ := xmAt_N h.1 h.2.2.1 hg
  rw [xmLoc, if_neg e2, if_neg e3, e4]
  exact h.2.2.2.2.2.2.2.2 g hg
/-- a local written -/
theorem TP.set {X M : MS} {F b d g c : Nat} {st lo : Nat → Nat} {v : Int64} {i : Int32} {w : UInt64} (h : TP X M F b d st lo) (hg : g < 6) (hv : VR c v i w) : TP (xmSetLoc X (nI g) v) (wD (wI M 53 0 (12 * F + g) i) 54 0 (12 * F + g) w) F b d st (up lo g c) ∧ OX X (xmSetLoc X (nI g) v) F b ∧ OM M (wD (wI M 53 0 (12 * F + g) i) 54 0 (12 * F + g) w) F := by
  obtain ⟨e1, e2, e3, e4⟩ := xmAt_N h.1 h.2.2.1 hg
  obtain ⟨a1, a2, a3, a4, a5, a6, a7, a8, a9⟩ := h
  rw [xmSetLoc, if_neg e2, if_neg e3, e4]
  refine ⟨⟨a1, ?_, a3, a4, a5, a6, ?_, fun j hj => ?_, fun l hl => ?_⟩, ⟨fun c e x z => by rw [wL_1], fun c e x z1 z2 => wL_o _ _ _ _ _ _ _ _ (fun y => z2 ⟨y.1, by omega⟩)⟩, ⟨fun c e x z1 z2 => ?_, by rw [wD_l, wI_2], fun c e x z => ?_⟩⟩
  · rw [wD_1, wI_o _ _ _ _ _ _ _ _ (fun z => absurd z.1 (by decide))]; exact a2
  · rw [wD_1, wI_o _ _ _ _ _ _ _ _ (fun z => absurd z.1 (by decide))]; exact a7
  · rw [wL_o _ _ _ _ _ _ _ _ (fun z => absurd z.1 (by decide)), wD_1, wI_o _ _ _ _ _ _ _ _ (by omega), wD_o _ _ _ _ _ _ _ _ (by omega), wI_2]
    exact a8 j hj
  · rw [wL_at, wD_1, wD_at]
    by_cases hlg : l = g
    · rw [hlg, if_pos rfl, if_pos rfl, wI_rd, up_at]; exact hv
    · rw [if_neg (by omega), if_neg (by omega), wI_o _ _ _ _ _ _ _ _ (by omega), up_ne _ _ hlg, wI_2]; exact a9 l hl
  · rw [wD_1, wI_o _ _ _ _ _ _ _ _ (fun y => z2 ⟨y.1, by omega⟩)]
  · rw [wD_o _ _ _ _ _ _ _ _ (fun y => z ⟨y.1, by omega⟩), wI_2]
