/-! Math.max, min, abs: by the kit's rows -/
section WSM
variable {p : Program} {l : Launch} {e : Env} {R : Room} {s : State} {m : MethodId} {args : Array Value} {below : List Frame} {meth : Method} {c : Code} {G : GG} {A : Nat → Prop} {cells slots : Nat} {Q : State → Prop} {cc : ByteArray} {own : String} {nL : Nat} {ret : Option FieldType}
variable {pc nxt idx : Nat} {lv : List (Option MV)} {st : List MV} {S : MS}
theorem e_max : y_JM_max = Lib.Math.max.name ∧ c_JM_max = Lib.Math.max.code := ⟨by decide +kernel, by decide +kernel⟩
theorem e_min : y_JM_min = Lib.Math.min.name ∧ c_JM_min = Lib.Math.min.code := ⟨by decide +kernel, by decide +kernel⟩
theorem e_abs : y_JM_abs = Lib.MathLoose.abs_long.x ∧ c_JM_abs = Lib.MathLoose.abs_long.code := ⟨by decide +kernel, by decide +kernel⟩
def maxI (a b : Int32) : Int32 := if a < b then b else a
def minI (a b : Int32) : Int32 := if b < a then b else a
def absL (a : Int64) : Int64 := if 0 < a then a else -a
theorem ws_mmax (X : CX p s m args meth c G A cc own nL ret) {x y : Int32} (hy : CSm y_JM_max c_JM_max 2 (some .int) 2) (hlk : Cond.methodLink own idx y_JM_max ∈ lw_gd) (hR : 1 ≤ R.frames ∧ mcs st + 13 ≤ R.locals) (hf : cells ≤ R.cells ∧ slots ≤ R.slots) (hdg : DC cc pc (.invokestatic idx) 3 nxt) (K : WS p l e R s m args below meth c G A nL cells slots Q nxt lv (.inl (.int (maxI x y)) :: st) S) : WS p l e R s m args below meth c G A nL cells slots Q pc lv (.inl (.int y) :: .inl (.int x) :: st) S := by
  obtain ⟨h1, rfl⟩ := hdg
  obtain ⟨h2, h3, h4, -⟩ := hy
  rw [e_max.1] at h2 h3 h4 hlk
  rw [e_max.2] at h4
  intro H locs ls hP hD hS hl
  exact va_mmax X.1 X.2.1 (X.2.2.1.trans hl.1.symm) X.2.2.2.1 (X.2.2.2.2.1 _ hlk) (X.2.2.2.2.1 _ h2) (X.2.2.2.2.1 _ h3) (X.2.2.2.2.1 _ h4) hR.1 (by rw [mcs_tr]; exact hR.2) hf.1 hf.2 h1 (K H locs ls hP hD hS hl)
theorem ws_mmin (X : CX p s m args meth c G A cc own nL ret) {x y : Int32} (hy : CSm y_JM_min c_JM_min 2 (some .int) 2) (hlk : Cond.methodLink own idx y_JM_min ∈ lw_gd) (hR : 1 ≤ R.frames ∧ mcs st + 13 ≤ R.locals) (hf : cells ≤ R.cells ∧ slots ≤ R.slots) (hdg : DC cc pc (.invokestatic idx) 3 nxt) (K : WS p l e R s m args below meth c G A nL cells slots Q nxt lv (.inl (.int (minI x y)) :: st) S) : WS p l e R s m args below meth c G A nL cells slots Q pc lv (.inl (.int y) :: .inl (.int x) :: st) S := by
  obtain ⟨h1, rfl⟩ := hdg
  obtain ⟨h2, h3, h4, -⟩ := hy
  rw [e_min.1] at h2 h3 h4 hlk
  rw [e_min.2] at h4
  intro H locs ls hP hD hS hl
  exact va_mmin X.1 X.2.1 (X.2.2.1.trans hl.1.symm) X.2.2.2.1 (X.2.2.2.2.1 _ hlk) (X.2.2.2.2.1 _ h2) (X.2.2.2.2.1 _ h3) (X.2.2.2.2.1 _ h4) hR.1 (by rw [mcs_tr]; exact hR.2) hf.1 hf.2 h1 (K H locs ls hP hD hS hl)
theorem ws_mabs (X : CX p s m args meth c G A cc own nL ret) {x : Int64} (hy : CSm y_JM_abs c_JM_abs 2 (some .long) 1) (hlk : Cond.methodLink own idx y_JM_abs ∈ lw_gd) (hR : 1 ≤ R.frames ∧ mcs st + 13 ≤ R.locals) (hf : cells ≤ R.cells ∧ slots ≤ R.slots) (hdg : DC cc pc (.invokestatic idx) 3 nxt) (K : WS p l e R s m args below meth c G A nL cells slots Q nxt lv (.inl (.long (absL x)) :: st) S) : WS p l e R s m args below meth c G A nL cells slots Q pc lv (.inl (.long x) :: st) S := by
  obtain ⟨h1, rfl⟩ := hdg
  obtain ⟨h2, h3, h4, -⟩ := hy
  rw [e_abs.1] at h2 h3 h4 hlk
  rw [e_abs.2] at h4
  intro H locs ls hP hD hS hl
  exact va_mabs_long X.1 X.2.1 (X.2.2.1.trans hl.1.symm) X.2.2.2.1 (X.2.2.2.2.1 _ hlk) (X.2.2.2.2.1 _ h2) (X.2.2.2.2.1 _ h3) (X.2.2.2.2.1 _ h4) hR.1 (by rw [mcs_tr]; exact hR.2) hf.1 hf.2 h1 (K H locs ls hP hD hS hl)
end WSM
