/-! the model judges: maps -/
def mpfGo (S : MS) (m : Nat) (x : Int32) : Nat → Nat → Int32 → Int32
  | 0, _, f => f
  | n + 1, k, f => mpfGo S m x n (k + 1) (if S.1 39 0 (8 * m + k) = x then nI (8 * m + k) else f)
section L39
variable {p : Program} {l : Launch} {e0 : Env} {s : State} {m0 : MethodId} {args : Array Value} {below : List Frame} {meth : Method} {c0 : Code} {G : GG} {A : Nat → Prop} {Q : State → Prop}
theorem l_mpfAt (X : CX p s m0 args meth c0 G A c_M_mapAt y_M_mapAt.cls 5 ((some .int))) {S : MS} {m mp : Nat} {x2 : Int32} (hm : m < 5) (ht : mp ≤ 8) (hS : S.1 38 0 m = nI mp) : ∀ (n k : Nat) (x3 : Int32), k + n = mp → (∀ j : Int32, WS p l e0 (rmS 0 0) s m0 args below meth c0 G A 5 0 0 Q 50 [some (.inr (8, 0)), some (.inl (.int (nI m))), some (.inl (.int x2)), some (.inl (.int (mpfGo S m x2 n k x3))), some (.inl (.int j))] [] (S)) → WS p l e0 (rmS 0 0) s m0 args below meth c0 G A 5 0 0 Q 5 [some (.inr (8, 0)), some (.inl (.int (nI m))), some (.inl (.int x2)), some (.inl (.int x3)), some (.inl (.int (nI k)))] [] (S) := by
  intro n
  have hcm := nI_c (i := m) (by omega)
  have hinm : vp_in (nI m) 5 := vp_in_nI hm (by omega)
  induction n with
  | zero =>
    intro k x3 hi' K
    have hh : S.1 38 0 m ≤ nI k := by rw [hS, nI_leI (by omega) (by omega)]; omega
    refine ws_iload (i := 4) X d_M_mapAt_5 rfl ?_
    refine ws_aload_n (i := 0) X d_M_mapAt_7 rfl rfl ?_
    refine ws_getR X fl_M_54 ob8 d_M_mapAt_8 ?_
    refine ws_iload_n (i := 1) X d_M_mapAt_11 rfl rfl ?_
    refine ws_iald X ak38 ob38 (by assumption) d_M_mapAt_12 ?_
    rw [hcm]
    refine ws_icmp_ge X d_M_mapAt_13 (fun h13 => ?_) (fun h13 => ?_)
    · exact K _
    · exact absurd hh h13
  | succ n ih =>
    intro k x3 hi' K
    have hh : ¬ S.1 38 0 m ≤ nI k := by rw [hS, nI_leI (by omega) (by omega)]; omega
    have hin : vp_in (nI (8 * m + k)) 40 := vp_in_nI (by omega) (by omega)
    have hc8 := nI_c (i := 8 * m + k) (by omega)
    have h88 : (8 : Int32) * nI m + nI k = nI (8 * m + k) := by rw [show (8 : Int32) = nI 8 from rfl, ixN]
    rw [mpfGo] at K
    refine ws_iload (i := 4) X d_M_mapAt_5 rfl ?_
    refine ws_aload_n (i := 0) X d_M_mapAt_7 rfl rfl ?_
    refine ws_getR X fl_M_54 ob8 d_M_mapAt_8 ?_
    refine ws_iload_n (i := 1) X d_M_mapAt_11 rfl rfl ?_
    refine ws_iald X ak38 ob38 (by assumption) d_M_mapAt_12 ?_
    rw [hcm]
    refine ws_icmp_ge X d_M_mapAt_13 (fun h13 => ?_) (fun h13 => ?_)
    · exact absurd h13 hh
    · refine ws_aload_n (i := 0) X d_M_mapAt_16 rfl rfl ?_
      refine ws_getR X fl_M_57 ob8 d_M_mapAt_17 ?_
      refine ws_bipush (v := 8) X d_M_mapAt_20 rfl ?_
      refine ws_iload_n (i := 1) X d_M_mapAt_22 rfl rfl ?_
      refine ws_imul X d_M_mapAt_23 ?_
      refine ws_iload (i := 4) X d_M_mapAt_24 rfl ?_
      refine ws_iadd X d_M_mapAt_26 ?_
      rw [h88]
      refine ws_iald X ak39 ob39 (by assumption) d_M_mapAt_27 ?_
      rw [hc8]
      refine ws_iload_n (i := 2) X d_M_mapAt_28 rfl rfl ?_
      refine ws_icmp_ne X d_M_mapAt_29 (fun h29 => ?_) (fun h29 => ?_)
      · refine ws_iload_n (i := 3) X d_M_mapAt_42 rfl rfl ?_
        refine ws_istn_3 X rfl d_M_mapAt_43 (by decide) ?_
        refine ws_iinc_4 X rfl d_M_mapAt_44 rfl (by decide) ?_
        refine ws_goto X d_M_mapAt_47 ?_
        rw [nI_inc]; simp only [eq_false h13, eq_false h29, if_true, if_false] at K; exact ih (k + 1) _ (by omega) K
      · refine ws_bipush (v := 8) X d_M_mapAt_32 rfl ?_
        refine ws_iload_n (i := 1) X d_M_mapAt_34 rfl rfl ?_
        refine ws_imul X d_M_mapAt_35 ?_
        refine ws_iload (i := 4) X d_M_mapAt_36 rfl ?_
        refine ws_iadd X d_M_mapAt_38 ?_
        rw [h88]
        refine ws_goto X d_M_mapAt_39 ?_
        refine ws_istn_3 X rfl d_M_mapAt_43 (by decide) ?_
        refine ws_iinc_4 X rfl d_M_mapAt_44 rfl (by decide) ?_
        refine ws_goto X d_M_mapAt_47 ?_
        rw [nI_inc]; simp only [eq_false h13, eq_true h29, if_true, if_false] at K; exact ih (k + 1) _ (by omega) K
end L39
def mpfV (S : MS) (m : Nat) (x : Int32) : Int32 := mpfGo S m x (S.1 38 0 m).toNatClampNeg 0 (-1)
theorem m_M_mapAt (S : MS) (m mp : Nat) (x : Int32) (hm : m < 5) (ht : mp ≤ 8) (hS : S.1 38 0 m = nI mp) : MetE y_M_mapAt c_M_mapAt 5 ((some .int)) 0 0 [.inr (8, 0), .inl (.int (nI m)), .inl (.int x)] S (some (.inl (.int (mpfV S m x)))) (S) := by
  refine MetS.of (lv0 := [some (.inr (8, 0)), some (.inl (.int (nI m))), some (.inl (.int x)), none, none]) pn_M rfl (Nat.le_of_ble_eq_true rfl) (fun p0 l0 e0 s0 m0 args below meth c0 G X => ?_)
  refine ws_iconst (v := (-1)) X d_M_mapAt_0 rfl ?_
  refine ws_istn_3 X rfl d_M_mapAt_1 (by decide) ?_
  refine ws_iconst (v := 0) X d_M_mapAt_2 rfl ?_
  refine ws_ist_4 X rfl d_M_mapAt_3 (by decide) ?_
  refine l_mpfAt X hm ht hS mp 0 (-1) (by omega) (fun j => ?_)
  rw [show mpfGo S m x mp 0 (-1) = mpfV S m x from (by rw [mpfV, hS, nI_c (by omega)])]
  refine ws_iload_n (i := 3) X d_M_mapAt_50 rfl rfl ?_
  refine ws_iret X d_M_mapAt_51 ?_
  exact ⟨rfl, rfl⟩


