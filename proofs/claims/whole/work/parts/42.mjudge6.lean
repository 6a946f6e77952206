/-! the model judges: the map at hand -/
def cpGo (kd sr a : Nat) : Nat → Nat → MS → MS
  | 0, _, S => S
  | n + 1, i, S => cpGo kd sr a n (i + 1) (wI S kd 0 i (S.1 sr 0 (6 * a + i)))
theorem cpGo_o (kd sr a b c d : Nat) (h : b ≠ kd) : ∀ (n i : Nat) (S : MS), (cpGo kd sr a n i S).1 b c d = S.1 b c d
  | 0, _, _ => rfl
  | n + 1, i, S => by rw [cpGo, cpGo_o kd sr a b c d h n, wI_o _ _ _ _ _ _ _ _ (fun z => h z.1)]
section L40
variable {p : Program} {l : Launch} {e0 : Env} {s : State} {m0 : MethodId} {args : Array Value} {below : List Frame} {meth : Method} {c0 : Code} {G : GG} {A : Nat → Prop} {Q : State → Prop}
theorem l_becS (X : CX p s m0 args meth c0 G A c_M_becomes y_M_becomes.cls 4 (none)) {m a d : Nat} (ha : a < 40) (hd : d ≤ 6) : ∀ (n i : Nat) (S : MS), S.1 8 0 33 = nI d → i + n = d → (∀ j : Int32, WS p l e0 (rmS 0 0) s m0 args below meth c0 G A 4 0 0 Q 43 [some (.inr (8, 0)), some (.inl (.int (nI m))), some (.inl (.int (nI a))), some (.inl (.int j))] [] (cpGo 48 42 a n i S)) → WS p l e0 (rmS 0 0) s m0 args below meth c0 G A 4 0 0 Q 12 [some (.inr (8, 0)), some (.inl (.int (nI m))), some (.inl (.int (nI a))), some (.inl (.int (nI i)))] [] (S) := by
  intro n
  induction n with
  | zero =>
    intro i S hS hi' K
    have hh : S.1 8 0 33 ≤ nI i := by rw [hS, nI_leI (by omega) (by omega)]; omega
    refine ws_iload_n (i := 3) X d_M_becomes_12 rfl rfl ?_
    refine ws_aload_n (i := 0) X d_M_becomes_13 rfl rfl ?_
    refine ws_getI X fl_M_177 ob8 d_M_becomes_14 ?_
    refine ws_icmp_ge X d_M_becomes_17 (fun h17 => ?_) (fun h17 => ?_)
    · exact K _
    · exact absurd hh h17
  | succ n ih =>
    intro i S hS hi' K
    have hh : ¬ S.1 8 0 33 ≤ nI i := by rw [hS, nI_leI (by omega) (by omega)]; omega
    have hin : vp_in (nI (6 * a + i)) 240 := vp_in_nI (by omega) (by omega)
    have hin8 : vp_in (nI i) 8 := vp_in_nI (by omega) (by omega)
    have hc8 := nI_c (i := 6 * a + i) (by omega)
    have hci := nI_c (i := i) (by omega)
    have hx : (6 : Int32) * nI a + nI i = nI (6 * a + i) := by rw [show (6 : Int32) = nI 6 from rfl, ixN]
    rw [cpGo] at K
    refine ws_iload_n (i := 3) X d_M_becomes_12 rfl rfl ?_
    refine ws_aload_n (i := 0) X d_M_becomes_13 rfl rfl ?_
    refine ws_getI X fl_M_177 ob8 d_M_becomes_14 ?_
    refine ws_icmp_ge X d_M_becomes_17 (fun h17 => ?_) (fun h17 => ?_)
    · exact absurd h17 hh
    · refine ws_aload_n (i := 0) X d_M_becomes_20 rfl rfl ?_
      refine ws_getR X fl_M_85 ob8 d_M_becomes_21 ?_
      refine ws_iload_n (i := 3) X d_M_becomes_24 rfl rfl ?_
      refine ws_aload_n (i := 0) X d_M_becomes_25 rfl rfl ?_
      refine ws_getR X fl_M_66 ob8 d_M_becomes_26 ?_
      refine ws_bipush (v := 6) X d_M_becomes_29 rfl ?_
      refine ws_iload_n (i := 2) X d_M_becomes_31 rfl rfl ?_
      refine ws_imul X d_M_becomes_32 ?_
      refine ws_iload_n (i := 3) X d_M_becomes_33 rfl rfl ?_
      refine ws_iadd X d_M_becomes_34 ?_
      rw [hx]
      refine ws_iald X ak42 ob42 (by assumption) d_M_becomes_35 ?_
      rw [hc8]
      refine ws_iast X ak48 ob48 (by assumption) d_M_becomes_36 ?_
      rw [hci]
      refine ws_iinc_3 X rfl d_M_becomes_37 rfl (by decide) ?_
      refine ws_goto X d_M_becomes_40 ?_
      rw [nI_inc]; exact ih (i + 1) _ (by rw [wI_o _ _ _ _ _ _ _ _ (fun z => absurd z.1 (by decide))]; exact hS) (by omega) K
theorem l_becL (X : CX p s m0 args meth c0 G A c_M_becomes y_M_becomes.cls 4 (none)) {m a lc : Nat} (hm : m < 5) (ha : a < 40) (hd : lc ≤ 6) : ∀ (n i : Nat) (S : MS), S.1 34 0 m = nI lc → i + n = lc → (∀ j : Int32, WS p l e0 (rmS 0 0) s m0 args below meth c0 G A 4 0 0 Q 78 [some (.inr (8, 0)), some (.inl (.int (nI m))), some (.inl (.int (nI a))), some (.inl (.int j))] [] (cpGo 49 40 a n i S)) → WS p l e0 (rmS 0 0) s m0 args below meth c0 G A 4 0 0 Q 45 [some (.inr (8, 0)), some (.inl (.int (nI m))), some (.inl (.int (nI a))), some (.inl (.int (nI i)))] [] (S) := by
  intro n
  have hcm := nI_c (i := m) (by omega)
  have hinm : vp_in (nI m) 5 := vp_in_nI hm (by omega)
  induction n with
  | zero =>
    intro i S hS hi' K
    have hh : S.1 34 0 m ≤ nI i := by rw [hS, nI_leI (by omega) (by omega)]; omega
    refine ws_iload_n (i := 3) X d_M_becomes_45 rfl rfl ?_
    refine ws_aload_n (i := 0) X d_M_becomes_46 rfl rfl ?_
    refine ws_getR X fl_M_42 ob8 d_M_becomes_47 ?_
    refine ws_iload_n (i := 1) X d_M_becomes_50 rfl rfl ?_
    refine ws_iald X ak34 ob34 (by assumption) d_M_becomes_51 ?_
    rw [hcm]
    refine ws_icmp_ge X d_M_becomes_52 (fun h52 => ?_) (fun h52 => ?_)
    · exact K _
    · exact absurd hh h52
  | succ n ih =>
    intro i S hS hi' K
    have hh : ¬ S.1 34 0 m ≤ nI i := by rw [hS, nI_leI (by omega) (by omega)]; omega
    have hin : vp_in (nI (6 * a + i)) 240 := vp_in_nI (by omega) (by omega)
    have hin6 : vp_in (nI i) 6 := vp_in_nI (by omega) (by omega)
    have hc8 := nI_c (i := 6 * a + i) (by omega)
    have hci := nI_c (i := i) (by omega)
    have hx : (6 : Int32) * nI a + nI i = nI (6 * a + i) := by rw [show (6 : Int32) = nI 6 from rfl, ixN]
    rw [cpGo] at K
    refine ws_iload_n (i := 3) X d_M_becomes_45 rfl rfl ?_
    refine ws_aload_n (i := 0) X d_M_becomes_46 rfl rfl ?_
    refine ws_getR X fl_M_42 ob8 d_M_becomes_47 ?_
    refine ws_iload_n (i := 1) X d_M_becomes_50 rfl rfl ?_
    refine ws_iald X ak34 ob34 (by assumption) d_M_becomes_51 ?_
    rw [hcm]
    refine ws_icmp_ge X d_M_becomes_52 (fun h52 => ?_) (fun h52 => ?_)
    · exact absurd h52 hh
    · refine ws_aload_n (i := 0) X d_M_becomes_55 rfl rfl ?_
      refine ws_getR X fl_M_88 ob8 d_M_becomes_56 ?_
      refine ws_iload_n (i := 3) X d_M_becomes_59 rfl rfl ?_
      refine ws_aload_n (i := 0) X d_M_becomes_60 rfl rfl ?_
      refine ws_getR X fl_M_60 ob8 d_M_becomes_61 ?_
      refine ws_bipush (v := 6) X d_M_becomes_64 rfl ?_
      refine ws_iload_n (i := 2) X d_M_becomes_66 rfl rfl ?_
      refine ws_imul X d_M_becomes_67 ?_
      refine ws_iload_n (i := 3) X d_M_becomes_68 rfl rfl ?_
      refine ws_iadd X d_M_becomes_69 ?_
      rw [hx]
      refine ws_iald X ak40 ob40 (by assumption) d_M_becomes_70 ?_
      rw [hc8]
      refine ws_iast X ak49 ob49 (by assumption) d_M_becomes_71 ?_
      rw [hci]
      refine ws_iinc_3 X rfl d_M_becomes_72 rfl (by decide) ?_
      refine ws_goto X d_M_becomes_75 ?_
      rw [nI_inc]; exact ih (i + 1) _ (by rw [wI_o _ _ _ _ _ _ _ _ (fun z => absurd z.1 (by decide))]; exact hS) (by omega) K
end L40
def bec2 (S : MS) (a : Nat) : MS := cpGo 48 42 a (S.1 41 0 a).toNatClampNeg 0 (wI S 8 0 33 (S.1 41 0 a))
def bec3 (S : MS) (m a : Nat) : MS := cpGo 49 40 a (S.1 34 0 m).toNatClampNeg 0 (bec2 S a)
def becS (S : MS) (m a : Nat) : MS := wI (bec3 S m a) 8 0 32 1
theorem m_M_becomes (S : MS) (m a d lc : Nat) (hm : m < 5) (ha : a < 40) (hd : d ≤ 6) (hD : S.1 41 0 a = nI d) (hlc : lc ≤ 6) (hL : S.1 34 0 m = nI lc) : MetE y_M_becomes c_M_becomes 4 (none) 0 0 [.inr (8, 0), .inl (.int (nI m)), .inl (.int (nI a))] S (none) (becS S m a) := by
  refine MetS.of (lv0 := [some (.inr (8, 0)), some (.inl (.int (nI m))), some (.inl (.int (nI a))), none]) pn_M rfl (Nat.le_of_ble_eq_true rfl) (fun p0 l0 e0 s0 m0 args below meth c0 G X => ?_)
  have hca := nI_c (i := a) (by omega)
  have hina : vp_in (nI a) 40 := vp_in_nI ha (by omega)
  refine ws_aload_n (i := 0) X d_M_becomes_0 rfl rfl ?_
  refine ws_aload_n (i := 0) X d_M_becomes_1 rfl rfl ?_
  refine ws_getR X fl_M_63 ob8 d_M_becomes_2 ?_
  refine ws_iload_n (i := 2) X d_M_becomes_5 rfl rfl ?_
  refine ws_iald X ak41 ob41 (by assumption) d_M_becomes_6 ?_
  rw [hca]
  refine ws_putI X fl_M_177 ob8 d_M_becomes_7 ?_
  refine ws_iconst (v := 0) X d_M_becomes_10 rfl ?_
  refine ws_istn_3 X rfl d_M_becomes_11 (by decide) ?_
  refine l_becS X ha hd d 0 _ ((wI_rd ..).trans hD) (by omega) (fun j => ?_)
  refine WS_is (bec2 S a) (by rw [bec2, hD, nI_c (by omega)]) ?_
  refine ws_iconst (v := 0) X d_M_becomes_43 rfl ?_
  refine ws_istn_3 X rfl d_M_becomes_44 (by decide) ?_
  refine l_becL X hm ha hlc lc 0 (bec2 S a) (by rw [bec2, cpGo_o _ _ _ _ _ _ (by decide), wI_o _ _ _ _ _ _ _ _ (fun z => absurd z.1 (by decide))]; exact hL) (by omega) (fun j => ?_)
  refine WS_is (bec3 S m a) (by rw [bec3, hL, nI_c (by omega)]) ?_
  refine ws_aload_n (i := 0) X d_M_becomes_78 rfl rfl ?_
  refine ws_iconst (v := 1) X d_M_becomes_79 rfl ?_
  refine ws_putZ X (⟨rfl, rfl⟩) fl_M_180 ob8 d_M_becomes_80 ?_
  refine ws_vret X d_M_becomes_83 ?_
  exact ⟨rfl, rfl⟩

def fitGo (S : MS) (a : Nat) : Nat → Nat → Bool → Bool
  | 0, _, b => b
  | n + 1, k, b => if b = true then fitGo S a n (k + 1) (decide (S.1 48 0 k = S.1 42 0 (6 * a + k))) else b
theorem fitGo_f (S : MS) (a : Nat) : ∀ (n k : Nat), fitGo S a n k false = false
  | 0, _ => rfl
  | _ + 1, _ => rfl
def fitLo (S : MS) (a : Nat) : Nat → Nat → Bool → Bool
  | 0, _, b => b
  | n + 1, k, b => if b = true then fitLo S a n (k + 1) (decide (S.1 40 0 (6 * a + k) = 0) || decide (S.1 40 0 (6 * a + k) = S.1 49 0 k)) else b
theorem fitLo_f (S : MS) (a : Nat) : ∀ (n k : Nat), fitLo S a n k false = false
  | 0, _ => rfl
  | _ + 1, _ => rfl
section L41
variable {p : Program} {l : Launch} {e0 : Env} {s : State} {m0 : MethodId} {args : Array Value} {below : List Frame} {meth : Method} {c0 : Code} {G : GG} {A : Nat → Prop} {Q : State → Prop}
theorem l_fitS (X : CX p s m0 args meth c0 G A c_M_fits y_M_fits.cls 5 ((some .boolean))) {S : MS} {m a d : Nat} (ha : a < 40) (hd : d ≤ 6) (hS : S.1 8 0 33 = nI d) : ∀ (n k : Nat) (b : Bool) (x3 : Int32), x3 = bI b → k + n = d → (∀ j : Int32, WS p l e0 (rmS 0 0) s m0 args below meth c0 G A 5 0 0 Q 69 [some (.inr (8, 0)), some (.inl (.int (nI m))), some (.inl (.int (nI a))), some (.inl (.int (bI (fitGo S a n k b)))), some (.inl (.int j))] [] (S)) → WS p l e0 (rmS 0 0) s m0 args below meth c0 G A 5 0 0 Q 22 [some (.inr (8, 0)), some (.inl (.int (nI m))), some (.inl (.int (nI a))), some (.inl (.int x3)), some (.inl (.int (nI k)))] [] (S) := by
  intro n
  induction n with
  | zero =>
    intro k b x3 hx hi' K
    have hh : S.1 8 0 33 ≤ nI k := by rw [hS, nI_leI (by omega) (by omega)]; omega
    rw [hx]
    refine ws_iload (i := 4) X d_M_fits_22 rfl ?_
    refine ws_aload_n (i := 0) X d_M_fits_24 rfl rfl ?_
    refine ws_getI X fl_M_177 ob8 d_M_fits_25 ?_
    refine ws_icmp_ge X d_M_fits_28 (fun h28 => ?_) (fun h28 => ?_)
    · exact K _
    · exact absurd hh h28
  | succ n ih =>
    intro k b x3 hx hi' K
    have hh : ¬ S.1 8 0 33 ≤ nI k := by rw [hS, nI_leI (by omega) (by omega)]; omega
    have hin : vp_in (nI (6 * a + k)) 240 := vp_in_nI (by omega) (by omega)
    have hin8 : vp_in (nI k) 8 := vp_in_nI (by omega) (by omega)
    have hc8 := nI_c (i := 6 * a + k) (by omega)
    have hci := nI_c (i := k) (by omega)
    have h66 : (6 : Int32) * nI a + nI k = nI (6 * a + k) := by rw [show (6 : Int32) = nI 6 from rfl, ixN]
    cases b with
    | false =>
      rw [fitGo_f] at K
      rw [show x3 = 0 from hx]
      refine ws_iload (i := 4) X d_M_fits_22 rfl ?_
      refine ws_aload_n (i := 0) X d_M_fits_24 rfl rfl ?_
      refine ws_getI X fl_M_177 ob8 d_M_fits_25 ?_
      refine ws_icmp_ge X d_M_fits_28 (fun h28 => ?_) (fun h28 => ?_)
      · exact absurd h28 hh
      · refine ws_iload_n (i := 3) X d_M_fits_31 rfl rfl ?_
        refine ws_if_eq X d_M_fits_32 (fun h32 => ?_) (fun h32 => ?_)
        · exact K _
        · exact absurd h32 (by decide)
    | true =>
      rw [show x3 = 1 from hx]
      rw [fitGo, if_pos rfl] at K
      refine ws_iload (i := 4) X d_M_fits_22 rfl ?_
      refine ws_aload_n (i := 0) X d_M_fits_24 rfl rfl ?_
      refine ws_getI X fl_M_177 ob8 d_M_fits_25 ?_
      refine ws_icmp_ge X d_M_fits_28 (fun h28 => ?_) (fun h28 => ?_)
      · exact absurd h28 hh
      · refine ws_iload_n (i := 3) X d_M_fits_31 rfl rfl ?_
        refine ws_if_eq X d_M_fits_32 (fun h32 => ?_) (fun h32 => ?_)
        · exact absurd h32 (by decide)
        · refine ws_aload_n (i := 0) X d_M_fits_35 rfl rfl ?_
          refine ws_getR X fl_M_85 ob8 d_M_fits_36 ?_
          refine ws_iload (i := 4) X d_M_fits_39 rfl ?_
          refine ws_iald X ak48 ob48 (by assumption) d_M_fits_41 ?_
          rw [hci]
          refine ws_aload_n (i := 0) X d_M_fits_42 rfl rfl ?_
          refine ws_getR X fl_M_66 ob8 d_M_fits_43 ?_
          refine ws_bipush (v := 6) X d_M_fits_46 rfl ?_
          refine ws_iload_n (i := 2) X d_M_fits_48 rfl rfl ?_
          refine ws_imul X d_M_fits_49 ?_
          refine ws_iload (i := 4) X d_M_fits_50 rfl ?_
          refine ws_iadd X d_M_fits_52 ?_
          rw [h66]
          refine ws_iald X ak42 ob42 (by assumption) d_M_fits_53 ?_
          rw [hc8]
          refine ws_icmp_ne X d_M_fits_54 (fun h54 => ?_) (fun h54 => ?_)
          · refine ws_iconst (v := 0) X d_M_fits_61 rfl ?_
            refine ws_istn_3 X rfl d_M_fits_62 (by decide) ?_
            refine ws_iinc_4 X rfl d_M_fits_63 rfl (by decide) ?_
            refine ws_goto X d_M_fits_66 ?_
            rw [nI_inc]; exact ih (k + 1) _ _ (by simp [bI, eq_false h28, eq_false h32, eq_false h54]) (by omega) K
          · refine ws_iconst (v := 1) X d_M_fits_57 rfl ?_
            refine ws_goto X d_M_fits_58 ?_
            refine ws_istn_3 X rfl d_M_fits_62 (by decide) ?_
            refine ws_iinc_4 X rfl d_M_fits_63 rfl (by decide) ?_
            refine ws_goto X d_M_fits_66 ?_
            rw [nI_inc]; exact ih (k + 1) _ _ (by simp [bI, eq_false h28, eq_false h32, eq_true h54]) (by omega) K
theorem l_fitL (X : CX p s m0 args meth c0 G A c_M_fits y_M_fits.cls 5 ((some .boolean))) {S : MS} {m a lc : Nat} (hm : m < 5) (ha : a < 40) (hd : lc ≤ 6) (hS : S.1 34 0 m = nI lc) : ∀ (n k : Nat) (b : Bool) (x3 : Int32), x3 = bI b → k + n = lc → (∀ j : Int32, WS p l e0 (rmS 0 0) s m0 args below meth c0 G A 5 0 0 Q 136 [some (.inr (8, 0)), some (.inl (.int (nI m))), some (.inl (.int (nI a))), some (.inl (.int (bI (fitLo S a n k b)))), some (.inl (.int j))] [] (S)) → WS p l e0 (rmS 0 0) s m0 args below meth c0 G A 5 0 0 Q 72 [some (.inr (8, 0)), some (.inl (.int (nI m))), some (.inl (.int (nI a))), some (.inl (.int x3)), some (.inl (.int (nI k)))] [] (S) := by
  intro n
  have hcm := nI_c (i := m) (by omega)
  have hinm : vp_in (nI m) 5 := vp_in_nI hm (by omega)
  induction n with
  | zero =>
    intro k b x3 hx hi' K
    have hh : S.1 34 0 m ≤ nI k := by rw [hS, nI_leI (by omega) (by omega)]; omega
    rw [hx]
    refine ws_iload (i := 4) X d_M_fits_72 rfl ?_
    refine ws_aload_n (i := 0) X d_M_fits_74 rfl rfl ?_
    refine ws_getR X fl_M_42 ob8 d_M_fits_75 ?_
    refine ws_iload_n (i := 1) X d_M_fits_78 rfl rfl ?_
    refine ws_iald X ak34 ob34 (by assumption) d_M_fits_79 ?_
    rw [hcm]
    refine ws_icmp_ge X d_M_fits_80 (fun h80 => ?_) (fun h80 => ?_)
    · exact K _
    · exact absurd hh h80
  | succ n ih =>
    intro k b x3 hx hi' K
    have hh : ¬ S.1 34 0 m ≤ nI k := by rw [hS, nI_leI (by omega) (by omega)]; omega
    have hin : vp_in (nI (6 * a + k)) 240 := vp_in_nI (by omega) (by omega)
    have hin6 : vp_in (nI k) 6 := vp_in_nI (by omega) (by omega)
    have hc8 := nI_c (i := 6 * a + k) (by omega)
    have hci := nI_c (i := k) (by omega)
    have h66 : (6 : Int32) * nI a + nI k = nI (6 * a + k) := by rw [show (6 : Int32) = nI 6 from rfl, ixN]
    cases b with
    | false =>
      rw [fitLo_f] at K
      rw [show x3 = 0 from hx]
      refine ws_iload (i := 4) X d_M_fits_72 rfl ?_
      refine ws_aload_n (i := 0) X d_M_fits_74 rfl rfl ?_
      refine ws_getR X fl_M_42 ob8 d_M_fits_75 ?_
      refine ws_iload_n (i := 1) X d_M_fits_78 rfl rfl ?_
      refine ws_iald X ak34 ob34 (by assumption) d_M_fits_79 ?_
      rw [hcm]
      refine ws_icmp_ge X d_M_fits_80 (fun h80 => ?_) (fun h80 => ?_)
      · exact absurd h80 hh
      · refine ws_iload_n (i := 3) X d_M_fits_83 rfl rfl ?_
        refine ws_if_eq X d_M_fits_84 (fun h84 => ?_) (fun h84 => ?_)
        · exact K _
        · exact absurd h84 (by decide)
    | true =>
      rw [show x3 = 1 from hx]
      rw [fitLo, if_pos rfl] at K
      refine ws_iload (i := 4) X d_M_fits_72 rfl ?_
      refine ws_aload_n (i := 0) X d_M_fits_74 rfl rfl ?_
      refine ws_getR X fl_M_42 ob8 d_M_fits_75 ?_
      refine ws_iload_n (i := 1) X d_M_fits_78 rfl rfl ?_
      refine ws_iald X ak34 ob34 (by assumption) d_M_fits_79 ?_
      rw [hcm]
      refine ws_icmp_ge X d_M_fits_80 (fun h80 => ?_) (fun h80 => ?_)
      · exact absurd h80 hh
      · refine ws_iload_n (i := 3) X d_M_fits_83 rfl rfl ?_
        refine ws_if_eq X d_M_fits_84 (fun h84 => ?_) (fun h84 => ?_)
        · exact absurd h84 (by decide)
        · refine ws_aload_n (i := 0) X d_M_fits_87 rfl rfl ?_
          refine ws_getR X fl_M_60 ob8 d_M_fits_88 ?_
          refine ws_bipush (v := 6) X d_M_fits_91 rfl ?_
          refine ws_iload_n (i := 2) X d_M_fits_93 rfl rfl ?_
          refine ws_imul X d_M_fits_94 ?_
          refine ws_iload (i := 4) X d_M_fits_95 rfl ?_
          refine ws_iadd X d_M_fits_97 ?_
          rw [h66]
          refine ws_iald X ak40 ob40 (by assumption) d_M_fits_98 ?_
          rw [hc8]
          refine ws_if_eq X d_M_fits_99 (fun h99 => ?_) (fun h99 => ?_)
          · refine ws_iconst (v := 1) X d_M_fits_124 rfl ?_
            refine ws_goto X d_M_fits_125 ?_
            refine ws_istn_3 X rfl d_M_fits_129 (by decide) ?_
            refine ws_iinc_4 X rfl d_M_fits_130 rfl (by decide) ?_
            refine ws_goto X d_M_fits_133 ?_
            rw [nI_inc]; exact ih (k + 1) _ _ (by simp [bI, eq_false h80, eq_false h84, eq_true h99]) (by omega) K
          · refine ws_aload_n (i := 0) X d_M_fits_102 rfl rfl ?_
            refine ws_getR X fl_M_60 ob8 d_M_fits_103 ?_
            refine ws_bipush (v := 6) X d_M_fits_106 rfl ?_
            refine ws_iload_n (i := 2) X d_M_fits_108 rfl rfl ?_
            refine ws_imul X d_M_fits_109 ?_
            refine ws_iload (i := 4) X d_M_fits_110 rfl ?_
            refine ws_iadd X d_M_fits_112 ?_
            rw [h66]
            refine ws_iald X ak40 ob40 (by assumption) d_M_fits_113 ?_
            rw [hc8]
            refine ws_aload_n (i := 0) X d_M_fits_114 rfl rfl ?_
            refine ws_getR X fl_M_88 ob8 d_M_fits_115 ?_
            refine ws_iload (i := 4) X d_M_fits_118 rfl ?_
            refine ws_iald X ak49 ob49 (by assumption) d_M_fits_120 ?_
            rw [hci]
            refine ws_icmp_ne X d_M_fits_121 (fun h121 => ?_) (fun h121 => ?_)
            · refine ws_iconst (v := 0) X d_M_fits_128 rfl ?_
              refine ws_istn_3 X rfl d_M_fits_129 (by decide) ?_
              refine ws_iinc_4 X rfl d_M_fits_130 rfl (by decide) ?_
              refine ws_goto X d_M_fits_133 ?_
              rw [nI_inc]; exact ih (k + 1) _ _ (by simp [bI, eq_false h80, eq_false h84, eq_false h99, eq_false h121]) (by omega) K
            · refine ws_iconst (v := 1) X d_M_fits_124 rfl ?_
              refine ws_goto X d_M_fits_125 ?_
              refine ws_istn_3 X rfl d_M_fits_129 (by decide) ?_
              refine ws_iinc_4 X rfl d_M_fits_130 rfl (by decide) ?_
              refine ws_goto X d_M_fits_133 ?_
              rw [nI_inc]; exact ih (k + 1) _ _ (by simp [bI, eq_false h80, eq_false h84, eq_false h99, eq_true h121]) (by omega) K
end L41
def fitV (S : MS) (m a : Nat) : Bool := fitLo S a (S.1 34 0 m).toNatClampNeg 0 (fitGo S a (S.1 8 0 33).toNatClampNeg 0 (decide (S.1 41 0 a = S.1 8 0 33)))
theorem m_M_fits (S : MS) (m a d lc : Nat) (hm : m < 5) (ha : a < 40) (hd : d ≤ 6) (hD : S.1 8 0 33 = nI d) (hlc : lc ≤ 6) (hL : S.1 34 0 m = nI lc) : MetE y_M_fits c_M_fits 5 ((some .boolean)) 0 0 [.inr (8, 0), .inl (.int (nI m)), .inl (.int (nI a))] S (some (.inl (.int (bI (fitV S m a))))) (S) := by
  refine MetS.of (lv0 := [some (.inr (8, 0)), some (.inl (.int (nI m))), some (.inl (.int (nI a))), none, none]) pn_M rfl (Nat.le_of_ble_eq_true rfl) (fun p0 l0 e0 s0 m0 args below meth c0 G X => ?_)
  have hca := nI_c (i := a) (by omega)
  have hina : vp_in (nI a) 40 := vp_in_nI ha (by omega)
  refine ws_aload_n (i := 0) X d_M_fits_0 rfl rfl ?_
  refine ws_getR X fl_M_63 ob8 d_M_fits_1 ?_
  refine ws_iload_n (i := 2) X d_M_fits_4 rfl rfl ?_
  refine ws_iald X ak41 ob41 (by assumption) d_M_fits_5 ?_
  rw [hca]
  refine ws_aload_n (i := 0) X d_M_fits_6 rfl rfl ?_
  refine ws_getI X fl_M_177 ob8 d_M_fits_7 ?_
  refine ws_icmp_ne X d_M_fits_10 (fun h10 => ?_) (fun h10 => ?_)
  · refine ws_iconst (v := 0) X d_M_fits_17 rfl ?_
    refine ws_istn_3 X rfl d_M_fits_18 (by decide) ?_
    refine ws_iconst (v := 0) X d_M_fits_19 rfl ?_
    refine ws_ist_4 X rfl d_M_fits_20 (by decide) ?_
    refine l_fitS X ha hd hD d 0 (decide (S.1 41 0 a = S.1 8 0 33)) _ (by simp [bI, eq_false h10]) (by omega) (fun j => ?_)
    refine ws_iconst (v := 0) X d_M_fits_69 rfl ?_
    refine ws_ist_4 X rfl d_M_fits_70 (by decide) ?_
    refine l_fitL X hm ha hlc hL lc 0 _ _ rfl (by omega) (fun j => ?_)
    rw [show fitLo S a lc 0 (fitGo S a d 0 (decide (S.1 41 0 a = S.1 8 0 33))) = fitV S m a from (by rw [fitV, hL, hD, nI_c (by omega), nI_c (by omega)])]
    refine ws_iload_n (i := 3) X d_M_fits_136 rfl rfl ?_
    refine ws_zret X (nbI _) d_M_fits_137 ?_
    exact ⟨rfl, rfl⟩
  · refine ws_iconst (v := 1) X d_M_fits_13 rfl ?_
    refine ws_goto X d_M_fits_14 ?_
    refine ws_istn_3 X rfl d_M_fits_18 (by decide) ?_
    refine ws_iconst (v := 0) X d_M_fits_19 rfl ?_
    refine ws_ist_4 X rfl d_M_fits_20 (by decide) ?_
    refine l_fitS X ha hd hD d 0 (decide (S.1 41 0 a = S.1 8 0 33)) _ (by simp [bI, eq_true h10]) (by omega) (fun j => ?_)
    refine ws_iconst (v := 0) X d_M_fits_69 rfl ?_
    refine ws_ist_4 X rfl d_M_fits_70 (by decide) ?_
    refine l_fitL X hm ha hlc hL lc 0 _ _ rfl (by omega) (fun j => ?_)
    rw [show fitLo S a lc 0 (fitGo S a d 0 (decide (S.1 41 0 a = S.1 8 0 33))) = fitV S m a from (by rw [fitV, hL, hD, nI_c (by omega), nI_c (by omega)])]
    refine ws_iload_n (i := 3) X d_M_fits_136 rfl rfl ?_
    refine ws_zret X (nbI _) d_M_fits_137 ?_
    exact ⟨rfl, rfl⟩


