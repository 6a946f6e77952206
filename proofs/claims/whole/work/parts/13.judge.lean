/-! loops of the tape, kinds, method rows; the judge's small methods -/
theorem nI_c {i : Nat} (h : i < 2 ^ 31) : (nI i).toNatClampNeg = i := nI_clamp h
theorem nI_inc (i : Nat) : nI i + Int32.ofInt 1 = nI (i + 1) := by
  rw [show (Int32.ofInt 1) = 1 from rfl, nI_1]
theorem wI_wI (S : MS) (k i j : Nat) (u v : Int32) : wI (wI S k i j u) k i j v = wI S k i j v := by
  refine Prod.ext ?_ rfl
  funext a b c
  simp only [wI]
  by_cases h : a = k ∧ b = i ∧ c = j
  · simp [h]
  · simp [h]
theorem wI_self (S : MS) (k i j : Nat) : wI S k i j (S.1 k i j) = S := by
  refine Prod.ext ?_ rfl
  funext a b c
  simp only [wI]
  by_cases h : a = k ∧ b = i ∧ c = j
  · obtain ⟨rfl, rfl, rfl⟩ := h; simp
  · simp [h]
def sumTo (f : Nat → Int32) : Nat → Int32
  | 0 => 0
  | k + 1 => sumTo f k + f k
section L1
variable {p : Program} {l : Launch} {e0 : Env} {s : State} {m0 : MethodId} {args : Array Value} {below : List Frame} {meth : Method} {c0 : Code} {G : GG} {A : Nat → Prop} {Q : State → Prop}
theorem l_sumT (X : CX p s m0 args meth c0 G A c_Tape_sumAhead y_Tape_sumAhead.cls 4 ((some .int))) {S : MS} {a1 : Option MV} {k : Nat} (hk : k ≤ 500) : ∀ (n i : Nat), i + n = k → (∀ j : Int32, WS p l e0 (rmS 0 0) s m0 args below meth c0 G A 4 0 0 Q 33 [some (.inr (1, 0)), some (.inl (.int (nI k))), some (.inl (.int (sumTo (S.1 9 0) k))), some (.inl (.int j))] [] (S)) → WS p l e0 (rmS 0 0) s m0 args below meth c0 G A 4 0 0 Q 4 [some (.inr (1, 0)), some (.inl (.int (nI k))), some (.inl (.int (sumTo (S.1 9 0) i))), some (.inl (.int (nI i)))] [] (S) := by
  intro n
  induction n with
  | zero =>
    intro i hi K
    have hh : nI k ≤ nI i := by rw [nI_leI (by omega) (by omega)]; omega
    have e : i = k := by omega
    subst e
    refine ws_iload_n (i := 3) X d_Tape_sumAhead_4 rfl rfl ?_
    refine ws_iload_n (i := 1) X d_Tape_sumAhead_5 rfl rfl ?_
    refine ws_icmp_ge X d_Tape_sumAhead_6 (fun h6 => ?_) (fun h6 => ?_)
    · exact K _
    · exact absurd hh h6
  | succ n ih =>
    intro i hi K
    have e := nI_c (i := i) (by omega)
    have hh : ¬ nI k ≤ nI i := by rw [nI_leI (by omega) (by omega)]; omega
    have h5 : ¬ (500 : Int32) ≤ nI i := by rw [show (500 : Int32) = nI 500 from rfl, nI_leI (by omega) (by omega)]; omega
    have hin : vp_in (nI i) 500 := vp_in_nI (by omega) (by omega)
    refine ws_iload_n (i := 3) X d_Tape_sumAhead_4 rfl rfl ?_
    refine ws_iload_n (i := 1) X d_Tape_sumAhead_5 rfl rfl ?_
    refine ws_icmp_ge X d_Tape_sumAhead_6 (fun h6 => ?_) (fun h6 => ?_)
    · exact absurd h6 hh
    · refine ws_iload_n (i := 3) X d_Tape_sumAhead_9 rfl rfl ?_
      refine ws_aload_n (i := 0) X d_Tape_sumAhead_10 rfl rfl ?_
      refine ws_getR X fl_Tape_11 ob1 d_Tape_sumAhead_11 ?_
      refine ws_alen (v := 500) X ak9 ob9 rfl d_Tape_sumAhead_14 ?_
      refine ws_icmp_ge X d_Tape_sumAhead_15 (fun h15 => ?_) (fun h15 => ?_)
      · exact absurd h15 h5
      · refine ws_iload_n (i := 2) X d_Tape_sumAhead_18 rfl rfl ?_
        refine ws_aload_n (i := 0) X d_Tape_sumAhead_19 rfl rfl ?_
        refine ws_getR X fl_Tape_11 ob1 d_Tape_sumAhead_20 ?_
        refine ws_iload_n (i := 3) X d_Tape_sumAhead_23 rfl rfl ?_
        refine ws_iald X ak9 ob9 (by assumption) d_Tape_sumAhead_24 ?_
        refine ws_iadd X d_Tape_sumAhead_25 ?_
        refine ws_istn_2 X rfl d_Tape_sumAhead_26 (by decide) ?_
        refine ws_iinc_3 X rfl d_Tape_sumAhead_27 rfl (by decide) ?_
        refine ws_goto X d_Tape_sumAhead_30 ?_
        rw [e, nI_inc]; exact ih (i + 1) (by omega) K
theorem l_fitsK (X : CX p s m0 args meth c0 G A c_Kinds_fits y_Kinds_fits.cls 5 ((some .boolean))) {S : MS} {k m : Int32} (ft : Nat → Bool) (hft : ∀ l, ft (l + 1) = (ft l && (decide (kLocal m (nI l) = 0) || decide (kLocal m (nI l) = kLocal k (nI l))))) : ∀ (n i : Nat) (v : Int32) (a4 : Option MV), i + n = 6 → v = bI (ft i) → (∀ (j : Int32) (a4 : Option MV), WS p l e0 (rmS 1 21) s m0 args below meth c0 G A 5 0 0 Q 63 [some (.inl (.int k)), some (.inl (.int m)), some (.inl (.int (bI (ft 6)))), some (.inl (.int j)), a4] [] (S)) → WS p l e0 (rmS 1 21) s m0 args below meth c0 G A 5 0 0 Q 19 [some (.inl (.int k)), some (.inl (.int m)), some (.inl (.int v)), some (.inl (.int (nI i))), a4] [] (S) := by
  intro n
  induction n with
  | zero =>
    intro i v a4 hi hv K
    subst hv
    have e : i = 6 := by omega
    subst e
    refine ws_iload_n (i := 3) X d_Kinds_fits_19 rfl rfl ?_
    refine ws_bipush (v := 6) X d_Kinds_fits_20 rfl ?_
    refine ws_icmp_ge X d_Kinds_fits_22 (fun h22 => ?_) (fun h22 => ?_)
    · exact K _ _
    · exact absurd (by decide) h22
  | succ n ih =>
    intro i v a4 hi hv K
    subst hv
    have hh : ¬ (6 : Int32) ≤ nI i := by rw [show (6 : Int32) = nI 6 from rfl, nI_leI (by omega) (by omega)]; omega
    refine ws_iload_n (i := 3) X d_Kinds_fits_19 rfl rfl ?_
    refine ws_bipush (v := 6) X d_Kinds_fits_20 rfl ?_
    refine ws_icmp_ge X d_Kinds_fits_22 (fun h22 => ?_) (fun h22 => ?_)
    · exact absurd h22 hh
    · refine ws_iload_n (i := 1) X d_Kinds_fits_25 rfl rfl ?_
      refine ws_iload_n (i := 3) X d_Kinds_fits_26 rfl rfl ?_
      refine ws_callS1 X (m_Kinds_local _ _ _) cs_Kinds_local ml_Kinds_17 rfl rfl (Nat.le_of_ble_eq_true rfl) ⟨Nat.le_of_ble_eq_true rfl, Nat.le_of_ble_eq_true rfl⟩ ⟨Nat.zero_le _, Nat.zero_le _⟩ d_Kinds_fits_27 ?_
      refine ws_ist_4 X rfl d_Kinds_fits_30 (by decide) ?_
      refine ws_iload_n (i := 2) X d_Kinds_fits_32 rfl rfl ?_
      refine ws_ifB_eq X d_Kinds_fits_33 (fun h33 => ?_) (fun h33 => ?_)
      · refine ws_iconst (v := 0) X d_Kinds_fits_55 rfl ?_
        refine ws_istn_2 X rfl d_Kinds_fits_56 (by decide) ?_
        refine ws_iinc_3 X rfl d_Kinds_fits_57 rfl (by decide) ?_
        refine ws_goto X d_Kinds_fits_60 ?_
        rw [nI_inc]; exact ih (i + 1) _ _ (by omega) (by rw [hft i]; simp [bI, eq_false h22, h33]) K
      · refine ws_iload (i := 4) X d_Kinds_fits_36 rfl ?_
        refine ws_if_eq X d_Kinds_fits_38 (fun h38 => ?_) (fun h38 => ?_)
        · refine ws_iconst (v := 1) X d_Kinds_fits_51 rfl ?_
          refine ws_goto X d_Kinds_fits_52 ?_
          refine ws_istn_2 X rfl d_Kinds_fits_56 (by decide) ?_
          refine ws_iinc_3 X rfl d_Kinds_fits_57 rfl (by decide) ?_
          refine ws_goto X d_Kinds_fits_60 ?_
          rw [nI_inc]; exact ih (i + 1) _ _ (by omega) (by rw [hft i]; simp [bI, eq_false h22, h33, eq_true h38]) K
        · refine ws_iload (i := 4) X d_Kinds_fits_41 rfl ?_
          refine ws_iload_n (i := 0) X d_Kinds_fits_43 rfl rfl ?_
          refine ws_iload_n (i := 3) X d_Kinds_fits_44 rfl rfl ?_
          refine ws_callS1 X (m_Kinds_local _ _ _) cs_Kinds_local ml_Kinds_17 rfl rfl (Nat.le_of_ble_eq_true rfl) ⟨Nat.le_of_ble_eq_true rfl, Nat.le_of_ble_eq_true rfl⟩ ⟨Nat.zero_le _, Nat.zero_le _⟩ d_Kinds_fits_45 ?_
          refine ws_icmp_ne X d_Kinds_fits_48 (fun h48 => ?_) (fun h48 => ?_)
          · refine ws_iconst (v := 0) X d_Kinds_fits_55 rfl ?_
            refine ws_istn_2 X rfl d_Kinds_fits_56 (by decide) ?_
            refine ws_iinc_3 X rfl d_Kinds_fits_57 rfl (by decide) ?_
            refine ws_goto X d_Kinds_fits_60 ?_
            rw [nI_inc]; exact ih (i + 1) _ _ (by omega) (by rw [hft i]; simp [bI, eq_false h22, h33, eq_false h38, eq_false h48]) K
          · refine ws_iconst (v := 1) X d_Kinds_fits_51 rfl ?_
            refine ws_goto X d_Kinds_fits_52 ?_
            refine ws_istn_2 X rfl d_Kinds_fits_56 (by decide) ?_
            refine ws_iinc_3 X rfl d_Kinds_fits_57 rfl (by decide) ?_
            refine ws_goto X d_Kinds_fits_60 ?_
            rw [nI_inc]; exact ih (i + 1) _ _ (by omega) (by rw [hft i]; simp [bI, eq_false h22, h33, eq_false h38, eq_true h48]) K
theorem l_mapAt (X : CX p s m0 args meth c0 G A c_Meth_mapAt y_Meth_mapAt.cls 3 ((some .int))) {S : MS} {q : Nat} (hq : q < 5) {p0 : Int32} {r : Int32} (mg : Nat → Int32) (h8 : mg 8 = -1) (hmg : ∀ i, i < 8 → mg i = if S.1 4 q 6 ≤ nI i then -1 else if S.1 15 q i = p0 then S.1 16 q i else mg (i + 1)) (Kr : ∀ (j : Int32) (pc : Nat) (nx : Nat), DC c_Meth_mapAt pc .ireturn 1 nx → WS p l e0 (rmS 0 0) s m0 args below meth c0 G A 3 0 0 Q pc [some (.inr (4, q)), some (.inl (.int p0)), some (.inl (.int j))] [.inl (.int r)] (S)) : ∀ (n i : Nat), i + n = 8 → mg i = r → WS p l e0 (rmS 0 0) s m0 args below meth c0 G A 3 0 0 Q 2 [some (.inr (4, q)), some (.inl (.int p0)), some (.inl (.int (nI i)))] [] (S) := by
  intro n
  induction n with
  | zero =>
    intro i hi hr
    have e : i = 8 := by omega
    subst e
    rw [h8] at hr
    subst hr
    refine ws_iload_n (i := 2) X d_Meth_mapAt_2 rfl rfl ?_
    refine ws_aload_n (i := 0) X d_Meth_mapAt_3 rfl rfl ?_
    refine ws_getI X fl_Meth_40 (ob4 (by assumption)) d_Meth_mapAt_4 ?_
    refine ws_icmp_ge X d_Meth_mapAt_7 (fun h7 => ?_) (fun h7 => ?_)
    · refine ws_iconst (v := (-1)) X d_Meth_mapAt_39 rfl ?_
      exact Kr _ _ _ d_Meth_mapAt_40
    · refine ws_iload_n (i := 2) X d_Meth_mapAt_10 rfl rfl ?_
      refine ws_bipush (v := 8) X d_Meth_mapAt_11 rfl ?_
      refine ws_icmp_ge X d_Meth_mapAt_13 (fun h13 => ?_) (fun h13 => ?_)
      · refine ws_iconst (v := (-1)) X d_Meth_mapAt_39 rfl ?_
        exact Kr _ _ _ d_Meth_mapAt_40
      · exact absurd (by decide) h13
  | succ n ih =>
    intro i hi hr
    have e := nI_c (i := i) (by omega)
    have hh : ¬ (8 : Int32) ≤ nI i := by rw [show (8 : Int32) = nI 8 from rfl, nI_leI (by omega) (by omega)]; omega
    have hin : vp_in (nI i) 8 := vp_in_nI (by omega) (by omega)
    rw [hmg i (by omega)] at hr
    refine ws_iload_n (i := 2) X d_Meth_mapAt_2 rfl rfl ?_
    refine ws_aload_n (i := 0) X d_Meth_mapAt_3 rfl rfl ?_
    refine ws_getI X fl_Meth_40 (ob4 (by assumption)) d_Meth_mapAt_4 ?_
    refine ws_icmp_ge X d_Meth_mapAt_7 (fun h7 => ?_) (fun h7 => ?_)
    · refine ws_iconst (v := (-1)) X d_Meth_mapAt_39 rfl ?_
      simp only [eq_true h7, if_true, if_false] at hr; subst hr; exact Kr _ _ _ d_Meth_mapAt_40
    · refine ws_iload_n (i := 2) X d_Meth_mapAt_10 rfl rfl ?_
      refine ws_bipush (v := 8) X d_Meth_mapAt_11 rfl ?_
      refine ws_icmp_ge X d_Meth_mapAt_13 (fun h13 => ?_) (fun h13 => ?_)
      · exact absurd h13 hh
      · refine ws_aload_n (i := 0) X d_Meth_mapAt_16 rfl rfl ?_
        refine ws_getR X fl_Meth_15 (ob4 (by assumption)) d_Meth_mapAt_17 ?_
        refine ws_iload_n (i := 2) X d_Meth_mapAt_20 rfl rfl ?_
        refine ws_iald X ak15 (ob15 (by assumption)) (by assumption) d_Meth_mapAt_21 ?_
        rw [e]
        refine ws_iload_n (i := 1) X d_Meth_mapAt_22 rfl rfl ?_
        refine ws_icmp_ne X d_Meth_mapAt_23 (fun h23 => ?_) (fun h23 => ?_)
        · refine ws_iinc_2 X rfl d_Meth_mapAt_33 rfl (by decide) ?_
          refine ws_goto X d_Meth_mapAt_36 ?_
          rw [nI_inc]; simp only [eq_false h7, eq_false h13, eq_false h23, if_true, if_false] at hr; exact ih (i + 1) (by omega) hr
        · refine ws_aload_n (i := 0) X d_Meth_mapAt_26 rfl rfl ?_
          refine ws_getR X fl_Meth_18 (ob4 (by assumption)) d_Meth_mapAt_27 ?_
          refine ws_iload_n (i := 2) X d_Meth_mapAt_30 rfl rfl ?_
          refine ws_iald X ak16 (ob16 (by assumption)) (by assumption) d_Meth_mapAt_31 ?_
          rw [e]; simp only [eq_false h7, eq_false h13, eq_true h23, if_true, if_false] at hr; subst hr; exact Kr _ _ _ d_Meth_mapAt_32
end L1
theorem m_Tape_sumAhead (S : MS) (k : Nat) (hk : k ≤ 500) : MetE y_Tape_sumAhead c_Tape_sumAhead 4 ((some .int)) 0 0 [.inr (1, 0), .inl (.int (nI k))] S (some (.inl (.int (sumTo (S.1 9 0) k &&& 255)))) (S) := by
  refine MetS.of (lv0 := [some (.inr (1, 0)), some (.inl (.int (nI k))), none, none]) pn_Tape rfl (Nat.le_of_ble_eq_true rfl) (fun p0 l0 e0 s0 m0 args below meth c0 G X => ?_)
  refine ws_iconst (v := 0) X d_Tape_sumAhead_0 rfl ?_
  refine ws_istn_2 X rfl d_Tape_sumAhead_1 (by decide) ?_
  refine ws_iconst (v := 0) X d_Tape_sumAhead_2 rfl ?_
  refine ws_istn_3 X rfl d_Tape_sumAhead_3 (by decide) ?_
  refine l_sumT X (a1 := none) hk k 0 (by omega) (fun j => ?_)
  refine ws_iload_n (i := 2) X d_Tape_sumAhead_33 rfl rfl ?_
  refine ws_sipush (v := 255) X d_Tape_sumAhead_34 rfl ?_
  refine ws_iand X d_Tape_sumAhead_37 ?_
  refine ws_iret X d_Tape_sumAhead_38 ?_
  exact ⟨rfl, rfl⟩

def fitTo (k m : Int32) : Nat → Bool
  | 0 => decide (k &&& 117444607 = m &&& 117444607)
  | l + 1 => fitTo k m l && (decide (kLocal m (nI l) = 0) || decide (kLocal m (nI l) = kLocal k (nI l)))
def fitsK (k m : Int32) : Bool := fitTo k m 6
theorem m_Kinds_fits (S : MS) (k m : Int32) : MetE y_Kinds_fits c_Kinds_fits 5 ((some .boolean)) 1 21 [.inl (.int k), .inl (.int m)] S (some (.inl (.int (bI (fitsK k m))))) (S) := by
  refine MetS.of (lv0 := [some (.inl (.int k)), some (.inl (.int m)), none, none, none]) pn_Kinds rfl (Nat.le_of_ble_eq_true rfl) (fun p0 l0 e0 s0 m0 args below meth c0 G X => ?_)
  refine ws_iload_n (i := 0) X d_Kinds_fits_0 rfl rfl ?_
  refine ws_ldc X d_Kinds_fits_1 ct_Kinds_16 ?_
  refine ws_iand X d_Kinds_fits_3 ?_
  refine ws_iload_n (i := 1) X d_Kinds_fits_4 rfl rfl ?_
  refine ws_ldc X d_Kinds_fits_5 ct_Kinds_16 ?_
  refine ws_iand X d_Kinds_fits_7 ?_
  refine ws_icmp_ne X d_Kinds_fits_8 (fun h8 => ?_) (fun h8 => ?_)
  · refine ws_iconst (v := 0) X d_Kinds_fits_15 rfl ?_
    refine ws_istn_2 X rfl d_Kinds_fits_16 (by decide) ?_
    refine ws_iconst (v := 0) X d_Kinds_fits_17 rfl ?_
    refine ws_istn_3 X rfl d_Kinds_fits_18 (by decide) ?_
    refine l_fitsK X (fitTo k m) (fun _ => rfl) 6 0 _ none (by omega) (by simp [fitTo, bI, eq_false h8]) (fun j a4 => ?_)
    refine ws_iload_n (i := 2) X d_Kinds_fits_63 rfl rfl ?_
    refine ws_zret X (nbI _) d_Kinds_fits_64 ?_
    exact ⟨rfl, rfl⟩
  · refine ws_iconst (v := 1) X d_Kinds_fits_11 rfl ?_
    refine ws_goto X d_Kinds_fits_12 ?_
    refine ws_istn_2 X rfl d_Kinds_fits_16 (by decide) ?_
    refine ws_iconst (v := 0) X d_Kinds_fits_17 rfl ?_
    refine ws_istn_3 X rfl d_Kinds_fits_18 (by decide) ?_
    refine l_fitsK X (fitTo k m) (fun _ => rfl) 6 0 _ none (by omega) (by simp [fitTo, bI, eq_true h8]) (fun j a4 => ?_)
    refine ws_iload_n (i := 2) X d_Kinds_fits_63 rfl rfl ?_
    refine ws_zret X (nbI _) d_Kinds_fits_64 ?_
    exact ⟨rfl, rfl⟩

def mapGo (S : MS) (q : Nat) (p : Int32) : Nat → Nat → Int32
  | 0, _ => -1
  | n + 1, i => if S.1 4 q 6 ≤ nI i then -1 else if S.1 15 q i = p then S.1 16 q i else mapGo S q p n (i + 1)
def mapAtX (S : MS) (q : Nat) (p : Int32) : Int32 := mapGo S q p 8 0
theorem mapGo_h (S : MS) (q : Nat) (p : Int32) (i : Nat) (hi : i ≤ 8) : mapGo S q p (8 - i) i = if 8 ≤ i then -1 else if S.1 4 q 6 ≤ nI i then -1 else if S.1 15 q i = p then S.1 16 q i else mapGo S q p (8 - (i + 1)) (i + 1) := by
  by_cases h : 8 ≤ i
  · rw [if_pos h, show 8 - i = 0 by omega]; rfl
  · rw [if_neg h, show 8 - i = (8 - (i + 1)) + 1 by omega]; rfl
theorem m_Meth_mapAt (S : MS) (q : Nat) (hq : q < 5) (p : Int32) : MetE y_Meth_mapAt c_Meth_mapAt 3 ((some .int)) 0 0 [.inr (4, q), .inl (.int p)] S (some (.inl (.int (mapAtX S q p)))) (S) := by
  refine MetS.of (lv0 := [some (.inr (4, q)), some (.inl (.int p)), none]) pn_Meth rfl (Nat.le_of_ble_eq_true rfl) (fun p0 l0 e0 s0 m0 args below meth c0 G X => ?_)
  refine ws_iconst (v := 0) X d_Meth_mapAt_0 rfl ?_
  refine ws_istn_2 X rfl d_Meth_mapAt_1 (by decide) ?_
  refine l_mapAt X hq (fun i => mapGo S q p (8 - i) i) rfl (fun i hi => by rw [mapGo_h S q p i (by omega), if_neg (by omega)]) (fun j pc nx d => ws_iret X d ⟨rfl, rfl⟩) 8 0 (by omega) rfl

/-- the judgement's row q, emptied up to n -/
def clrJ (S : MS) (q n : Nat) : MS := (fun a b c => if a = 17 ∧ b = q ∧ c < n then -1 else S.1 a b c, S.2)
theorem clrJ_0 (S : MS) (q : Nat) : clrJ S q 0 = S := by
  refine Prod.ext ?_ rfl
  funext a b c
  simp [clrJ]
theorem clrJ_step (S : MS) (q i : Nat) : wI (clrJ S q i) 17 q i (-1) = clrJ S q (i + 1) := by
  refine Prod.ext ?_ rfl
  funext a b c
  simp only [wI, clrJ]
  by_cases h : a = 17 ∧ b = q
  · obtain ⟨rfl, rfl⟩ := h
    by_cases h1 : c = i
    · simp [h1]
    · by_cases h2 : c < i
      · simp [h1, h2, show c < i + 1 by omega]
      · simp [h1, h2, show ¬ c < i + 1 by omega]
  · have h1 : ¬ (a = 17 ∧ b = q ∧ c = i) := fun z => h ⟨z.1, z.2.1⟩
    have h2 : ¬ (a = 17 ∧ b = q ∧ c < i) := fun z => h ⟨z.1, z.2.1⟩
    have h3 : ¬ (a = 17 ∧ b = q ∧ c < i + 1) := fun z => h ⟨z.1, z.2.1⟩
    simp only [h1, h2, h3, if_false]
section L2
variable {p : Program} {l : Launch} {e0 : Env} {s : State} {m0 : MethodId} {args : Array Value} {below : List Frame} {meth : Method} {c0 : Code} {G : GG} {A : Nat → Prop} {Q : State → Prop}
theorem l_clrJ (X : CX p s m0 args meth c0 G A c_Meth_forgetJudgement y_Meth_forgetJudgement.cls 2 (none)) {S : MS} {q : Nat} (hq : q < 5) : ∀ (n i : Nat), i + n = 48 → (∀ j : Int32, WS p l e0 (rmS 0 0) s m0 args below meth c0 G A 2 0 0 Q 21 [some (.inr (4, q)), some (.inl (.int j))] [] (clrJ S q 48)) → WS p l e0 (rmS 0 0) s m0 args below meth c0 G A 2 0 0 Q 2 [some (.inr (4, q)), some (.inl (.int (nI i)))] [] (clrJ S q i) := by
  intro n
  induction n with
  | zero =>
    intro i hi K
    have e : i = 48 := by omega
    subst e
    refine ws_iload_n (i := 1) X d_Meth_forgetJudgement_2 rfl rfl ?_
    refine ws_bipush (v := 48) X d_Meth_forgetJudgement_3 rfl ?_
    refine ws_icmp_ge X d_Meth_forgetJudgement_5 (fun h5 => ?_) (fun h5 => ?_)
    · exact K _
    · exact absurd (by decide) h5
  | succ n ih =>
    intro i hi K
    have e := nI_c (i := i) (by omega)
    have hh : ¬ (48 : Int32) ≤ nI i := by rw [show (48 : Int32) = nI 48 from rfl, nI_leI (by omega) (by omega)]; omega
    have hin : vp_in (nI i) 48 := vp_in_nI (by omega) (by omega)
    refine ws_iload_n (i := 1) X d_Meth_forgetJudgement_2 rfl rfl ?_
    refine ws_bipush (v := 48) X d_Meth_forgetJudgement_3 rfl ?_
    refine ws_icmp_ge X d_Meth_forgetJudgement_5 (fun h5 => ?_) (fun h5 => ?_)
    · exact absurd h5 hh
    · refine ws_aload_n (i := 0) X d_Meth_forgetJudgement_8 rfl rfl ?_
      refine ws_getR X fl_Meth_21 (ob4 (by assumption)) d_Meth_forgetJudgement_9 ?_
      refine ws_iload_n (i := 1) X d_Meth_forgetJudgement_12 rfl rfl ?_
      refine ws_iconst (v := (-1)) X d_Meth_forgetJudgement_13 rfl ?_
      refine ws_iast X ak17 (ob17 (by assumption)) (by assumption) d_Meth_forgetJudgement_14 ?_
      refine ws_iinc_1 X rfl d_Meth_forgetJudgement_15 rfl (by decide) ?_
      refine ws_goto X d_Meth_forgetJudgement_18 ?_
      rw [e, nI_inc, clrJ_step]; exact ih (i + 1) (by omega) K
end L2
theorem m_Meth_forgetJudgement (S : MS) (q : Nat) (hq : q < 5) : MetE y_Meth_forgetJudgement c_Meth_forgetJudgement 2 (none) 0 0 [.inr (4, q)] S (none) (clrJ S q 48) := by
  refine MetS.of (lv0 := [some (.inr (4, q)), none]) pn_Meth rfl (Nat.le_of_ble_eq_true rfl) (fun p0 l0 e0 s0 m0 args below meth c0 G X => ?_)
  refine ws_iconst (v := 0) X d_Meth_forgetJudgement_0 rfl ?_
  refine ws_istn_1 X rfl d_Meth_forgetJudgement_1 (by decide) ?_
  rw [← clrJ_0 S q]; refine l_clrJ X hq 48 0 (by omega) (fun j => ?_); rw [clrJ_0]
  refine ws_vret X d_Meth_forgetJudgement_21 ?_
  exact ⟨rfl, rfl⟩

/-- can e name one more method, where k stand ahead -/
def canTo (S : MS) (e : Int32) : Nat → Bool
  | 0 => tagP S e 3
  | k + 1 => canTo S e k && !(decide (valueOfP S (S.1 4 k 0) = valueOfP S e))
theorem okG_n {S : MS} {k i : Nat} (hk : k ≤ 5) (hS : S.1 2 0 3 = nI k) (hi : i < k) : okG S (nI i) = true := by
  have h1 : ¬ nI i < 0 := nI_pos (by omega)
  have h2 : ¬ nI k ≤ nI i := by rw [nI_leI (by omega) (by omega)]; omega
  have h3 : ¬ (5 : Int32) ≤ nI i := by rw [show (5 : Int32) = nI 5 from rfl, nI_leI (by omega) (by omega)]; omega
  simp [okG, hS, h1, h2, h3]
section L3
variable {p : Program} {l : Launch} {e0 : Env} {s : State} {m0 : MethodId} {args : Array Value} {below : List Frame} {meth : Method} {c0 : Code} {G : GG} {A : Nat → Prop} {Q : State → Prop}
theorem l_can (X : CX p s m0 args meth c0 G A c_Prog_canName y_Prog_canName.cls 5 ((some .boolean))) {S : MS} {e : Int32} {k : Nat} (hk : k ≤ 5) (hS : S.1 2 0 3 = nI k) : ∀ (n i : Nat) (v : Int32) (a4 : Option MV), i + n = k → v = bI (canTo S e i) → (∀ (j : Int32) (a4 : Option MV), WS p l e0 (rmS 2 43) s m0 args below meth c0 G A 5 0 0 Q 72 [some (.inr (2, 0)), some (.inl (.int e)), some (.inl (.int (bI (canTo S e k)))), some (.inl (.int j)), a4] [] (S)) → WS p l e0 (rmS 2 43) s m0 args below meth c0 G A 5 0 0 Q 12 [some (.inr (2, 0)), some (.inl (.int e)), some (.inl (.int v)), some (.inl (.int (nI i))), a4] [] (S) := by
  intro n
  induction n with
  | zero =>
    intro i v a4 hi hv K
    have e1 : i = k := by omega
    subst e1; subst hv
    have hh : S.1 2 0 3 ≤ nI i := by rw [hS]; exact Int32.le_refl _
    refine ws_iload_n (i := 3) X d_Prog_canName_12 rfl rfl ?_
    refine ws_aload_n (i := 0) X d_Prog_canName_13 rfl rfl ?_
    refine ws_getI X fl_Prog_29 ob2 d_Prog_canName_14 ?_
    refine ws_icmp_ge X d_Prog_canName_17 (fun h17 => ?_) (fun h17 => ?_)
    · exact K _ _
    · exact absurd hh h17
  | succ n ih =>
    intro i v a4 hi hv K
    subst hv
    have e1 := nI_c (i := i) (by omega)
    have hh : ¬ S.1 2 0 3 ≤ nI i := by rw [hS, nI_leI (by omega) (by omega)]; omega
    have hok := okG_n hk hS (show i < k by omega)
    have h5 : i < 5 := by omega
    refine ws_iload_n (i := 3) X d_Prog_canName_12 rfl rfl ?_
    refine ws_aload_n (i := 0) X d_Prog_canName_13 rfl rfl ?_
    refine ws_getI X fl_Prog_29 ob2 d_Prog_canName_14 ?_
    refine ws_icmp_ge X d_Prog_canName_17 (fun h17 => ?_) (fun h17 => ?_)
    · exact absurd h17 hh
    · refine ws_aload_n (i := 0) X d_Prog_canName_20 rfl rfl ?_
      refine ws_iload_n (i := 3) X d_Prog_canName_21 rfl rfl ?_
      refine ws_callV1 X (m_Prog_methodAt_y _ _ hok) cv_Prog_methodAt ml_Prog_39 ob2 rfl rfl (Nat.le_of_ble_eq_true rfl) ⟨Nat.le_of_ble_eq_true rfl, Nat.le_of_ble_eq_true rfl⟩ ⟨Nat.zero_le _, Nat.zero_le _⟩ d_Prog_canName_22 ?_
      rw [e1]
      refine ws_ast_4 X rfl d_Prog_canName_25 (by decide) ?_
      refine ws_iload_n (i := 2) X d_Prog_canName_27 rfl rfl ?_
      refine ws_ifB_eq X d_Prog_canName_28 (fun h28 => ?_) (fun h28 => ?_)
      · refine ws_iconst (v := 0) X d_Prog_canName_64 rfl ?_
        refine ws_istn_2 X rfl d_Prog_canName_65 (by decide) ?_
        refine ws_iinc_3 X rfl d_Prog_canName_66 rfl (by decide) ?_
        refine ws_goto X d_Prog_canName_69 ?_
        rw [nI_inc]; exact ih (i + 1) _ _ (by omega) (by simp [canTo, bI, eq_false h17, h28]) K
      · refine ws_aload (i := 4) X d_Prog_canName_31 rfl ?_
        refine ws_ifnull_r X d_Prog_canName_33 ?_
        refine ws_aload_n (i := 0) X d_Prog_canName_36 rfl rfl ?_
        refine ws_getR X fl_Prog_12 ob2 d_Prog_canName_37 ?_
        refine ws_aload (i := 4) X d_Prog_canName_40 rfl ?_
        refine ws_getI X fl_Prog_43 (ob4 (by assumption)) d_Prog_canName_42 ?_
        refine ws_callV1 X (m_Pool_valueOf _ _) cv_Pool_valueOf ml_Prog_46 ob3 rfl rfl (Nat.le_of_ble_eq_true rfl) ⟨Nat.le_of_ble_eq_true rfl, Nat.le_of_ble_eq_true rfl⟩ ⟨Nat.zero_le _, Nat.zero_le _⟩ d_Prog_canName_45 ?_
        refine ws_aload_n (i := 0) X d_Prog_canName_48 rfl rfl ?_
        refine ws_getR X fl_Prog_12 ob2 d_Prog_canName_49 ?_
        refine ws_iload_n (i := 1) X d_Prog_canName_52 rfl rfl ?_
        refine ws_callV1 X (m_Pool_valueOf _ _) cv_Pool_valueOf ml_Prog_46 ob3 rfl rfl (Nat.le_of_ble_eq_true rfl) ⟨Nat.le_of_ble_eq_true rfl, Nat.le_of_ble_eq_true rfl⟩ ⟨Nat.zero_le _, Nat.zero_le _⟩ d_Prog_canName_53 ?_
        refine ws_lcmp_eq X d_Prog_canName_56 d_Prog_canName_57 (fun h56 => ?_) (fun h56 => ?_)
        · refine ws_iconst (v := 0) X d_Prog_canName_64 rfl ?_
          refine ws_istn_2 X rfl d_Prog_canName_65 (by decide) ?_
          refine ws_iinc_3 X rfl d_Prog_canName_66 rfl (by decide) ?_
          refine ws_goto X d_Prog_canName_69 ?_
          rw [nI_inc]; exact ih (i + 1) _ _ (by omega) (by simp [canTo, bI, eq_false h17, h28, eq_true h56]) K
        · refine ws_iconst (v := 1) X d_Prog_canName_60 rfl ?_
          refine ws_goto X d_Prog_canName_61 ?_
          refine ws_istn_2 X rfl d_Prog_canName_65 (by decide) ?_
          refine ws_iinc_3 X rfl d_Prog_canName_66 rfl (by decide) ?_
          refine ws_goto X d_Prog_canName_69 ?_
          rw [nI_inc]; exact ih (i + 1) _ _ (by omega) (by simp [canTo, bI, eq_false h17, h28, eq_false h56]) K
end L3
theorem m_Prog_canName (S : MS) (e : Int32) (k : Nat) (hk : k ≤ 5) (hS : S.1 2 0 3 = nI k) : MetE y_Prog_canName c_Prog_canName 5 ((some .boolean)) 2 43 [.inr (2, 0), .inl (.int e)] S (some (.inl (.int (bI (canTo S e k))))) (S) := by
  refine MetS.of (lv0 := [some (.inr (2, 0)), some (.inl (.int e)), none, none, none]) pn_Prog rfl (Nat.le_of_ble_eq_true rfl) (fun p0 l0 e0 s0 m0 args below meth c0 G X => ?_)
  refine ws_aload_n (i := 0) X d_Prog_canName_0 rfl rfl ?_
  refine ws_getR X fl_Prog_12 ob2 d_Prog_canName_1 ?_
  refine ws_iload_n (i := 1) X d_Prog_canName_4 rfl rfl ?_
  refine ws_iconst (v := 3) X d_Prog_canName_5 rfl ?_
  refine ws_callV1 X (m_Pool_isTagged _ _ _) cv_Pool_isTagged ml_Prog_35 ob3 rfl rfl (Nat.le_of_ble_eq_true rfl) ⟨Nat.le_of_ble_eq_true rfl, Nat.le_of_ble_eq_true rfl⟩ ⟨Nat.zero_le _, Nat.zero_le _⟩ d_Prog_canName_6 ?_
  refine ws_istn_2 X rfl d_Prog_canName_9 (by decide) ?_
  refine ws_iconst (v := 0) X d_Prog_canName_10 rfl ?_
  refine ws_istn_3 X rfl d_Prog_canName_11 (by decide) ?_
  refine l_can X hk hS k 0 _ none (by omega) rfl (fun j a4 => ?_)
  refine ws_iload_n (i := 2) X d_Prog_canName_72 rfl rfl ?_
  refine ws_zret X (nbI _) d_Prog_canName_73 ?_
  exact ⟨rfl, rfl⟩

/-! Judge: place S.1 6 0 0, kinds S.1 6 0 1, at hand S.1 6 0 2 -/
theorem m_Judge_popped (S : MS) : MetE y_Judge_popped c_Judge_popped 2 ((some .int)) 2 41 [.inr (6, 0)] S (some (.inl (.int (kItem (S.1 6 0 1) (kDepth (S.1 6 0 1) - 1))))) (wI S 6 0 1 (kPop (S.1 6 0 1))) := by
  refine MetS.of (lv0 := [some (.inr (6, 0)), none]) pn_Judge rfl (Nat.le_of_ble_eq_true rfl) (fun p0 l0 e0 s0 m0 args below meth c0 G X => ?_)
  refine ws_aload_n (i := 0) X d_Judge_popped_0 rfl rfl ?_
  refine ws_getI X fl_Judge_24 ob6 d_Judge_popped_1 ?_
  refine ws_aload_n (i := 0) X d_Judge_popped_4 rfl rfl ?_
  refine ws_getI X fl_Judge_24 ob6 d_Judge_popped_5 ?_
  refine ws_callS1 X (m_Kinds_depth _ _) cs_Kinds_depth ml_Judge_126 rfl rfl (Nat.le_of_ble_eq_true rfl) ⟨Nat.le_of_ble_eq_true rfl, Nat.le_of_ble_eq_true rfl⟩ ⟨Nat.zero_le _, Nat.zero_le _⟩ d_Judge_popped_8 ?_
  refine ws_iconst (v := 1) X d_Judge_popped_11 rfl ?_
  refine ws_isub X d_Judge_popped_12 ?_
  refine ws_callS1 X (m_Kinds_item _ _ _) cs_Kinds_item ml_Judge_163 rfl rfl (Nat.le_of_ble_eq_true rfl) ⟨Nat.le_of_ble_eq_true rfl, Nat.le_of_ble_eq_true rfl⟩ ⟨Nat.zero_le _, Nat.zero_le _⟩ d_Judge_popped_13 ?_
  refine ws_istn_1 X rfl d_Judge_popped_16 (by decide) ?_
  refine ws_aload_n (i := 0) X d_Judge_popped_17 rfl rfl ?_
  refine ws_aload_n (i := 0) X d_Judge_popped_18 rfl rfl ?_
  refine ws_getI X fl_Judge_24 ob6 d_Judge_popped_19 ?_
  refine ws_callS1 X (m_Kinds_pop _ _) cs_Kinds_pop ml_Judge_166 rfl rfl (Nat.le_of_ble_eq_true rfl) ⟨Nat.le_of_ble_eq_true rfl, Nat.le_of_ble_eq_true rfl⟩ ⟨Nat.zero_le _, Nat.zero_le _⟩ d_Judge_popped_22 ?_
  refine ws_putI X fl_Judge_24 ob6 d_Judge_popped_25 ?_
  refine ws_iload_n (i := 1) X d_Judge_popped_28 rfl rfl ?_
  refine ws_iret X d_Judge_popped_29 ?_
  exact ⟨rfl, rfl⟩

def pushV (S : MS) (q : Nat) : Int32 := if kDepth (S.1 6 0 1) < S.1 4 q 4 then 0 else 17
def pushS (S : MS) (q : Nat) (x : Int32) : MS := if kDepth (S.1 6 0 1) < S.1 4 q 4 then wI S 6 0 1 (kPush (S.1 6 0 1) x) else S
theorem m_Judge_push (S : MS) (q : Nat) (hq : q < 5) (x : Int32) : MetE y_Judge_push c_Judge_push 3 ((some .int)) 2 41 [.inr (6, 0), .inr (4, q), .inl (.int x)] S (some (.inl (.int (pushV S q)))) (pushS S q x) := by
  refine MetS.of (lv0 := [some (.inr (6, 0)), some (.inr (4, q)), some (.inl (.int x))]) pn_Judge rfl (Nat.le_of_ble_eq_true rfl) (fun p0 l0 e0 s0 m0 args below meth c0 G X => ?_)
  refine ws_aload_n (i := 0) X d_Judge_push_0 rfl rfl ?_
  refine ws_getI X fl_Judge_24 ob6 d_Judge_push_1 ?_
  refine ws_callS1 X (m_Kinds_depth _ _) cs_Kinds_depth ml_Judge_126 rfl rfl (Nat.le_of_ble_eq_true rfl) ⟨Nat.le_of_ble_eq_true rfl, Nat.le_of_ble_eq_true rfl⟩ ⟨Nat.zero_le _, Nat.zero_le _⟩ d_Judge_push_4 ?_
  refine ws_aload_n (i := 1) X d_Judge_push_7 rfl rfl ?_
  refine ws_getI X fl_Judge_169 (ob4 (by assumption)) d_Judge_push_8 ?_
  refine ws_icmp_lt X d_Judge_push_11 (fun h11 => ?_) (fun h11 => ?_)
  · refine ws_aload_n (i := 0) X d_Judge_push_17 rfl rfl ?_
    refine ws_aload_n (i := 0) X d_Judge_push_18 rfl rfl ?_
    refine ws_getI X fl_Judge_24 ob6 d_Judge_push_19 ?_
    refine ws_iload_n (i := 2) X d_Judge_push_22 rfl rfl ?_
    refine ws_callS1 X (m_Kinds_push _ _ _) cs_Kinds_push ml_Judge_158 rfl rfl (Nat.le_of_ble_eq_true rfl) ⟨Nat.le_of_ble_eq_true rfl, Nat.le_of_ble_eq_true rfl⟩ ⟨Nat.zero_le _, Nat.zero_le _⟩ d_Judge_push_23 ?_
    refine ws_putI X fl_Judge_24 ob6 d_Judge_push_26 ?_
    refine ws_iconst (v := 0) X d_Judge_push_29 rfl ?_
    refine ws_iret X d_Judge_push_30 ?_
    exact ⟨by simp [pushV, eq_true h11], by simp [pushS, eq_true h11]⟩
  · refine ws_bipush (v := 17) X d_Judge_push_14 rfl ?_
    refine ws_iret X d_Judge_push_16 ?_
    exact ⟨by simp [pushV, eq_false h11], by simp [pushS, eq_false h11]⟩

def meetV (S : MS) (q : Nat) : Int32 := if mapAtX S q (S.1 6 0 0) = -1 then S.1 6 0 2 else bI (decide (S.1 6 0 2 = 0) || fitsK (S.1 6 0 1) (mapAtX S q (S.1 6 0 0)))
def meetS (S : MS) (q : Nat) : MS := if mapAtX S q (S.1 6 0 0) = -1 then S else wI S 6 0 1 (mapAtX S q (S.1 6 0 0))
theorem m_Judge_meetsMap (S : MS) (q : Nat) (hq : q < 5) (hz : S.1 6 0 2 = 0 ∨ S.1 6 0 2 = 1) : MetE y_Judge_meetsMap c_Judge_meetsMap 4 ((some .boolean)) 2 45 [.inr (6, 0), .inr (4, q)] S (some (.inl (.int (meetV S q)))) (meetS S q) := by
  refine MetS.of (lv0 := [some (.inr (6, 0)), some (.inr (4, q)), none, none]) pn_Judge rfl (Nat.le_of_ble_eq_true rfl) (fun p0 l0 e0 s0 m0 args below meth c0 G X => ?_)
  refine ws_aload_n (i := 1) X d_Judge_meetsMap_0 rfl rfl ?_
  refine ws_aload_n (i := 0) X d_Judge_meetsMap_1 rfl rfl ?_
  refine ws_getI X fl_Judge_36 ob6 d_Judge_meetsMap_2 ?_
  refine ws_callV1 X (m_Meth_mapAt _ _ (by assumption) _) cv_Meth_mapAt ml_Judge_102 (ob4 (by assumption)) rfl rfl (Nat.le_of_ble_eq_true rfl) ⟨Nat.le_of_ble_eq_true rfl, Nat.le_of_ble_eq_true rfl⟩ ⟨Nat.zero_le _, Nat.zero_le _⟩ d_Judge_meetsMap_5 ?_
  refine ws_istn_2 X rfl d_Judge_meetsMap_8 (by decide) ?_
  refine ws_iload_n (i := 2) X d_Judge_meetsMap_9 rfl rfl ?_
  refine ws_iconst (v := (-1)) X d_Judge_meetsMap_10 rfl ?_
  refine ws_icmp_ne X d_Judge_meetsMap_11 (fun h11 => ?_) (fun h11 => ?_)
  · refine ws_aload_n (i := 0) X d_Judge_meetsMap_19 rfl rfl ?_
    refine ws_getZ X fl_Judge_29 ob6 d_Judge_meetsMap_20 ?_
    refine ws_if_eq X d_Judge_meetsMap_23 (fun h23 => ?_) (fun h23 => ?_)
    · refine ws_iconst (v := 1) X d_Judge_meetsMap_37 rfl ?_
      refine ws_goto X d_Judge_meetsMap_38 ?_
      refine ws_istn_3 X rfl d_Judge_meetsMap_42 (by decide) ?_
      refine ws_aload_n (i := 0) X d_Judge_meetsMap_43 rfl rfl ?_
      refine ws_iload_n (i := 2) X d_Judge_meetsMap_44 rfl rfl ?_
      refine ws_putI X fl_Judge_24 ob6 d_Judge_meetsMap_45 ?_
      refine ws_iload_n (i := 3) X d_Judge_meetsMap_48 rfl rfl ?_
      refine ws_zret X (rfl) d_Judge_meetsMap_49 ?_
      exact ⟨by simp [meetV, bI, eq_false h11, eq_true h23], by simp [meetS, eq_false h11, eq_true h23]⟩
    · refine ws_aload_n (i := 0) X d_Judge_meetsMap_26 rfl rfl ?_
      refine ws_getI X fl_Judge_24 ob6 d_Judge_meetsMap_27 ?_
      refine ws_iload_n (i := 2) X d_Judge_meetsMap_30 rfl rfl ?_
      refine ws_callS1 X (m_Kinds_fits _ _ _) cs_Kinds_fits ml_Judge_105 rfl rfl (Nat.le_of_ble_eq_true rfl) ⟨Nat.le_of_ble_eq_true rfl, Nat.le_of_ble_eq_true rfl⟩ ⟨Nat.zero_le _, Nat.zero_le _⟩ d_Judge_meetsMap_31 ?_
      refine ws_ifB_eq X d_Judge_meetsMap_34 (fun h34 => ?_) (fun h34 => ?_)
      · refine ws_iconst (v := 0) X d_Judge_meetsMap_41 rfl ?_
        refine ws_istn_3 X rfl d_Judge_meetsMap_42 (by decide) ?_
        refine ws_aload_n (i := 0) X d_Judge_meetsMap_43 rfl rfl ?_
        refine ws_iload_n (i := 2) X d_Judge_meetsMap_44 rfl rfl ?_
        refine ws_putI X fl_Judge_24 ob6 d_Judge_meetsMap_45 ?_
        refine ws_iload_n (i := 3) X d_Judge_meetsMap_48 rfl rfl ?_
        refine ws_zret X (rfl) d_Judge_meetsMap_49 ?_
        exact ⟨by simp [meetV, bI, eq_false h11, eq_false h23, h34], by simp [meetS, eq_false h11, eq_false h23, h34]⟩
      · refine ws_iconst (v := 1) X d_Judge_meetsMap_37 rfl ?_
        refine ws_goto X d_Judge_meetsMap_38 ?_
        refine ws_istn_3 X rfl d_Judge_meetsMap_42 (by decide) ?_
        refine ws_aload_n (i := 0) X d_Judge_meetsMap_43 rfl rfl ?_
        refine ws_iload_n (i := 2) X d_Judge_meetsMap_44 rfl rfl ?_
        refine ws_putI X fl_Judge_24 ob6 d_Judge_meetsMap_45 ?_
        refine ws_iload_n (i := 3) X d_Judge_meetsMap_48 rfl rfl ?_
        refine ws_zret X (rfl) d_Judge_meetsMap_49 ?_
        exact ⟨by simp [meetV, bI, eq_false h11, eq_false h23, h34], by simp [meetS, eq_false h11, eq_false h23, h34]⟩
  · refine ws_aload_n (i := 0) X d_Judge_meetsMap_14 rfl rfl ?_
    refine ws_getZ X fl_Judge_29 ob6 d_Judge_meetsMap_15 ?_
    refine ws_zret X (by rcases hz with h | h <;> rw [h] <;> rfl) d_Judge_meetsMap_18 ?_
    exact ⟨by simp [meetV, bI, eq_true h11], by simp [meetS, eq_true h11]⟩

def reachV (S : MS) (q : Nat) (t : Int32) : Bool := !(decide (mapAtX S q t = -1)) && fitsK (S.1 6 0 1) (mapAtX S q t)
theorem m_Judge_reaches (S : MS) (q : Nat) (hq : q < 5) (t : Int32) : MetE y_Judge_reaches c_Judge_reaches 4 ((some .boolean)) 2 45 [.inr (6, 0), .inr (4, q), .inl (.int t)] S (some (.inl (.int (bI (reachV S q t))))) (S) := by
  refine MetS.of (lv0 := [some (.inr (6, 0)), some (.inr (4, q)), some (.inl (.int t)), none]) pn_Judge rfl (Nat.le_of_ble_eq_true rfl) (fun p0 l0 e0 s0 m0 args below meth c0 G X => ?_)
  refine ws_aload_n (i := 1) X d_Judge_reaches_0 rfl rfl ?_
  refine ws_iload_n (i := 2) X d_Judge_reaches_1 rfl rfl ?_
  refine ws_callV1 X (m_Meth_mapAt _ _ (by assumption) _) cv_Meth_mapAt ml_Judge_102 (ob4 (by assumption)) rfl rfl (Nat.le_of_ble_eq_true rfl) ⟨Nat.le_of_ble_eq_true rfl, Nat.le_of_ble_eq_true rfl⟩ ⟨Nat.zero_le _, Nat.zero_le _⟩ d_Judge_reaches_2 ?_
  refine ws_istn_3 X rfl d_Judge_reaches_5 (by decide) ?_
  refine ws_iload_n (i := 3) X d_Judge_reaches_6 rfl rfl ?_
  refine ws_iconst (v := (-1)) X d_Judge_reaches_7 rfl ?_
  refine ws_icmp_eq X d_Judge_reaches_8 (fun h8 => ?_) (fun h8 => ?_)
  · refine ws_iconst (v := 0) X d_Judge_reaches_26 rfl ?_
    refine ws_zret X (rfl) d_Judge_reaches_27 ?_
    exact ⟨by simp [reachV, bI, eq_true h8], rfl⟩
  · refine ws_aload_n (i := 0) X d_Judge_reaches_11 rfl rfl ?_
    refine ws_getI X fl_Judge_24 ob6 d_Judge_reaches_12 ?_
    refine ws_iload_n (i := 3) X d_Judge_reaches_15 rfl rfl ?_
    refine ws_callS1 X (m_Kinds_fits _ _ _) cs_Kinds_fits ml_Judge_105 rfl rfl (Nat.le_of_ble_eq_true rfl) ⟨Nat.le_of_ble_eq_true rfl, Nat.le_of_ble_eq_true rfl⟩ ⟨Nat.zero_le _, Nat.zero_le _⟩ d_Judge_reaches_16 ?_
    refine ws_ifB_eq X d_Judge_reaches_19 (fun h19 => ?_) (fun h19 => ?_)
    · refine ws_iconst (v := 0) X d_Judge_reaches_26 rfl ?_
      refine ws_zret X (rfl) d_Judge_reaches_27 ?_
      exact ⟨by simp [reachV, bI, eq_false h8, h19], rfl⟩
    · refine ws_iconst (v := 1) X d_Judge_reaches_22 rfl ?_
      refine ws_goto X d_Judge_reaches_23 ?_
      refine ws_zret X (rfl) d_Judge_reaches_27 ?_
      exact ⟨by simp [reachV, bI, eq_false h8, h19], rfl⟩

def entJ (S : MS) (q : Nat) (o f : Int32) : Bool := if o = 1 then tagP S f 1 else if o = 2 then tagP S f 2 else if o = 3 ∨ o = 4 then decide (¬ S.1 4 q 3 ≤ f) else if o = 21 then okG S f else if o = 24 then listedP S f else true
theorem m_Judge_hasEntry (S : MS) (q : Nat) (hq : q < 5) (o f : Int32) : MetE y_Judge_hasEntry c_Judge_hasEntry 5 ((some .boolean)) 3 66 [.inr (6, 0), .inr (2, 0), .inr (4, q), .inl (.int o), .inl (.int f)] S (some (.inl (.int (bI (entJ S q o f))))) (S) := by
  refine MetS.of (lv0 := [some (.inr (6, 0)), some (.inr (2, 0)), some (.inr (4, q)), some (.inl (.int o)), some (.inl (.int f))]) pn_Judge rfl (Nat.le_of_ble_eq_true rfl) (fun p0 l0 e0 s0 m0 args below meth c0 G X => ?_)
  refine ws_iload_n (i := 3) X d_Judge_hasEntry_0 rfl rfl ?_
  refine ws_lsw X [(1, 60), (2, 71), (3, 107), (4, 107), (21, 92), (24, 82)] d_Judge_hasEntry_1 (by decide) (fun v off hm => by
      have hm : (v, off) ∈ [((1 : Int), (59 : Int)), ((2 : Int), (70 : Int)), ((3 : Int), (106 : Int)), ((4 : Int), (106 : Int)), ((21 : Int), (91 : Int)), ((24 : Int), (81 : Int))] := hm
      simp only [List.mem_cons, Prod.mk.injEq, List.not_mem_nil, or_false] at hm
      rcases hm with ⟨rfl, rfl⟩ | ⟨rfl, rfl⟩ | ⟨rfl, rfl⟩ | ⟨rfl, rfl⟩ | ⟨rfl, rfl⟩ | ⟨rfl, rfl⟩
      · exact ⟨60, by decide, by decide⟩
      · exact ⟨71, by decide, by decide⟩
      · exact ⟨107, by decide, by decide⟩
      · exact ⟨107, by decide, by decide⟩
      · exact ⟨92, by decide, by decide⟩
      · exact ⟨82, by decide, by decide⟩) (tgt := 122) rfl (And.intro (fun h1 => ?_) (And.intro (fun h1 => ?_) (And.intro (fun h1 => ?_) (And.intro (fun h1 => ?_) (And.intro (fun h1 => ?_) (And.intro (fun h1 => ?_) (trivial))))))) (fun h1 => ?_)
  · have h1 : o = 1 := h1
    refine ws_aload_n (i := 1) X d_Judge_hasEntry_60 rfl rfl ?_
    refine ws_getR X fl_Judge_111 ob2 d_Judge_hasEntry_61 ?_
    refine ws_iload (i := 4) X d_Judge_hasEntry_64 rfl ?_
    refine ws_iconst (v := 1) X d_Judge_hasEntry_66 rfl ?_
    refine ws_callV1 X (m_Pool_isTagged _ _ _) cv_Pool_isTagged ml_Judge_115 ob3 rfl rfl (Nat.le_of_ble_eq_true rfl) ⟨Nat.le_of_ble_eq_true rfl, Nat.le_of_ble_eq_true rfl⟩ ⟨Nat.zero_le _, Nat.zero_le _⟩ d_Judge_hasEntry_67 ?_
    refine ws_zret X (nbI _) d_Judge_hasEntry_70 ?_
    exact ⟨by simp [entJ, bI, h1], rfl⟩
  · have h1 : o = 2 := h1
    refine ws_aload_n (i := 1) X d_Judge_hasEntry_71 rfl rfl ?_
    refine ws_getR X fl_Judge_111 ob2 d_Judge_hasEntry_72 ?_
    refine ws_iload (i := 4) X d_Judge_hasEntry_75 rfl ?_
    refine ws_iconst (v := 2) X d_Judge_hasEntry_77 rfl ?_
    refine ws_callV1 X (m_Pool_isTagged _ _ _) cv_Pool_isTagged ml_Judge_115 ob3 rfl rfl (Nat.le_of_ble_eq_true rfl) ⟨Nat.le_of_ble_eq_true rfl, Nat.le_of_ble_eq_true rfl⟩ ⟨Nat.zero_le _, Nat.zero_le _⟩ d_Judge_hasEntry_78 ?_
    refine ws_zret X (nbI _) d_Judge_hasEntry_81 ?_
    exact ⟨by simp [entJ, bI, h1], rfl⟩
  · have h1 : o = 3 := h1
    refine ws_iload (i := 4) X d_Judge_hasEntry_107 rfl ?_
    refine ws_aload_n (i := 2) X d_Judge_hasEntry_109 rfl rfl ?_
    refine ws_getI X fl_Judge_123 (ob4 (by assumption)) d_Judge_hasEntry_110 ?_
    refine ws_icmp_ge X d_Judge_hasEntry_113 (fun h113 => ?_) (fun h113 => ?_)
    · refine ws_iconst (v := 0) X d_Judge_hasEntry_120 rfl ?_
      refine ws_zret X (rfl) d_Judge_hasEntry_121 ?_
      exact ⟨by simp [entJ, bI, h1, eq_true h113], rfl⟩
    · refine ws_iconst (v := 1) X d_Judge_hasEntry_116 rfl ?_
      refine ws_goto X d_Judge_hasEntry_117 ?_
      refine ws_zret X (rfl) d_Judge_hasEntry_121 ?_
      exact ⟨by simp [entJ, bI, h1, eq_false h113], rfl⟩
  · have h1 : o = 4 := h1
    refine ws_iload (i := 4) X d_Judge_hasEntry_107 rfl ?_
    refine ws_aload_n (i := 2) X d_Judge_hasEntry_109 rfl rfl ?_
    refine ws_getI X fl_Judge_123 (ob4 (by assumption)) d_Judge_hasEntry_110 ?_
    refine ws_icmp_ge X d_Judge_hasEntry_113 (fun h113 => ?_) (fun h113 => ?_)
    · refine ws_iconst (v := 0) X d_Judge_hasEntry_120 rfl ?_
      refine ws_zret X (rfl) d_Judge_hasEntry_121 ?_
      exact ⟨by simp [entJ, bI, h1, eq_true h113], rfl⟩
    · refine ws_iconst (v := 1) X d_Judge_hasEntry_116 rfl ?_
      refine ws_goto X d_Judge_hasEntry_117 ?_
      refine ws_zret X (rfl) d_Judge_hasEntry_121 ?_
      exact ⟨by simp [entJ, bI, h1, eq_false h113], rfl⟩
  · have h1 : o = 21 := h1
    rcases hm : okG S f with _ | _
    · refine ws_aload_n (i := 1) X d_Judge_hasEntry_92 rfl rfl ?_
      refine ws_iload (i := 4) X d_Judge_hasEntry_93 rfl ?_
      refine ws_callV1 X (m_Prog_methodAt_n _ _ hm) cv_Prog_methodAt ml_Judge_9 ob2 rfl rfl (Nat.le_of_ble_eq_true rfl) ⟨Nat.le_of_ble_eq_true rfl, Nat.le_of_ble_eq_true rfl⟩ ⟨Nat.zero_le _, Nat.zero_le _⟩ d_Judge_hasEntry_95 ?_
      refine ws_ifnull_n X d_Judge_hasEntry_98 ?_
      refine ws_iconst (v := 0) X d_Judge_hasEntry_105 rfl ?_
      refine ws_zret X (rfl) d_Judge_hasEntry_106 ?_
      exact ⟨by simp [entJ, bI, h1, hm], rfl⟩
    · refine ws_aload_n (i := 1) X d_Judge_hasEntry_92 rfl rfl ?_
      refine ws_iload (i := 4) X d_Judge_hasEntry_93 rfl ?_
      refine ws_callV1 X (m_Prog_methodAt_y _ _ hm) cv_Prog_methodAt ml_Judge_9 ob2 rfl rfl (Nat.le_of_ble_eq_true rfl) ⟨Nat.le_of_ble_eq_true rfl, Nat.le_of_ble_eq_true rfl⟩ ⟨Nat.zero_le _, Nat.zero_le _⟩ d_Judge_hasEntry_95 ?_
      refine ws_ifnull_r X d_Judge_hasEntry_98 ?_
      refine ws_iconst (v := 1) X d_Judge_hasEntry_101 rfl ?_
      refine ws_goto X d_Judge_hasEntry_102 ?_
      refine ws_zret X (rfl) d_Judge_hasEntry_106 ?_
      exact ⟨by simp [entJ, bI, h1, hm], rfl⟩
  · have h1 : o = 24 := h1
    refine ws_aload_n (i := 1) X d_Judge_hasEntry_82 rfl rfl ?_
    refine ws_getR X fl_Judge_111 ob2 d_Judge_hasEntry_83 ?_
    refine ws_iload (i := 4) X d_Judge_hasEntry_86 rfl ?_
    refine ws_callV1 X (m_Pool_isListed _ _) cv_Pool_isListed ml_Judge_120 ob3 rfl rfl (Nat.le_of_ble_eq_true rfl) ⟨Nat.le_of_ble_eq_true rfl, Nat.le_of_ble_eq_true rfl⟩ ⟨Nat.zero_le _, Nat.zero_le _⟩ d_Judge_hasEntry_88 ?_
    refine ws_zret X (nbI _) d_Judge_hasEntry_91 ?_
    exact ⟨by simp [entJ, bI, h1], rfl⟩
  · have hd : ∀ v : Int32, (∃ off, (v.toInt, off) ∈ [((1 : Int), (59 : Int)), (2, 70), (3, 106), (4, 106), (21, 91), (24, 81)]) → ¬ o = v := fun v ⟨off, hm⟩ z => h1 v.toInt off hm (by rw [z])
    have g1 := hd 1 ⟨59, by decide⟩
    have g2 := hd 2 ⟨70, by decide⟩
    have g3 := hd 3 ⟨106, by decide⟩
    have g4 := hd 4 ⟨106, by decide⟩
    have g21 := hd 21 ⟨91, by decide⟩
    have g24 := hd 24 ⟨81, by decide⟩
    refine ws_iconst (v := 1) X d_Judge_hasEntry_122 rfl ?_
    refine ws_zret X (rfl) d_Judge_hasEntry_123 ?_
    exact ⟨by simp [entJ, bI, g1, g2, g3, g4, g21, g24], rfl⟩

/-- a CALL's kinds, taken off the top one by one: whether they fit, and what stays -/
def jcGo (fk : Int32) : Nat → Int32 → Bool × Int32
  | 0, k => (true, k)
  | n + 1, k => if kItem k (kDepth k - 1) = kLocal fk (nI n) then jcGo fk n (kPop k) else (false, kPop k)
section L4
variable {p : Program} {l : Launch} {e0 : Env} {s : State} {m0 : MethodId} {args : Array Value} {below : List Frame} {meth : Method} {c0 : Code} {G : GG} {A : Nat → Prop} {Q : State → Prop}
theorem nI_dec (n : Nat) : nI n - 1 + Int32.ofInt (-1) = nI n - 1 - 1 := by
  rw [show Int32.ofInt (-1) = -1 from rfl, Int32.sub_eq_add_neg (nI n - 1)]
theorem nI_d0 (n : Nat) : nI n + Int32.ofInt (-1) = nI n - 1 := by
  rw [show Int32.ofInt (-1) = -1 from rfl, Int32.sub_eq_add_neg (nI n)]
theorem nI_m1 (n : Nat) : nI (n + 1) - 1 = nI n := nI_pred n
theorem l_jcF (X : CX p s m0 args meth c0 G A c_Judge_judgeCall y_Judge_judgeCall.cls 5 ((some .int))) {S : MS} {q1 q2 : Nat} : ∀ (n : Nat), n ≤ 3 → (∀ j : Int32, WS p l e0 (rmS 3 63) s m0 args below meth c0 G A 5 0 0 Q 68 [some (.inr (6, 0)), some (.inr (4, q1)), some (.inr (4, q2)), some (.inl (.int 0)), some (.inl (.int j))] [] (S)) → WS p l e0 (rmS 3 63) s m0 args below meth c0 G A 5 0 0 Q 34 [some (.inr (6, 0)), some (.inr (4, q1)), some (.inr (4, q2)), some (.inl (.int 0)), some (.inl (.int (nI n - 1)))] [] (S) := by
  intro n
  induction n with
  | zero =>
    intro hn K
    refine ws_iload (i := 4) X d_Judge_judgeCall_34 rfl ?_
    refine ws_if_lt X d_Judge_judgeCall_36 (fun h36 => ?_) (fun h36 => ?_)
    · exact K _
    · exact absurd (by decide) h36
  | succ n ih =>
    intro hn K
    have hh : ¬ nI (n + 1) - 1 < 0 := by rw [nI_m1]; exact nI_pos (by omega)
    refine ws_iload (i := 4) X d_Judge_judgeCall_34 rfl ?_
    refine ws_if_lt X d_Judge_judgeCall_36 (fun h36 => ?_) (fun h36 => ?_)
    · exact absurd h36 hh
    · refine ws_iload_n (i := 3) X d_Judge_judgeCall_39 rfl rfl ?_
      refine ws_if_eq X d_Judge_judgeCall_40 (fun h40 => ?_) (fun h40 => ?_)
      · refine ws_iconst (v := 0) X d_Judge_judgeCall_60 rfl ?_
        refine ws_istn_3 X rfl d_Judge_judgeCall_61 (by decide) ?_
        refine ws_iinc_4 X rfl d_Judge_judgeCall_62 rfl (by decide) ?_
        refine ws_goto X d_Judge_judgeCall_65 ?_
        rw [nI_dec, nI_m1]; exact ih (by omega) K
      · exact absurd h40 (by decide)
theorem l_jc (X : CX p s m0 args meth c0 G A c_Judge_judgeCall y_Judge_judgeCall.cls 5 ((some .int))) {S : MS} {q1 q2 : Nat} (hq2 : q2 < 5) : ∀ (n : Nat) (k : Int32) (S1 : MS), S1 = wI S 6 0 1 k → n ≤ 3 → (∀ j : Int32, WS p l e0 (rmS 3 63) s m0 args below meth c0 G A 5 0 0 Q 68 [some (.inr (6, 0)), some (.inr (4, q1)), some (.inr (4, q2)), some (.inl (.int (bI (jcGo (S.1 4 q2 8) n k).1))), some (.inl (.int j))] [] (wI S 6 0 1 (jcGo (S.1 4 q2 8) n k).2)) → WS p l e0 (rmS 3 63) s m0 args below meth c0 G A 5 0 0 Q 34 [some (.inr (6, 0)), some (.inr (4, q1)), some (.inr (4, q2)), some (.inl (.int 1)), some (.inl (.int (nI n - 1)))] [] (S1) := by
  intro n
  induction n with
  | zero =>
    intro k S1 hS hn K
    subst hS
    refine ws_iload (i := 4) X d_Judge_judgeCall_34 rfl ?_
    refine ws_if_lt X d_Judge_judgeCall_36 (fun h36 => ?_) (fun h36 => ?_)
    · exact K _
    · exact absurd (by decide) h36
  | succ n ih =>
    intro k S1 hS hn K
    subst hS
    have hh : ¬ nI (n + 1) - 1 < 0 := by rw [nI_m1]; exact nI_pos (by omega)
    have ek : (wI S 6 0 1 k).1 6 0 1 = k := by rw [wI_at]; rfl
    have e8 : (wI (wI S 6 0 1 k) 6 0 1 (kPop k)).1 4 q2 8 = S.1 4 q2 8 := by simp [wI]
    refine ws_iload (i := 4) X d_Judge_judgeCall_34 rfl ?_
    refine ws_if_lt X d_Judge_judgeCall_36 (fun h36 => ?_) (fun h36 => ?_)
    · exact absurd h36 hh
    · refine ws_iload_n (i := 3) X d_Judge_judgeCall_39 rfl rfl ?_
      refine ws_if_eq X d_Judge_judgeCall_40 (fun h40 => ?_) (fun h40 => ?_)
      · exact absurd h40 (by decide)
      · refine ws_aload_n (i := 0) X d_Judge_judgeCall_43 rfl rfl ?_
        refine ws_callV1 X (m_Judge_popped _) cv_Judge_popped ml_Judge_132 ob6 rfl rfl (Nat.le_of_ble_eq_true rfl) ⟨Nat.le_of_ble_eq_true rfl, Nat.le_of_ble_eq_true rfl⟩ ⟨Nat.zero_le _, Nat.zero_le _⟩ d_Judge_judgeCall_44 ?_
        rw [ek]
        refine ws_aload_n (i := 2) X d_Judge_judgeCall_47 rfl rfl ?_
        refine ws_iload (i := 4) X d_Judge_judgeCall_48 rfl ?_
        refine ws_callV1 X (m_Meth_takenKind _ _ (by assumption) _) cv_Meth_takenKind ml_Judge_136 (ob4 (by assumption)) rfl rfl (Nat.le_of_ble_eq_true rfl) ⟨Nat.le_of_ble_eq_true rfl, Nat.le_of_ble_eq_true rfl⟩ ⟨Nat.zero_le _, Nat.zero_le _⟩ d_Judge_judgeCall_50 ?_
        rw [e8, nI_m1]
        refine ws_icmp_ne X d_Judge_judgeCall_53 (fun h53 => ?_) (fun h53 => ?_)
        · simp only [jcGo, eq_false h53, if_false] at K
          refine ws_iconst (v := 0) X d_Judge_judgeCall_60 rfl ?_
          refine ws_istn_3 X rfl d_Judge_judgeCall_61 (by decide) ?_
          refine ws_iinc_4 X rfl d_Judge_judgeCall_62 rfl (by decide) ?_
          refine ws_goto X d_Judge_judgeCall_65 ?_
          rw [nI_d0]; first | exact ih _ _ (wI_wI ..) (by omega) K | (rw [wI_wI]; exact l_jcF X n (by omega) K)
        · simp only [jcGo, eq_true h53, if_true] at K
          refine ws_iconst (v := 1) X d_Judge_judgeCall_56 rfl ?_
          refine ws_goto X d_Judge_judgeCall_57 ?_
          refine ws_istn_3 X rfl d_Judge_judgeCall_61 (by decide) ?_
          refine ws_iinc_4 X rfl d_Judge_judgeCall_62 rfl (by decide) ?_
          refine ws_goto X d_Judge_judgeCall_65 ?_
          rw [nI_d0]; first | exact ih _ _ (wI_wI ..) (by omega) K | (rw [wI_wI]; exact l_jcF X n (by omega) K)
end L4
def jcallV (S : MS) (q1 q2 t : Nat) : Int32 := if S.1 4 q2 1 ≤ kDepth (S.1 6 0 1) then (if (jcGo (S.1 4 q2 8) t (S.1 6 0 1)).1 = true then pushV (wI S 6 0 1 (jcGo (S.1 4 q2 8) t (S.1 6 0 1)).2) q1 else 16) else 15
def jcallS (S : MS) (q1 q2 t : Nat) : MS := if S.1 4 q2 1 ≤ kDepth (S.1 6 0 1) then (if (jcGo (S.1 4 q2 8) t (S.1 6 0 1)).1 = true then pushS (wI S 6 0 1 (jcGo (S.1 4 q2 8) t (S.1 6 0 1)).2) q1 (S.1 4 q2 2) else wI S 6 0 1 (jcGo (S.1 4 q2 8) t (S.1 6 0 1)).2) else S
theorem m_Judge_judgeCall (S : MS) (q1 q2 t : Nat) (hq : q1 < 5) (hq2 : q2 < 5) (ht : S.1 4 q2 1 = nI t) (ht3 : t ≤ 3) : MetE y_Judge_judgeCall c_Judge_judgeCall 5 ((some .int)) 3 63 [.inr (6, 0), .inr (4, q1), .inr (4, q2)] S (some (.inl (.int (jcallV S q1 q2 t)))) (jcallS S q1 q2 t) := by
  refine MetS.of (lv0 := [some (.inr (6, 0)), some (.inr (4, q1)), some (.inr (4, q2)), none, none]) pn_Judge rfl (Nat.le_of_ble_eq_true rfl) (fun p0 l0 e0 s0 m0 args below meth c0 G X => ?_)
  refine ws_aload_n (i := 2) X d_Judge_judgeCall_0 rfl rfl ?_
  refine ws_ifnonnull_r X d_Judge_judgeCall_1 ?_
  refine ws_aload_n (i := 0) X d_Judge_judgeCall_7 rfl rfl ?_
  refine ws_getI X fl_Judge_24 ob6 d_Judge_judgeCall_8 ?_
  refine ws_callS1 X (m_Kinds_depth _ _) cs_Kinds_depth ml_Judge_126 rfl rfl (Nat.le_of_ble_eq_true rfl) ⟨Nat.le_of_ble_eq_true rfl, Nat.le_of_ble_eq_true rfl⟩ ⟨Nat.zero_le _, Nat.zero_le _⟩ d_Judge_judgeCall_11 ?_
  refine ws_aload_n (i := 2) X d_Judge_judgeCall_14 rfl rfl ?_
  refine ws_getI X fl_Judge_129 (ob4 (by assumption)) d_Judge_judgeCall_15 ?_
  refine ws_icmp_ge X d_Judge_judgeCall_18 (fun h18 => ?_) (fun h18 => ?_)
  · refine ws_iconst (v := 1) X d_Judge_judgeCall_24 rfl ?_
    refine ws_istn_3 X rfl d_Judge_judgeCall_25 (by decide) ?_
    refine ws_aload_n (i := 2) X d_Judge_judgeCall_26 rfl rfl ?_
    refine ws_getI X fl_Judge_129 (ob4 (by assumption)) d_Judge_judgeCall_27 ?_
    refine ws_iconst (v := 1) X d_Judge_judgeCall_30 rfl ?_
    refine ws_isub X d_Judge_judgeCall_31 ?_
    refine ws_ist_4 X rfl d_Judge_judgeCall_32 (by decide) ?_
    rw [ht]; refine l_jc X hq2 t _ _ (wI_self S 6 0 1).symm ht3 (fun j => ?_)
    have e2 : (wI S 6 0 1 (jcGo (S.1 4 q2 8) t (S.1 6 0 1)).2).1 4 q2 2 = S.1 4 q2 2 := by simp [wI]
    refine ws_iload_n (i := 3) X d_Judge_judgeCall_68 rfl rfl ?_
    refine ws_ifB_eq X d_Judge_judgeCall_69 (fun h69 => ?_) (fun h69 => ?_)
    · refine ws_bipush (v := 16) X d_Judge_judgeCall_84 rfl ?_
      refine ws_iret X d_Judge_judgeCall_86 ?_
      exact ⟨by simp [jcallV, eq_true h18, h69], by simp [jcallS, eq_true h18, h69]⟩
    · refine ws_aload_n (i := 0) X d_Judge_judgeCall_72 rfl rfl ?_
      refine ws_aload_n (i := 1) X d_Judge_judgeCall_73 rfl rfl ?_
      refine ws_aload_n (i := 2) X d_Judge_judgeCall_74 rfl rfl ?_
      refine ws_getI X fl_Judge_139 (ob4 (by assumption)) d_Judge_judgeCall_75 ?_
      rw [e2]
      refine ws_callV1 X (m_Judge_push _ _ (by assumption) _) cv_Judge_push ml_Judge_142 ob6 rfl rfl (Nat.le_of_ble_eq_true rfl) ⟨Nat.le_of_ble_eq_true rfl, Nat.le_of_ble_eq_true rfl⟩ ⟨Nat.zero_le _, Nat.zero_le _⟩ d_Judge_judgeCall_78 ?_
      refine ws_goto X d_Judge_judgeCall_81 ?_
      refine ws_iret X d_Judge_judgeCall_86 ?_
      exact ⟨by simp [jcallV, eq_true h18, h69], by simp [jcallS, eq_true h18, h69]⟩
  · refine ws_bipush (v := 15) X d_Judge_judgeCall_21 rfl ?_
    refine ws_iret X d_Judge_judgeCall_23 ?_
    exact ⟨by simp [jcallV, eq_false h18], by simp [jcallS, eq_false h18]⟩

/-- what an OP takes off, any kind or the one that is wanted: the kinds that stay, what came last, whether all fit -/
def jsGo (want : Int32) : Nat → Int32 → Int32 → Bool → Int32 × Int32 × Bool
  | 0, k, top, b => (k, top, b)
  | n + 1, k, _, b => jsGo want n (kPop k) (kItem k (kDepth k - 1)) (b && (decide (want = 0) || decide (want = kItem k (kDepth k - 1))))
section L5
variable {p : Program} {l : Launch} {e0 : Env} {s : State} {m0 : MethodId} {args : Array Value} {below : List Frame} {meth : Method} {c0 : Code} {G : GG} {A : Nat → Prop} {Q : State → Prop}
theorem l_js (X : CX p s m0 args meth c0 G A c_Judge_judgeStack y_Judge_judgeStack.cls 8 ((some .int))) {S : MS} {q c : Nat} {o f want : Int32} (hc : opTab 0 o = nI c) (hc2 : c ≤ 2) : ∀ (n i : Nat) (k top v : Int32) (b : Bool) (S1 : MS), i + n = c → v = bI b → S1 = wI S 6 0 1 k → (∀ j : Int32, WS p l e0 (rmS 3 63) s m0 args below meth c0 G A 8 0 0 Q 110 [some (.inr (6, 0)), some (.inr (4, q)), some (.inl (.int o)), some (.inl (.int f)), some (.inl (.int want)), some (.inl (.int (jsGo want n k top b).2.1)), some (.inl (.int (bI (jsGo want n k top b).2.2))), some (.inl (.int j))] [] (wI S 6 0 1 (jsGo want n k top b).1)) → WS p l e0 (rmS 3 63) s m0 args below meth c0 G A 8 0 0 Q 65 [some (.inr (6, 0)), some (.inr (4, q)), some (.inl (.int o)), some (.inl (.int f)), some (.inl (.int want)), some (.inl (.int top)), some (.inl (.int v)), some (.inl (.int (nI i)))] [] (S1) := by
  intro n
  induction n with
  | zero =>
    intro i k top v b S1 hi hv hS K
    subst hv; subst hS
    have hh : opTab 0 o ≤ nI i := by rw [hc, nI_leI (by omega) (by omega)]; omega
    refine ws_iload (i := 7) X d_Judge_judgeStack_65 rfl ?_
    refine ws_iload_n (i := 2) X d_Judge_judgeStack_67 rfl rfl ?_
    refine ws_callS1 X (m_Ops_taken _ _) cs_Ops_taken ml_Judge_146 rfl rfl (Nat.le_of_ble_eq_true rfl) ⟨Nat.le_of_ble_eq_true rfl, Nat.le_of_ble_eq_true rfl⟩ ⟨Nat.zero_le _, Nat.zero_le _⟩ d_Judge_judgeStack_68 ?_
    refine ws_icmp_ge X d_Judge_judgeStack_71 (fun h71 => ?_) (fun h71 => ?_)
    · exact K _
    · exact absurd hh h71
  | succ n ih =>
    intro i k top v b S1 hi hv hS K
    subst hv; subst hS
    have hh : ¬ opTab 0 o ≤ nI i := by rw [hc, nI_leI (by omega) (by omega)]; omega
    have ek : (wI S 6 0 1 k).1 6 0 1 = k := by rw [wI_at]; rfl
    refine ws_iload (i := 7) X d_Judge_judgeStack_65 rfl ?_
    refine ws_iload_n (i := 2) X d_Judge_judgeStack_67 rfl rfl ?_
    refine ws_callS1 X (m_Ops_taken _ _) cs_Ops_taken ml_Judge_146 rfl rfl (Nat.le_of_ble_eq_true rfl) ⟨Nat.le_of_ble_eq_true rfl, Nat.le_of_ble_eq_true rfl⟩ ⟨Nat.zero_le _, Nat.zero_le _⟩ d_Judge_judgeStack_68 ?_
    refine ws_icmp_ge X d_Judge_judgeStack_71 (fun h71 => ?_) (fun h71 => ?_)
    · exact absurd h71 hh
    · refine ws_aload_n (i := 0) X d_Judge_judgeStack_74 rfl rfl ?_
      refine ws_callV1 X (m_Judge_popped _) cv_Judge_popped ml_Judge_132 ob6 rfl rfl (Nat.le_of_ble_eq_true rfl) ⟨Nat.le_of_ble_eq_true rfl, Nat.le_of_ble_eq_true rfl⟩ ⟨Nat.zero_le _, Nat.zero_le _⟩ d_Judge_judgeStack_75 ?_
      rw [ek]
      refine ws_ist_5 X rfl d_Judge_judgeStack_78 (by decide) ?_
      refine ws_iload (i := 6) X d_Judge_judgeStack_80 rfl ?_
      refine ws_ifB_eq X d_Judge_judgeStack_82 (fun h82 => ?_) (fun h82 => ?_)
      · refine ws_iconst (v := 0) X d_Judge_judgeStack_101 rfl ?_
        refine ws_ist_6 X rfl d_Judge_judgeStack_102 (by decide) ?_
        refine ws_iinc_7 X rfl d_Judge_judgeStack_104 rfl (by decide) ?_
        refine ws_goto X d_Judge_judgeStack_107 ?_
        rw [nI_inc]; exact ih (i + 1) _ _ _ _ _ (by omega) (by simp [bI, eq_false h71, h82]) (wI_wI ..) K
      · refine ws_iload (i := 4) X d_Judge_judgeStack_85 rfl ?_
        refine ws_if_eq X d_Judge_judgeStack_87 (fun h87 => ?_) (fun h87 => ?_)
        · refine ws_iconst (v := 1) X d_Judge_judgeStack_97 rfl ?_
          refine ws_goto X d_Judge_judgeStack_98 ?_
          refine ws_ist_6 X rfl d_Judge_judgeStack_102 (by decide) ?_
          refine ws_iinc_7 X rfl d_Judge_judgeStack_104 rfl (by decide) ?_
          refine ws_goto X d_Judge_judgeStack_107 ?_
          rw [nI_inc]; exact ih (i + 1) _ _ _ _ _ (by omega) (by simp [bI, eq_false h71, h82, eq_true h87]) (wI_wI ..) K
        · refine ws_iload (i := 4) X d_Judge_judgeStack_90 rfl ?_
          refine ws_iload (i := 5) X d_Judge_judgeStack_92 rfl ?_
          refine ws_icmp_ne X d_Judge_judgeStack_94 (fun h94 => ?_) (fun h94 => ?_)
          · refine ws_iconst (v := 0) X d_Judge_judgeStack_101 rfl ?_
            refine ws_ist_6 X rfl d_Judge_judgeStack_102 (by decide) ?_
            refine ws_iinc_7 X rfl d_Judge_judgeStack_104 rfl (by decide) ?_
            refine ws_goto X d_Judge_judgeStack_107 ?_
            rw [nI_inc]; exact ih (i + 1) _ _ _ _ _ (by omega) (by simp [bI, eq_false h71, h82, eq_false h87, eq_false h94]) (wI_wI ..) K
          · refine ws_iconst (v := 1) X d_Judge_judgeStack_97 rfl ?_
            refine ws_goto X d_Judge_judgeStack_98 ?_
            refine ws_ist_6 X rfl d_Judge_judgeStack_102 (by decide) ?_
            refine ws_iinc_7 X rfl d_Judge_judgeStack_104 rfl (by decide) ?_
            refine ws_goto X d_Judge_judgeStack_107 ?_
            rw [nI_inc]; exact ih (i + 1) _ _ _ _ _ (by omega) (by simp [bI, eq_false h71, h82, eq_false h87, eq_true h94]) (wI_wI ..) K
end L5

