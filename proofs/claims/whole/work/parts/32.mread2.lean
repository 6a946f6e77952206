/-! the model reads: names -/
def swGo (S : MS) (e f : Nat) : Nat → Nat → Bool → Bool
  | 0, _, b => b
  | n + 1, k, b => if b = true then swGo S e f n (k + 1) (decide (S.1 29 0 (8 * e + k) = S.1 29 0 (8 * f + k))) else b
theorem swGo_f (S : MS) (e f : Nat) : ∀ (n k : Nat), swGo S e f n k false = false
  | 0, _ => rfl
  | _ + 1, _ => rfl
def swV (S : MS) (e f : Nat) : Bool := swGo S e f (S.1 28 0 e).toNatClampNeg 0 (decide (S.1 28 0 e = S.1 28 0 f))
section L34
variable {p : Program} {l : Launch} {e0 : Env} {s : State} {m0 : MethodId} {args : Array Value} {below : List Frame} {meth : Method} {c0 : Code} {G : GG} {A : Nat → Prop} {Q : State → Prop}
theorem l_same (X : CX p s m0 args meth c0 G A c_M_isSameWord y_M_isSameWord.cls 5 ((some .boolean))) {S : MS} {e f w : Nat} (he : e < 16) (hf : f < 16) (hw : w ≤ 8) (hS : S.1 28 0 e = nI w) : ∀ (n k : Nat) (b : Bool) (x3 : Int32), x3 = bI b → k + n = w → (∀ j : Int32, WS p l e0 (rmS 0 0) s m0 args below meth c0 G A 5 0 0 Q 78 [some (.inr (8, 0)), some (.inl (.int (nI e))), some (.inl (.int (nI f))), some (.inl (.int (bI (swGo S e f n k b)))), some (.inl (.int j))] [] (S)) → WS p l e0 (rmS 0 0) s m0 args below meth c0 G A 5 0 0 Q 24 [some (.inr (8, 0)), some (.inl (.int (nI e))), some (.inl (.int (nI f))), some (.inl (.int x3)), some (.inl (.int (nI k)))] [] (S) := by
  intro n
  have hc := nI_c (i := e) (by omega)
  have hin16 : vp_in (nI e) 16 := vp_in_nI he (by omega)
  induction n with
  | zero =>
    intro k b x3 hx hi' K
    have hh : S.1 28 0 e ≤ nI k := by rw [hS, nI_leI (by omega) (by omega)]; omega
    rw [hx]
    refine ws_iload (i := 4) X d_M_isSameWord_24 rfl ?_
    refine ws_aload_n (i := 0) X d_M_isSameWord_26 rfl rfl ?_
    refine ws_getR X fl_M_24 ob8 d_M_isSameWord_27 ?_
    refine ws_iload_n (i := 1) X d_M_isSameWord_30 rfl rfl ?_
    refine ws_iald X ak28 ob28 (by assumption) d_M_isSameWord_31 ?_
    rw [hc]
    refine ws_icmp_ge X d_M_isSameWord_32 (fun h32 => ?_) (fun h32 => ?_)
    · exact K _
    · exact absurd hh h32
  | succ n ih =>
    intro k b x3 hx hi' K
    have hh : ¬ S.1 28 0 e ≤ nI k := by rw [hS, nI_leI (by omega) (by omega)]; omega
    have hin : vp_in (nI (8 * e + k)) 128 := vp_in_nI (by omega) (by omega)
    have hin2 : vp_in (nI (8 * f + k)) 128 := vp_in_nI (by omega) (by omega)
    have hc8 := nI_c (i := 8 * e + k) (by omega)
    have hc9 := nI_c (i := 8 * f + k) (by omega)
    cases b with
    | false =>
      rw [swGo_f] at K
      rw [show x3 = 0 from hx]
      refine ws_iload (i := 4) X d_M_isSameWord_24 rfl ?_
      refine ws_aload_n (i := 0) X d_M_isSameWord_26 rfl rfl ?_
      refine ws_getR X fl_M_24 ob8 d_M_isSameWord_27 ?_
      refine ws_iload_n (i := 1) X d_M_isSameWord_30 rfl rfl ?_
      refine ws_iald X ak28 ob28 (by assumption) d_M_isSameWord_31 ?_
      rw [hc]
      refine ws_icmp_ge X d_M_isSameWord_32 (fun h32 => ?_) (fun h32 => ?_)
      · exact absurd h32 hh
      · refine ws_iload_n (i := 3) X d_M_isSameWord_35 rfl rfl ?_
        refine ws_if_eq X d_M_isSameWord_36 (fun h36 => ?_) (fun h36 => ?_)
        · exact K _
        · exact absurd h36 (by decide)
    | true =>
      rw [show x3 = 1 from hx]
      rw [swGo, if_pos rfl] at K
      refine ws_iload (i := 4) X d_M_isSameWord_24 rfl ?_
      refine ws_aload_n (i := 0) X d_M_isSameWord_26 rfl rfl ?_
      refine ws_getR X fl_M_24 ob8 d_M_isSameWord_27 ?_
      refine ws_iload_n (i := 1) X d_M_isSameWord_30 rfl rfl ?_
      refine ws_iald X ak28 ob28 (by assumption) d_M_isSameWord_31 ?_
      rw [hc]
      refine ws_icmp_ge X d_M_isSameWord_32 (fun h32 => ?_) (fun h32 => ?_)
      · exact absurd h32 hh
      · refine ws_iload_n (i := 3) X d_M_isSameWord_35 rfl rfl ?_
        refine ws_if_eq X d_M_isSameWord_36 (fun h36 => ?_) (fun h36 => ?_)
        · exact absurd h36 (by decide)
        · refine ws_aload_n (i := 0) X d_M_isSameWord_39 rfl rfl ?_
          refine ws_getR X fl_M_27 ob8 d_M_isSameWord_40 ?_
          refine ws_bipush (v := 8) X d_M_isSameWord_43 rfl ?_
          refine ws_iload_n (i := 1) X d_M_isSameWord_45 rfl rfl ?_
          refine ws_imul X d_M_isSameWord_46 ?_
          refine ws_iload (i := 4) X d_M_isSameWord_47 rfl ?_
          refine ws_iadd X d_M_isSameWord_49 ?_
          rw [ix8 he (by omega)]
          refine ws_iald X ak29 ob29 (by assumption) d_M_isSameWord_50 ?_
          refine ws_aload_n (i := 0) X d_M_isSameWord_51 rfl rfl ?_
          refine ws_getR X fl_M_27 ob8 d_M_isSameWord_52 ?_
          refine ws_bipush (v := 8) X d_M_isSameWord_55 rfl ?_
          refine ws_iload_n (i := 2) X d_M_isSameWord_57 rfl rfl ?_
          refine ws_imul X d_M_isSameWord_58 ?_
          refine ws_iload (i := 4) X d_M_isSameWord_59 rfl ?_
          refine ws_iadd X d_M_isSameWord_61 ?_
          rw [ix8 hf (by omega)]
          refine ws_iald X ak29 ob29 (by assumption) d_M_isSameWord_62 ?_
          rw [hc8, hc9]
          refine ws_icmp_ne X d_M_isSameWord_63 (fun h63 => ?_) (fun h63 => ?_)
          · refine ws_iconst (v := 0) X d_M_isSameWord_70 rfl ?_
            refine ws_istn_3 X rfl d_M_isSameWord_71 (by decide) ?_
            refine ws_iinc_4 X rfl d_M_isSameWord_72 rfl (by decide) ?_
            refine ws_goto X d_M_isSameWord_75 ?_
            rw [nI_inc]; exact ih (k + 1) _ _ (by simp [bI, eq_false h32, eq_false h36, eq_false h63]) (by omega) K
          · refine ws_iconst (v := 1) X d_M_isSameWord_66 rfl ?_
            refine ws_goto X d_M_isSameWord_67 ?_
            refine ws_istn_3 X rfl d_M_isSameWord_71 (by decide) ?_
            refine ws_iinc_4 X rfl d_M_isSameWord_72 rfl (by decide) ?_
            refine ws_goto X d_M_isSameWord_75 ?_
            rw [nI_inc]; exact ih (k + 1) _ _ (by simp [bI, eq_false h32, eq_false h36, eq_true h63]) (by omega) K
end L34
theorem m_M_isSameWord (S : MS) (e f w : Nat) (he : e < 16) (hf : f < 16) (hw : w ≤ 8) (hS : S.1 28 0 e = nI w) : MetE y_M_isSameWord c_M_isSameWord 5 ((some .boolean)) 0 0 [.inr (8, 0), .inl (.int (nI e)), .inl (.int (nI f))] S (some (.inl (.int (bI (swV S e f))))) (S) := by
  refine MetS.of (lv0 := [some (.inr (8, 0)), some (.inl (.int (nI e))), some (.inl (.int (nI f))), none, none]) pn_M rfl (Nat.le_of_ble_eq_true rfl) (fun p0 l0 e0 s0 m0 args below meth c0 G X => ?_)
  have hc := nI_c (i := e) (by omega)
  have hc2 := nI_c (i := f) (by omega)
  have hin16 : vp_in (nI e) 16 := vp_in_nI he (by omega)
  have hin17 : vp_in (nI f) 16 := vp_in_nI hf (by omega)
  refine ws_aload_n (i := 0) X d_M_isSameWord_0 rfl rfl ?_
  refine ws_getR X fl_M_24 ob8 d_M_isSameWord_1 ?_
  refine ws_iload_n (i := 1) X d_M_isSameWord_4 rfl rfl ?_
  refine ws_iald X ak28 ob28 (by assumption) d_M_isSameWord_5 ?_
  refine ws_aload_n (i := 0) X d_M_isSameWord_6 rfl rfl ?_
  refine ws_getR X fl_M_24 ob8 d_M_isSameWord_7 ?_
  refine ws_iload_n (i := 2) X d_M_isSameWord_10 rfl rfl ?_
  refine ws_iald X ak28 ob28 (by assumption) d_M_isSameWord_11 ?_
  rw [hc, hc2]
  refine ws_icmp_ne X d_M_isSameWord_12 (fun h12 => ?_) (fun h12 => ?_)
  · refine ws_iconst (v := 0) X d_M_isSameWord_19 rfl ?_
    refine ws_istn_3 X rfl d_M_isSameWord_20 (by decide) ?_
    refine ws_iconst (v := 0) X d_M_isSameWord_21 rfl ?_
    refine ws_ist_4 X rfl d_M_isSameWord_22 (by decide) ?_
    refine l_same X he hf hw hS w 0 (decide (S.1 28 0 e = S.1 28 0 f)) _ (by simp [bI, eq_false h12]) (by omega) (fun j => ?_)
    rw [show swGo S e f w 0 (decide (S.1 28 0 e = S.1 28 0 f)) = swV S e f from (by rw [swV, hS, nI_c (by omega)])]
    refine ws_iload_n (i := 3) X d_M_isSameWord_78 rfl rfl ?_
    refine ws_zret X (nbI _) d_M_isSameWord_79 ?_
    exact ⟨rfl, rfl⟩
  · refine ws_iconst (v := 1) X d_M_isSameWord_15 rfl ?_
    refine ws_goto X d_M_isSameWord_16 ?_
    refine ws_istn_3 X rfl d_M_isSameWord_20 (by decide) ?_
    refine ws_iconst (v := 0) X d_M_isSameWord_21 rfl ?_
    refine ws_ist_4 X rfl d_M_isSameWord_22 (by decide) ?_
    refine l_same X he hf hw hS w 0 (decide (S.1 28 0 e = S.1 28 0 f)) _ (by simp [bI, eq_true h12]) (by omega) (fun j => ?_)
    rw [show swGo S e f w 0 (decide (S.1 28 0 e = S.1 28 0 f)) = swV S e f from (by rw [swV, hS, nI_c (by omega)])]
    refine ws_iload_n (i := 3) X d_M_isSameWord_78 rfl rfl ?_
    refine ws_zret X (nbI _) d_M_isSameWord_79 ?_
    exact ⟨rfl, rfl⟩

def rnGo (S : MS) (e : Nat) : Nat → Nat → Bool → Bool
  | 0, _, b => b
  | n + 1, k, b => if b = true then rnGo S e n (k + 1) (!swV S (S.1 30 0 k).toNatClampNeg e) else b
theorem rnGo_f (S : MS) (e : Nat) : ∀ (n k : Nat), rnGo S e n k false = false
  | 0, _ => rfl
  | _ + 1, _ => rfl
/-- the words are sound -/
def MW (S : MS) : Prop := ∀ e, e < 16 → ∃ w, w ≤ 8 ∧ S.1 28 0 e = nI w
/-- the names of the first methods are entries -/
def MN (S : MS) (m : Nat) : Prop := ∀ k, k < m → ∃ a, a < 16 ∧ S.1 30 0 k = nI a
section L35
variable {p : Program} {l : Launch} {e0 : Env} {s : State} {m0 : MethodId} {args : Array Value} {below : List Frame} {meth : Method} {c0 : Code} {G : GG} {A : Nat → Prop} {Q : State → Prop}
theorem l_rn (X : CX p s m0 args meth c0 G A c_M_readName y_M_readName.cls 5 (none)) {S : MS} {e m : Nat} (hm : m ≤ 5) (hW : MW S) (hN : MN S m) : ∀ (n k : Nat) (b : Bool) (x3 : Int32), (b = true → e < 16) → x3 = bI b → k + n = m → (∀ j : Int32, WS p l e0 (rmS 2 42) s m0 args below meth c0 G A 5 0 0 Q 76 [some (.inr (8, 0)), some (.inl (.int (nI m))), some (.inl (.int (nI e))), some (.inl (.int (bI (rnGo S e n k b)))), some (.inl (.int j))] [] (S)) → WS p l e0 (rmS 2 42) s m0 args below meth c0 G A 5 0 0 Q 39 [some (.inr (8, 0)), some (.inl (.int (nI m))), some (.inl (.int (nI e))), some (.inl (.int x3)), some (.inl (.int (nI k)))] [] (S) := by
  intro n
  induction n with
  | zero =>
    intro k b x3 hb hx hi' K
    have hh : nI m ≤ nI k := by rw [nI_leI (by omega) (by omega)]; omega
    rw [hx]
    refine ws_iload (i := 4) X d_M_readName_39 rfl ?_
    refine ws_iload_n (i := 1) X d_M_readName_41 rfl rfl ?_
    refine ws_icmp_ge X d_M_readName_42 (fun h42 => ?_) (fun h42 => ?_)
    · exact K _
    · exact absurd hh h42
  | succ n ih =>
    intro k b x3 hb hx hi' K
    have hh : ¬ nI m ≤ nI k := by rw [nI_leI (by omega) (by omega)]; omega
    cases b with
    | false =>
      rw [rnGo_f] at K
      rw [show x3 = 0 from hx]
      refine ws_iload (i := 4) X d_M_readName_39 rfl ?_
      refine ws_iload_n (i := 1) X d_M_readName_41 rfl rfl ?_
      refine ws_icmp_ge X d_M_readName_42 (fun h42 => ?_) (fun h42 => ?_)
      · exact absurd h42 hh
      · refine ws_iload_n (i := 3) X d_M_readName_45 rfl rfl ?_
        refine ws_if_eq X d_M_readName_46 (fun h46 => ?_) (fun h46 => ?_)
        · exact K _
        · exact absurd h46 (by decide)
    | true =>
      have he := hb rfl
      rw [show x3 = 1 from hx]
      rw [rnGo, if_pos rfl] at K
      have hc := nI_c (i := k) (by omega)
      have hin : vp_in (nI k) 5 := vp_in_nI (by omega) (by omega)
      obtain ⟨a, ha, hA⟩ := hN k (by omega)
      obtain ⟨w, hw, hwS⟩ := hW a ha
      rw [hA, nI_c (i := a) (by omega)] at K
      refine ws_iload (i := 4) X d_M_readName_39 rfl ?_
      refine ws_iload_n (i := 1) X d_M_readName_41 rfl rfl ?_
      refine ws_icmp_ge X d_M_readName_42 (fun h42 => ?_) (fun h42 => ?_)
      · exact absurd h42 hh
      · refine ws_iload_n (i := 3) X d_M_readName_45 rfl rfl ?_
        refine ws_if_eq X d_M_readName_46 (fun h46 => ?_) (fun h46 => ?_)
        · exact absurd h46 (by decide)
        · refine ws_aload_n (i := 0) X d_M_readName_49 rfl rfl ?_
          refine ws_aload_n (i := 0) X d_M_readName_50 rfl rfl ?_
          refine ws_getR X fl_M_30 ob8 d_M_readName_51 ?_
          refine ws_iload (i := 4) X d_M_readName_54 rfl ?_
          refine ws_iald X ak30 ob30 (by assumption) d_M_readName_56 ?_
          rw [hc, hA]
          refine ws_iload_n (i := 2) X d_M_readName_57 rfl rfl ?_
          refine ws_callV1 X (m_M_isSameWord S a e w ha he hw hwS) cv_M_isSameWord ml_M_145 ob8 rfl rfl (Nat.le_of_ble_eq_true rfl) ⟨Nat.le_of_ble_eq_true rfl, Nat.le_of_ble_eq_true rfl⟩ ⟨Nat.zero_le _, Nat.zero_le _⟩ d_M_readName_58 ?_
          refine ws_ifB_ne X d_M_readName_61 (fun h61 => ?_) (fun h61 => ?_)
          · refine ws_iconst (v := 0) X d_M_readName_68 rfl ?_
            refine ws_istn_3 X rfl d_M_readName_69 (by decide) ?_
            refine ws_iinc_4 X rfl d_M_readName_70 rfl (by decide) ?_
            refine ws_goto X d_M_readName_73 ?_
            rw [nI_inc]; exact ih (k + 1) _ _ (fun _ => he) (by simp [bI, eq_false h42, eq_false h46, h61]) (by omega) K
          · refine ws_iconst (v := 1) X d_M_readName_64 rfl ?_
            refine ws_goto X d_M_readName_65 ?_
            refine ws_istn_3 X rfl d_M_readName_69 (by decide) ?_
            refine ws_iinc_4 X rfl d_M_readName_70 rfl (by decide) ?_
            refine ws_goto X d_M_readName_73 ?_
            rw [nI_inc]; exact ih (k + 1) _ _ (fun _ => he) (by simp [bI, eq_false h42, eq_false h46, h61]) (by omega) K
end L35
def rn0 (T : MS) (e : Nat) : Bool := decide (T.1 8 0 28 = 0) && decide (¬ T.1 8 0 4 ≤ nI e) && decide (T.1 26 0 e = 3)
def rnGood (T : MS) (e m : Nat) : Bool := rnGo T e m 0 (rn0 T e)
def rn1 (S : MS) (m : Nat) : MS := if rnGood (mTakeS S) (mTakeV S).toNatClampNeg m = true then mTakeS S else mFaultS (mTakeS S) 6 ((mTakeS S).1 8 0 31 - 1)
def rnS (S : MS) (m : Nat) : MS := wI (rn1 S m) 30 0 m (mTakeV S)
theorem m_M_readName (S : MS) (m en : Nat) (hm : m < 5) (hP : MP S) (hW : MW S) (hN : MN S m) (hE : S.1 8 0 4 = nI en) (hen : en ≤ 16) : MetE y_M_readName c_M_readName 5 (none) 2 42 [.inr (8, 0), .inl (.int (nI m))] S (none) (rnS S m) := by
  refine MetS.of (lv0 := [some (.inr (8, 0)), some (.inl (.int (nI m))), none, none, none]) pn_M rfl (Nat.le_of_ble_eq_true rfl) (fun p0 l0 e0 s0 m0 args below meth c0 G X => ?_)
  obtain ⟨e, he, hV⟩ := mTakeV_rng hP
  have hc := nI_c (i := e) (by omega)
  have hcm := nI_c (i := m) (by omega)
  have hinm : vp_in (nI m) 5 := vp_in_nI hm (by omega)
  have hE' : (mTakeS S).1 8 0 4 = nI en := by rw [mTakeS_o _ _ _ _ (by decide) (by decide) (by decide)]; exact hE
  have hW' : MW (mTakeS S) := fun a ha => by rw [mTakeS_o _ _ _ _ (fun z => absurd z.1 (by decide)) (fun z => absurd z.1 (by decide)) (fun z => absurd z.1 (by decide))]; exact hW a ha
  have hN' : MN (mTakeS S) m := fun a ha => by rw [mTakeS_o _ _ _ _ (fun z => absurd z.1 (by decide)) (fun z => absurd z.1 (by decide)) (fun z => absurd z.1 (by decide))]; exact hN a ha
  have hin0 : ∀ h : ¬ (mTakeS S).1 8 0 4 ≤ nI e, e < 16 := fun h => by rw [hE', nI_leI (by omega) (by omega)] at h; omega
  have hin : ∀ h : ¬ (mTakeS S).1 8 0 4 ≤ nI e, vp_in (nI e) 16 := fun h => vp_in_nI (hin0 h) (by omega)
  refine ws_aload_n (i := 0) X d_M_readName_0 rfl rfl ?_
  refine ws_callV1 X (m_M_take _ (by assumption)) cv_M_take ml_M_131 ob8 rfl rfl (Nat.le_of_ble_eq_true rfl) ⟨Nat.le_of_ble_eq_true rfl, Nat.le_of_ble_eq_true rfl⟩ ⟨Nat.zero_le _, Nat.zero_le _⟩ d_M_readName_1 ?_
  rw [hV]
  refine ws_istn_2 X rfl d_M_readName_4 (by decide) ?_
  refine ws_aload_n (i := 0) X d_M_readName_5 rfl rfl ?_
  refine ws_getI X fl_M_118 ob8 d_M_readName_6 ?_
  refine ws_if_ne X d_M_readName_9 (fun h9 => ?_) (fun h9 => ?_)
  · refine ws_iconst (v := 0) X d_M_readName_34 rfl ?_
    refine ws_istn_3 X rfl d_M_readName_35 (by decide) ?_
    refine ws_iconst (v := 0) X d_M_readName_36 rfl ?_
    refine ws_ist_4 X rfl d_M_readName_37 (by decide) ?_
    refine l_rn X (e := e) (by omega) hW' hN' m 0 (rn0 (mTakeS S) e) _ (fun h => hin0 (by simp only [rn0, Bool.and_eq_true, decide_eq_true_eq] at h; exact h.1.2)) (by simp [bI, rn0, eq_false h9]) (by omega) (fun j => ?_)
    have eG : rnGood (mTakeS S) (mTakeV S).toNatClampNeg m = rnGo (mTakeS S) e m 0 (rn0 (mTakeS S) e) := by rw [rnGood, hV, hc]
    refine ws_aload_n (i := 0) X d_M_readName_76 rfl rfl ?_
    refine ws_getI X fl_M_118 ob8 d_M_readName_77 ?_
    refine ws_if_ne X d_M_readName_80 (fun h80 => ?_) (fun h80 => ?_)
    · refine ws_aload_n (i := 0) X d_M_readName_99 rfl rfl ?_
      refine ws_getR X fl_M_30 ob8 d_M_readName_100 ?_
      refine ws_iload_n (i := 1) X d_M_readName_103 rfl rfl ?_
      refine ws_iload_n (i := 2) X d_M_readName_104 rfl rfl ?_
      refine ws_iast X ak30 ob30 (by assumption) d_M_readName_105 ?_
      rw [hcm]
      refine ws_vret X d_M_readName_106 ?_
      exact ⟨rfl, by rw [rnS, rn1, eG, hV]; simp [mFaultS, eq_false h80]⟩
    · refine ws_iload_n (i := 3) X d_M_readName_83 rfl rfl ?_
      refine ws_ifB_ne X d_M_readName_84 (fun h84 => ?_) (fun h84 => ?_)
      · refine ws_aload_n (i := 0) X d_M_readName_99 rfl rfl ?_
        refine ws_getR X fl_M_30 ob8 d_M_readName_100 ?_
        refine ws_iload_n (i := 1) X d_M_readName_103 rfl rfl ?_
        refine ws_iload_n (i := 2) X d_M_readName_104 rfl rfl ?_
        refine ws_iast X ak30 ob30 (by assumption) d_M_readName_105 ?_
        rw [hcm]
        refine ws_vret X d_M_readName_106 ?_
        exact ⟨rfl, by rw [rnS, rn1, eG, hV]; simp [mFaultS, eq_true h80, h84]⟩
      · refine ws_aload_n (i := 0) X d_M_readName_87 rfl rfl ?_
        refine ws_bipush (v := 6) X d_M_readName_88 rfl ?_
        refine ws_aload_n (i := 0) X d_M_readName_90 rfl rfl ?_
        refine ws_getI X fl_M_124 ob8 d_M_readName_91 ?_
        refine ws_iconst (v := 1) X d_M_readName_94 rfl ?_
        refine ws_isub X d_M_readName_95 ?_
        refine ws_callV0 X (m_M_faults _ _ _) cv_M_faults ml_M_127 ob8 rfl rfl (Nat.le_of_ble_eq_true rfl) ⟨Nat.le_of_ble_eq_true rfl, Nat.le_of_ble_eq_true rfl⟩ ⟨Nat.zero_le _, Nat.zero_le _⟩ d_M_readName_96 ?_
        refine ws_aload_n (i := 0) X d_M_readName_99 rfl rfl ?_
        refine ws_getR X fl_M_30 ob8 d_M_readName_100 ?_
        refine ws_iload_n (i := 1) X d_M_readName_103 rfl rfl ?_
        refine ws_iload_n (i := 2) X d_M_readName_104 rfl rfl ?_
        refine ws_iast X ak30 ob30 (by assumption) d_M_readName_105 ?_
        rw [hcm]
        refine ws_vret X d_M_readName_106 ?_
        exact ⟨rfl, by rw [rnS, rn1, eG, hV]; simp [mFaultS, eq_true h80, h84]⟩
  · refine ws_iload_n (i := 2) X d_M_readName_12 rfl rfl ?_
    refine ws_aload_n (i := 0) X d_M_readName_13 rfl rfl ?_
    refine ws_getI X fl_M_138 ob8 d_M_readName_14 ?_
    refine ws_icmp_ge X d_M_readName_17 (fun h17 => ?_) (fun h17 => ?_)
    · refine ws_iconst (v := 0) X d_M_readName_34 rfl ?_
      refine ws_istn_3 X rfl d_M_readName_35 (by decide) ?_
      refine ws_iconst (v := 0) X d_M_readName_36 rfl ?_
      refine ws_ist_4 X rfl d_M_readName_37 (by decide) ?_
      refine l_rn X (e := e) (by omega) hW' hN' m 0 (rn0 (mTakeS S) e) _ (fun h => hin0 (by simp only [rn0, Bool.and_eq_true, decide_eq_true_eq] at h; exact h.1.2)) (by simp [bI, rn0, eq_true h9, eq_true h17]) (by omega) (fun j => ?_)
      have eG : rnGood (mTakeS S) (mTakeV S).toNatClampNeg m = rnGo (mTakeS S) e m 0 (rn0 (mTakeS S) e) := by rw [rnGood, hV, hc]
      refine ws_aload_n (i := 0) X d_M_readName_76 rfl rfl ?_
      refine ws_getI X fl_M_118 ob8 d_M_readName_77 ?_
      refine ws_if_ne X d_M_readName_80 (fun h80 => ?_) (fun h80 => ?_)
      · refine ws_aload_n (i := 0) X d_M_readName_99 rfl rfl ?_
        refine ws_getR X fl_M_30 ob8 d_M_readName_100 ?_
        refine ws_iload_n (i := 1) X d_M_readName_103 rfl rfl ?_
        refine ws_iload_n (i := 2) X d_M_readName_104 rfl rfl ?_
        refine ws_iast X ak30 ob30 (by assumption) d_M_readName_105 ?_
        rw [hcm]
        refine ws_vret X d_M_readName_106 ?_
        exact ⟨rfl, by rw [rnS, rn1, eG, hV]; simp [mFaultS, eq_false h80]⟩
      · refine ws_iload_n (i := 3) X d_M_readName_83 rfl rfl ?_
        refine ws_ifB_ne X d_M_readName_84 (fun h84 => ?_) (fun h84 => ?_)
        · refine ws_aload_n (i := 0) X d_M_readName_99 rfl rfl ?_
          refine ws_getR X fl_M_30 ob8 d_M_readName_100 ?_
          refine ws_iload_n (i := 1) X d_M_readName_103 rfl rfl ?_
          refine ws_iload_n (i := 2) X d_M_readName_104 rfl rfl ?_
          refine ws_iast X ak30 ob30 (by assumption) d_M_readName_105 ?_
          rw [hcm]
          refine ws_vret X d_M_readName_106 ?_
          exact ⟨rfl, by rw [rnS, rn1, eG, hV]; simp [mFaultS, eq_true h80, h84]⟩
        · refine ws_aload_n (i := 0) X d_M_readName_87 rfl rfl ?_
          refine ws_bipush (v := 6) X d_M_readName_88 rfl ?_
          refine ws_aload_n (i := 0) X d_M_readName_90 rfl rfl ?_
          refine ws_getI X fl_M_124 ob8 d_M_readName_91 ?_
          refine ws_iconst (v := 1) X d_M_readName_94 rfl ?_
          refine ws_isub X d_M_readName_95 ?_
          refine ws_callV0 X (m_M_faults _ _ _) cv_M_faults ml_M_127 ob8 rfl rfl (Nat.le_of_ble_eq_true rfl) ⟨Nat.le_of_ble_eq_true rfl, Nat.le_of_ble_eq_true rfl⟩ ⟨Nat.zero_le _, Nat.zero_le _⟩ d_M_readName_96 ?_
          refine ws_aload_n (i := 0) X d_M_readName_99 rfl rfl ?_
          refine ws_getR X fl_M_30 ob8 d_M_readName_100 ?_
          refine ws_iload_n (i := 1) X d_M_readName_103 rfl rfl ?_
          refine ws_iload_n (i := 2) X d_M_readName_104 rfl rfl ?_
          refine ws_iast X ak30 ob30 (by assumption) d_M_readName_105 ?_
          rw [hcm]
          refine ws_vret X d_M_readName_106 ?_
          exact ⟨rfl, by rw [rnS, rn1, eG, hV]; simp [mFaultS, eq_true h80, h84]⟩
    · refine ws_aload_n (i := 0) X d_M_readName_20 rfl rfl ?_
      refine ws_getR X fl_M_17 ob8 d_M_readName_21 ?_
      refine ws_iload_n (i := 2) X d_M_readName_24 rfl rfl ?_
      refine ws_iald X ak26 ob26 (hin (by assumption)) d_M_readName_25 ?_
      rw [hc]
      refine ws_iconst (v := 3) X d_M_readName_26 rfl ?_
      refine ws_icmp_ne X d_M_readName_27 (fun h27 => ?_) (fun h27 => ?_)
      · refine ws_iconst (v := 0) X d_M_readName_34 rfl ?_
        refine ws_istn_3 X rfl d_M_readName_35 (by decide) ?_
        refine ws_iconst (v := 0) X d_M_readName_36 rfl ?_
        refine ws_ist_4 X rfl d_M_readName_37 (by decide) ?_
        refine l_rn X (e := e) (by omega) hW' hN' m 0 (rn0 (mTakeS S) e) _ (fun h => hin0 (by simp only [rn0, Bool.and_eq_true, decide_eq_true_eq] at h; exact h.1.2)) (by simp [bI, rn0, eq_true h9, eq_false h17, eq_false h27]) (by omega) (fun j => ?_)
        have eG : rnGood (mTakeS S) (mTakeV S).toNatClampNeg m = rnGo (mTakeS S) e m 0 (rn0 (mTakeS S) e) := by rw [rnGood, hV, hc]
        refine ws_aload_n (i := 0) X d_M_readName_76 rfl rfl ?_
        refine ws_getI X fl_M_118 ob8 d_M_readName_77 ?_
        refine ws_if_ne X d_M_readName_80 (fun h80 => ?_) (fun h80 => ?_)
        · refine ws_aload_n (i := 0) X d_M_readName_99 rfl rfl ?_
          refine ws_getR X fl_M_30 ob8 d_M_readName_100 ?_
          refine ws_iload_n (i := 1) X d_M_readName_103 rfl rfl ?_
          refine ws_iload_n (i := 2) X d_M_readName_104 rfl rfl ?_
          refine ws_iast X ak30 ob30 (by assumption) d_M_readName_105 ?_
          rw [hcm]
          refine ws_vret X d_M_readName_106 ?_
          exact ⟨rfl, by rw [rnS, rn1, eG, hV]; simp [mFaultS, eq_false h80]⟩
        · refine ws_iload_n (i := 3) X d_M_readName_83 rfl rfl ?_
          refine ws_ifB_ne X d_M_readName_84 (fun h84 => ?_) (fun h84 => ?_)
          · refine ws_aload_n (i := 0) X d_M_readName_99 rfl rfl ?_
            refine ws_getR X fl_M_30 ob8 d_M_readName_100 ?_
            refine ws_iload_n (i := 1) X d_M_readName_103 rfl rfl ?_
            refine ws_iload_n (i := 2) X d_M_readName_104 rfl rfl ?_
            refine ws_iast X ak30 ob30 (by assumption) d_M_readName_105 ?_
            rw [hcm]
            refine ws_vret X d_M_readName_106 ?_
            exact ⟨rfl, by rw [rnS, rn1, eG, hV]; simp [mFaultS, eq_true h80, h84]⟩
          · refine ws_aload_n (i := 0) X d_M_readName_87 rfl rfl ?_
            refine ws_bipush (v := 6) X d_M_readName_88 rfl ?_
            refine ws_aload_n (i := 0) X d_M_readName_90 rfl rfl ?_
            refine ws_getI X fl_M_124 ob8 d_M_readName_91 ?_
            refine ws_iconst (v := 1) X d_M_readName_94 rfl ?_
            refine ws_isub X d_M_readName_95 ?_
            refine ws_callV0 X (m_M_faults _ _ _) cv_M_faults ml_M_127 ob8 rfl rfl (Nat.le_of_ble_eq_true rfl) ⟨Nat.le_of_ble_eq_true rfl, Nat.le_of_ble_eq_true rfl⟩ ⟨Nat.zero_le _, Nat.zero_le _⟩ d_M_readName_96 ?_
            refine ws_aload_n (i := 0) X d_M_readName_99 rfl rfl ?_
            refine ws_getR X fl_M_30 ob8 d_M_readName_100 ?_
            refine ws_iload_n (i := 1) X d_M_readName_103 rfl rfl ?_
            refine ws_iload_n (i := 2) X d_M_readName_104 rfl rfl ?_
            refine ws_iast X ak30 ob30 (by assumption) d_M_readName_105 ?_
            rw [hcm]
            refine ws_vret X d_M_readName_106 ?_
            exact ⟨rfl, by rw [rnS, rn1, eG, hV]; simp [mFaultS, eq_true h80, h84]⟩
      · refine ws_iconst (v := 1) X d_M_readName_30 rfl ?_
        refine ws_goto X d_M_readName_31 ?_
        refine ws_istn_3 X rfl d_M_readName_35 (by decide) ?_
        refine ws_iconst (v := 0) X d_M_readName_36 rfl ?_
        refine ws_ist_4 X rfl d_M_readName_37 (by decide) ?_
        refine l_rn X (e := e) (by omega) hW' hN' m 0 (rn0 (mTakeS S) e) _ (fun h => hin0 (by simp only [rn0, Bool.and_eq_true, decide_eq_true_eq] at h; exact h.1.2)) (by simp [bI, rn0, eq_true h9, eq_false h17, eq_true h27]) (by omega) (fun j => ?_)
        have eG : rnGood (mTakeS S) (mTakeV S).toNatClampNeg m = rnGo (mTakeS S) e m 0 (rn0 (mTakeS S) e) := by rw [rnGood, hV, hc]
        refine ws_aload_n (i := 0) X d_M_readName_76 rfl rfl ?_
        refine ws_getI X fl_M_118 ob8 d_M_readName_77 ?_
        refine ws_if_ne X d_M_readName_80 (fun h80 => ?_) (fun h80 => ?_)
        · refine ws_aload_n (i := 0) X d_M_readName_99 rfl rfl ?_
          refine ws_getR X fl_M_30 ob8 d_M_readName_100 ?_
          refine ws_iload_n (i := 1) X d_M_readName_103 rfl rfl ?_
          refine ws_iload_n (i := 2) X d_M_readName_104 rfl rfl ?_
          refine ws_iast X ak30 ob30 (by assumption) d_M_readName_105 ?_
          rw [hcm]
          refine ws_vret X d_M_readName_106 ?_
          exact ⟨rfl, by rw [rnS, rn1, eG, hV]; simp [mFaultS, eq_false h80]⟩
        · refine ws_iload_n (i := 3) X d_M_readName_83 rfl rfl ?_
          refine ws_ifB_ne X d_M_readName_84 (fun h84 => ?_) (fun h84 => ?_)
          · refine ws_aload_n (i := 0) X d_M_readName_99 rfl rfl ?_
            refine ws_getR X fl_M_30 ob8 d_M_readName_100 ?_
            refine ws_iload_n (i := 1) X d_M_readName_103 rfl rfl ?_
            refine ws_iload_n (i := 2) X d_M_readName_104 rfl rfl ?_
            refine ws_iast X ak30 ob30 (by assumption) d_M_readName_105 ?_
            rw [hcm]
            refine ws_vret X d_M_readName_106 ?_
            exact ⟨rfl, by rw [rnS, rn1, eG, hV]; simp [mFaultS, eq_true h80, h84]⟩
          · refine ws_aload_n (i := 0) X d_M_readName_87 rfl rfl ?_
            refine ws_bipush (v := 6) X d_M_readName_88 rfl ?_
            refine ws_aload_n (i := 0) X d_M_readName_90 rfl rfl ?_
            refine ws_getI X fl_M_124 ob8 d_M_readName_91 ?_
            refine ws_iconst (v := 1) X d_M_readName_94 rfl ?_
            refine ws_isub X d_M_readName_95 ?_
            refine ws_callV0 X (m_M_faults _ _ _) cv_M_faults ml_M_127 ob8 rfl rfl (Nat.le_of_ble_eq_true rfl) ⟨Nat.le_of_ble_eq_true rfl, Nat.le_of_ble_eq_true rfl⟩ ⟨Nat.zero_le _, Nat.zero_le _⟩ d_M_readName_96 ?_
            refine ws_aload_n (i := 0) X d_M_readName_99 rfl rfl ?_
            refine ws_getR X fl_M_30 ob8 d_M_readName_100 ?_
            refine ws_iload_n (i := 1) X d_M_readName_103 rfl rfl ?_
            refine ws_iload_n (i := 2) X d_M_readName_104 rfl rfl ?_
            refine ws_iast X ak30 ob30 (by assumption) d_M_readName_105 ?_
            rw [hcm]
            refine ws_vret X d_M_readName_106 ?_
            exact ⟨rfl, by rw [rnS, rn1, eG, hV]; simp [mFaultS, eq_true h80, h84]⟩


