/-! the model judges: judgeKinds -/
def jkTop (S : MS) : Int32 := if S.1 8 0 33 ≤ 0 then 0 else S.1 48 0 (S.1 8 0 33 - 1).toNatClampNeg
def jkOk (S : MS) (m : Nat) (o : Int32) (g : Nat) : Bool := jkGo S o m g (S.1 8 0 33).toNatClampNeg (mPops S o g).toNatClampNeg 0 (decide (¬ o = 3) || decide (¬ S.1 49 0 g = 0))
def jkS (S : MS) (m : Nat) (o : Int32) (g : Nat) (pl : Int32) : MS :=
  if mPops S o g ≤ S.1 8 0 33 then (if jkOk S m o g = true then jkP S m o g pl (jkTop S) else mFaultS S 16 pl) else mFaultS S 15 pl
theorem m_M_judgeKinds (S : MS) (m g c d lc st mp : Nat) (o pl : Int32) (hm : m < 5) (hg : g < 256) (hpc : mPops S o g = nI c) (hd : d ≤ st) (hst : st ≤ 6) (hD : S.1 8 0 33 = nI d) (hT : S.1 35 0 m = nI st) (hlc : lc ≤ 6) (hL : S.1 34 0 m = nI lc) (hmp : mp ≤ 8) (hM : S.1 38 0 m = nI mp) (hg3 : o = 3 → g < 6) (hg4 : o = 4 → g < 6) (h21 : o = 21 → g < 5 ∧ S.1 31 0 g = nI c ∧ c ≤ 3) (hc8 : c < 2 ^ 31) : MetE y_M_judgeKinds c_M_judgeKinds 10 (none) 2 46 [.inr (8, 0), .inl (.int (nI m)), .inl (.int pl), .inl (.int o), .inl (.int (nI g))] S (none) (jkS S m o g pl) := by
  refine MetS.of (lv0 := [some (.inr (8, 0)), some (.inl (.int (nI m))), some (.inl (.int pl)), some (.inl (.int o)), some (.inl (.int (nI g))), none, none, none, none, none]) pn_M rfl (Nat.le_of_ble_eq_true rfl) (fun p0 l0 e0 s0 m0 args below meth c0 G X => ?_)
  have hcg := nI_c (i := g) (by omega)
  have hi3 : ∀ h : o = 3, vp_in (nI g) 6 := fun h => vp_in_nI (hg3 h) (by omega)
  have hdm : ∀ h : ¬ S.1 8 0 33 ≤ 0, vp_in (S.1 8 0 33 - 1) 8 := fun h => by
    rcases d with _ | d
    · exact absurd (by rw [hD]; decide) h
    · rw [hD, nI_m1]; exact vp_in_nI (by omega) (by omega)
  refine ws_aload_n (i := 0) X d_M_judgeKinds_0 rfl rfl ?_
  refine ws_iload_n (i := 3) X d_M_judgeKinds_1 rfl rfl ?_
  refine ws_iload (i := 4) X d_M_judgeKinds_2 rfl ?_
  refine ws_callV1 X (m_M_pops S o (nI g) (fun z => vp_in_nI (h21 z).1 (by omega))) cv_M_pops ml_M_216 ob8 rfl rfl (Nat.le_of_ble_eq_true rfl) ⟨Nat.le_of_ble_eq_true rfl, Nat.le_of_ble_eq_true rfl⟩ ⟨Nat.zero_le _, Nat.zero_le _⟩ d_M_judgeKinds_4 ?_
  rw [hcg, hpc]
  refine ws_ist_5 X rfl d_M_judgeKinds_7 (by decide) ?_
  refine ws_iload (i := 5) X d_M_judgeKinds_9 rfl ?_
  refine ws_aload_n (i := 0) X d_M_judgeKinds_11 rfl rfl ?_
  refine ws_getI X fl_M_177 ob8 d_M_judgeKinds_12 ?_
  refine ws_icmp_le X d_M_judgeKinds_15 (fun h15 => ?_) (fun h15 => ?_)
  · refine ws_iload_n (i := 3) X d_M_judgeKinds_26 rfl rfl ?_
    refine ws_iconst (v := 3) X d_M_judgeKinds_27 rfl ?_
    refine ws_icmp_ne X d_M_judgeKinds_28 (fun h28 => ?_) (fun h28 => ?_)
    · refine ws_iconst (v := 1) X d_M_judgeKinds_41 rfl ?_
      refine ws_goto X d_M_judgeKinds_42 ?_
      refine ws_ist_6 X rfl d_M_judgeKinds_46 (by decide) ?_
      refine ws_iconst (v := 0) X d_M_judgeKinds_48 rfl ?_
      refine ws_ist_7 X rfl d_M_judgeKinds_49 (by decide) ?_
      have hcd : c ≤ d := by have q := h15; rw [hD, nI_leI hc8 (by omega)] at q; exact q
      have eO : jkOk S m o g = jkGo S o m g d c 0 (decide (¬ o = 3) || decide (¬ S.1 49 0 g = 0)) := by rw [jkOk, hD, hpc, nI_c (by omega), nI_c (by omega)]
      refine l_jk X hm (d := d) (by omega) hcd hD h21 c 0 (decide (¬ o = 3) || decide (¬ S.1 49 0 g = 0)) _ none (by simp [bI, eq_true h15, eq_false h28]) (by omega) (fun j x8 => ?_)
      rw [← eO]
      have e15 : mPops S o g ≤ S.1 8 0 33 := by rw [hpc]; exact h15
      refine ws_iload (i := 6) X d_M_judgeKinds_112 rfl ?_
      refine ws_ifB_ne X d_M_judgeKinds_114 (fun h114 => ?_) (fun h114 => ?_)
      · refine ws_aload_n (i := 0) X d_M_judgeKinds_125 rfl rfl ?_
        refine ws_getI X fl_M_177 ob8 d_M_judgeKinds_126 ?_
        refine ws_if_le X d_M_judgeKinds_129 (fun h129 => ?_) (fun h129 => ?_)
        · refine ws_iconst (v := 0) X d_M_judgeKinds_146 rfl ?_
          refine ws_ist_7 X rfl d_M_judgeKinds_147 (by decide) ?_
          have eP : jkS S m o g pl = jkP S m o g pl (jkTop S) := by rw [jkS, if_pos e15, if_pos h114]
          have hW := fun (Z : MS) (hZ : Z = jkP S m o g pl (jkTop S)) => hZ.trans eP.symm
          refine l_jkP X (c := c) (d := d) (st := st) (lc := lc) (mp := mp) hm hg hpc hcd hd hst hD hT hlc hL hmp hM hg3 hg4 (fun z => (h21 z).1) (fun x9 => ?_) (fun x9 => ?_) (fun x9 => ?_)
          · refine ws_vret X d_M_judgeKinds_219 ?_
            exact ⟨rfl, by rw [eP]; simp [jkTop, h114, eq_true h129]⟩
          · refine ws_vret X d_M_judgeKinds_285 ?_
            exact ⟨rfl, by rw [eP]; simp [jkTop, h114, eq_true h129]⟩
          · refine ws_vret X d_M_judgeKinds_307 ?_
            exact ⟨rfl, by rw [eP]; simp [jkTop, h114, eq_true h129]⟩
        · refine ws_aload_n (i := 0) X d_M_judgeKinds_132 rfl rfl ?_
          refine ws_getR X fl_M_85 ob8 d_M_judgeKinds_133 ?_
          refine ws_aload_n (i := 0) X d_M_judgeKinds_136 rfl rfl ?_
          refine ws_getI X fl_M_177 ob8 d_M_judgeKinds_137 ?_
          refine ws_iconst (v := 1) X d_M_judgeKinds_140 rfl ?_
          refine ws_isub X d_M_judgeKinds_141 ?_
          refine ws_iald X ak48 ob48 (hdm (by assumption)) d_M_judgeKinds_142 ?_
          refine ws_goto X d_M_judgeKinds_143 ?_
          refine ws_ist_7 X rfl d_M_judgeKinds_147 (by decide) ?_
          have eP : jkS S m o g pl = jkP S m o g pl (jkTop S) := by rw [jkS, if_pos e15, if_pos h114]
          have hW := fun (Z : MS) (hZ : Z = jkP S m o g pl (jkTop S)) => hZ.trans eP.symm
          refine l_jkP X (c := c) (d := d) (st := st) (lc := lc) (mp := mp) hm hg hpc hcd hd hst hD hT hlc hL hmp hM hg3 hg4 (fun z => (h21 z).1) (fun x9 => ?_) (fun x9 => ?_) (fun x9 => ?_)
          · refine ws_vret X d_M_judgeKinds_219 ?_
            exact ⟨rfl, by rw [eP]; simp [jkTop, h114, eq_false h129]⟩
          · refine ws_vret X d_M_judgeKinds_285 ?_
            exact ⟨rfl, by rw [eP]; simp [jkTop, h114, eq_false h129]⟩
          · refine ws_vret X d_M_judgeKinds_307 ?_
            exact ⟨rfl, by rw [eP]; simp [jkTop, h114, eq_false h129]⟩
      · refine ws_aload_n (i := 0) X d_M_judgeKinds_117 rfl rfl ?_
        refine ws_bipush (v := 16) X d_M_judgeKinds_118 rfl ?_
        refine ws_iload_n (i := 2) X d_M_judgeKinds_120 rfl rfl ?_
        refine ws_callV0 X (m_M_faults _ _ _) cv_M_faults ml_M_127 ob8 rfl rfl (Nat.le_of_ble_eq_true rfl) ⟨Nat.le_of_ble_eq_true rfl, Nat.le_of_ble_eq_true rfl⟩ ⟨Nat.zero_le _, Nat.zero_le _⟩ d_M_judgeKinds_121 ?_
        refine ws_vret X d_M_judgeKinds_124 ?_
        exact ⟨rfl, by rw [jkS, if_pos e15]; simp [h114]⟩
    · refine ws_aload_n (i := 0) X d_M_judgeKinds_31 rfl rfl ?_
      refine ws_getR X fl_M_88 ob8 d_M_judgeKinds_32 ?_
      refine ws_iload (i := 4) X d_M_judgeKinds_35 rfl ?_
      refine ws_iald X ak49 ob49 (hi3 (by assumption)) d_M_judgeKinds_37 ?_
      rw [hcg]
      refine ws_if_eq X d_M_judgeKinds_38 (fun h38 => ?_) (fun h38 => ?_)
      · refine ws_iconst (v := 0) X d_M_judgeKinds_45 rfl ?_
        refine ws_ist_6 X rfl d_M_judgeKinds_46 (by decide) ?_
        refine ws_iconst (v := 0) X d_M_judgeKinds_48 rfl ?_
        refine ws_ist_7 X rfl d_M_judgeKinds_49 (by decide) ?_
        have hcd : c ≤ d := by have q := h15; rw [hD, nI_leI hc8 (by omega)] at q; exact q
        have eO : jkOk S m o g = jkGo S o m g d c 0 (decide (¬ o = 3) || decide (¬ S.1 49 0 g = 0)) := by rw [jkOk, hD, hpc, nI_c (by omega), nI_c (by omega)]
        refine l_jk X hm (d := d) (by omega) hcd hD h21 c 0 (decide (¬ o = 3) || decide (¬ S.1 49 0 g = 0)) _ none (by simp [bI, eq_true h15, eq_true h28, eq_true h38]) (by omega) (fun j x8 => ?_)
        rw [← eO]
        have e15 : mPops S o g ≤ S.1 8 0 33 := by rw [hpc]; exact h15
        refine ws_iload (i := 6) X d_M_judgeKinds_112 rfl ?_
        refine ws_ifB_ne X d_M_judgeKinds_114 (fun h114 => ?_) (fun h114 => ?_)
        · refine ws_aload_n (i := 0) X d_M_judgeKinds_125 rfl rfl ?_
          refine ws_getI X fl_M_177 ob8 d_M_judgeKinds_126 ?_
          refine ws_if_le X d_M_judgeKinds_129 (fun h129 => ?_) (fun h129 => ?_)
          · refine ws_iconst (v := 0) X d_M_judgeKinds_146 rfl ?_
            refine ws_ist_7 X rfl d_M_judgeKinds_147 (by decide) ?_
            have eP : jkS S m o g pl = jkP S m o g pl (jkTop S) := by rw [jkS, if_pos e15, if_pos h114]
            have hW := fun (Z : MS) (hZ : Z = jkP S m o g pl (jkTop S)) => hZ.trans eP.symm
            refine l_jkP X (c := c) (d := d) (st := st) (lc := lc) (mp := mp) hm hg hpc hcd hd hst hD hT hlc hL hmp hM hg3 hg4 (fun z => (h21 z).1) (fun x9 => ?_) (fun x9 => ?_) (fun x9 => ?_)
            · refine ws_vret X d_M_judgeKinds_219 ?_
              exact ⟨rfl, by rw [eP]; simp [jkTop, h114, eq_true h129]⟩
            · refine ws_vret X d_M_judgeKinds_285 ?_
              exact ⟨rfl, by rw [eP]; simp [jkTop, h114, eq_true h129]⟩
            · refine ws_vret X d_M_judgeKinds_307 ?_
              exact ⟨rfl, by rw [eP]; simp [jkTop, h114, eq_true h129]⟩
          · refine ws_aload_n (i := 0) X d_M_judgeKinds_132 rfl rfl ?_
            refine ws_getR X fl_M_85 ob8 d_M_judgeKinds_133 ?_
            refine ws_aload_n (i := 0) X d_M_judgeKinds_136 rfl rfl ?_
            refine ws_getI X fl_M_177 ob8 d_M_judgeKinds_137 ?_
            refine ws_iconst (v := 1) X d_M_judgeKinds_140 rfl ?_
            refine ws_isub X d_M_judgeKinds_141 ?_
            refine ws_iald X ak48 ob48 (hdm (by assumption)) d_M_judgeKinds_142 ?_
            refine ws_goto X d_M_judgeKinds_143 ?_
            refine ws_ist_7 X rfl d_M_judgeKinds_147 (by decide) ?_
            have eP : jkS S m o g pl = jkP S m o g pl (jkTop S) := by rw [jkS, if_pos e15, if_pos h114]
            have hW := fun (Z : MS) (hZ : Z = jkP S m o g pl (jkTop S)) => hZ.trans eP.symm
            refine l_jkP X (c := c) (d := d) (st := st) (lc := lc) (mp := mp) hm hg hpc hcd hd hst hD hT hlc hL hmp hM hg3 hg4 (fun z => (h21 z).1) (fun x9 => ?_) (fun x9 => ?_) (fun x9 => ?_)
            · refine ws_vret X d_M_judgeKinds_219 ?_
              exact ⟨rfl, by rw [eP]; simp [jkTop, h114, eq_false h129]⟩
            · refine ws_vret X d_M_judgeKinds_285 ?_
              exact ⟨rfl, by rw [eP]; simp [jkTop, h114, eq_false h129]⟩
            · refine ws_vret X d_M_judgeKinds_307 ?_
              exact ⟨rfl, by rw [eP]; simp [jkTop, h114, eq_false h129]⟩
        · refine ws_aload_n (i := 0) X d_M_judgeKinds_117 rfl rfl ?_
          refine ws_bipush (v := 16) X d_M_judgeKinds_118 rfl ?_
          refine ws_iload_n (i := 2) X d_M_judgeKinds_120 rfl rfl ?_
          refine ws_callV0 X (m_M_faults _ _ _) cv_M_faults ml_M_127 ob8 rfl rfl (Nat.le_of_ble_eq_true rfl) ⟨Nat.le_of_ble_eq_true rfl, Nat.le_of_ble_eq_true rfl⟩ ⟨Nat.zero_le _, Nat.zero_le _⟩ d_M_judgeKinds_121 ?_
          refine ws_vret X d_M_judgeKinds_124 ?_
          exact ⟨rfl, by rw [jkS, if_pos e15]; simp [h114]⟩
      · refine ws_iconst (v := 1) X d_M_judgeKinds_41 rfl ?_
        refine ws_goto X d_M_judgeKinds_42 ?_
        refine ws_ist_6 X rfl d_M_judgeKinds_46 (by decide) ?_
        refine ws_iconst (v := 0) X d_M_judgeKinds_48 rfl ?_
        refine ws_ist_7 X rfl d_M_judgeKinds_49 (by decide) ?_
        have hcd : c ≤ d := by have q := h15; rw [hD, nI_leI hc8 (by omega)] at q; exact q
        have eO : jkOk S m o g = jkGo S o m g d c 0 (decide (¬ o = 3) || decide (¬ S.1 49 0 g = 0)) := by rw [jkOk, hD, hpc, nI_c (by omega), nI_c (by omega)]
        refine l_jk X hm (d := d) (by omega) hcd hD h21 c 0 (decide (¬ o = 3) || decide (¬ S.1 49 0 g = 0)) _ none (by simp [bI, eq_true h15, eq_true h28, eq_false h38]) (by omega) (fun j x8 => ?_)
        rw [← eO]
        have e15 : mPops S o g ≤ S.1 8 0 33 := by rw [hpc]; exact h15
        refine ws_iload (i := 6) X d_M_judgeKinds_112 rfl ?_
        refine ws_ifB_ne X d_M_judgeKinds_114 (fun h114 => ?_) (fun h114 => ?_)
        · refine ws_aload_n (i := 0) X d_M_judgeKinds_125 rfl rfl ?_
          refine ws_getI X fl_M_177 ob8 d_M_judgeKinds_126 ?_
          refine ws_if_le X d_M_judgeKinds_129 (fun h129 => ?_) (fun h129 => ?_)
          · refine ws_iconst (v := 0) X d_M_judgeKinds_146 rfl ?_
            refine ws_ist_7 X rfl d_M_judgeKinds_147 (by decide) ?_
            have eP : jkS S m o g pl = jkP S m o g pl (jkTop S) := by rw [jkS, if_pos e15, if_pos h114]
            have hW := fun (Z : MS) (hZ : Z = jkP S m o g pl (jkTop S)) => hZ.trans eP.symm
            refine l_jkP X (c := c) (d := d) (st := st) (lc := lc) (mp := mp) hm hg hpc hcd hd hst hD hT hlc hL hmp hM hg3 hg4 (fun z => (h21 z).1) (fun x9 => ?_) (fun x9 => ?_) (fun x9 => ?_)
            · refine ws_vret X d_M_judgeKinds_219 ?_
              exact ⟨rfl, by rw [eP]; simp [jkTop, h114, eq_true h129]⟩
            · refine ws_vret X d_M_judgeKinds_285 ?_
              exact ⟨rfl, by rw [eP]; simp [jkTop, h114, eq_true h129]⟩
            · refine ws_vret X d_M_judgeKinds_307 ?_
              exact ⟨rfl, by rw [eP]; simp [jkTop, h114, eq_true h129]⟩
          · refine ws_aload_n (i := 0) X d_M_judgeKinds_132 rfl rfl ?_
            refine ws_getR X fl_M_85 ob8 d_M_judgeKinds_133 ?_
            refine ws_aload_n (i := 0) X d_M_judgeKinds_136 rfl rfl ?_
            refine ws_getI X fl_M_177 ob8 d_M_judgeKinds_137 ?_
            refine ws_iconst (v := 1) X d_M_judgeKinds_140 rfl ?_
            refine ws_isub X d_M_judgeKinds_141 ?_
            refine ws_iald X ak48 ob48 (hdm (by assumption)) d_M_judgeKinds_142 ?_
            refine ws_goto X d_M_judgeKinds_143 ?_
            refine ws_ist_7 X rfl d_M_judgeKinds_147 (by decide) ?_
            have eP : jkS S m o g pl = jkP S m o g pl (jkTop S) := by rw [jkS, if_pos e15, if_pos h114]
            have hW := fun (Z : MS) (hZ : Z = jkP S m o g pl (jkTop S)) => hZ.trans eP.symm
            refine l_jkP X (c := c) (d := d) (st := st) (lc := lc) (mp := mp) hm hg hpc hcd hd hst hD hT hlc hL hmp hM hg3 hg4 (fun z => (h21 z).1) (fun x9 => ?_) (fun x9 => ?_) (fun x9 => ?_)
            · refine ws_vret X d_M_judgeKinds_219 ?_
              exact ⟨rfl, by rw [eP]; simp [jkTop, h114, eq_false h129]⟩
            · refine ws_vret X d_M_judgeKinds_285 ?_
              exact ⟨rfl, by rw [eP]; simp [jkTop, h114, eq_false h129]⟩
            · refine ws_vret X d_M_judgeKinds_307 ?_
              exact ⟨rfl, by rw [eP]; simp [jkTop, h114, eq_false h129]⟩
        · refine ws_aload_n (i := 0) X d_M_judgeKinds_117 rfl rfl ?_
          refine ws_bipush (v := 16) X d_M_judgeKinds_118 rfl ?_
          refine ws_iload_n (i := 2) X d_M_judgeKinds_120 rfl rfl ?_
          refine ws_callV0 X (m_M_faults _ _ _) cv_M_faults ml_M_127 ob8 rfl rfl (Nat.le_of_ble_eq_true rfl) ⟨Nat.le_of_ble_eq_true rfl, Nat.le_of_ble_eq_true rfl⟩ ⟨Nat.zero_le _, Nat.zero_le _⟩ d_M_judgeKinds_121 ?_
          refine ws_vret X d_M_judgeKinds_124 ?_
          exact ⟨rfl, by rw [jkS, if_pos e15]; simp [h114]⟩
  · refine ws_aload_n (i := 0) X d_M_judgeKinds_18 rfl rfl ?_
    refine ws_bipush (v := 15) X d_M_judgeKinds_19 rfl ?_
    refine ws_iload_n (i := 2) X d_M_judgeKinds_21 rfl rfl ?_
    refine ws_callV0 X (m_M_faults _ _ _) cv_M_faults ml_M_127 ob8 rfl rfl (Nat.le_of_ble_eq_true rfl) ⟨Nat.le_of_ble_eq_true rfl, Nat.le_of_ble_eq_true rfl⟩ ⟨Nat.zero_le _, Nat.zero_le _⟩ d_M_judgeKinds_22 ?_
    refine ws_vret X d_M_judgeKinds_25 ?_
    exact ⟨rfl, by simp [jkS, hpc, eq_false h15]⟩


