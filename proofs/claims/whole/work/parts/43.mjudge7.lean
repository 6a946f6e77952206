/-! the model judges: the kinds that an op wants -/
def jkW (S : MS) (o : Int32) (m g k : Nat) : Int32 := if o = 21 then S.1 32 0 (3 * g + ((S.1 31 0 g).toNatClampNeg - 1 - k)) else mWnt S o m
theorem m_wantsU (S : MS) (m g k : Nat) (o : Int32) (hm : m < 5) (h21 : o = 21 → g < 5 ∧ ∃ t, t ≤ 3 ∧ k < t ∧ S.1 31 0 g = nI t) : MetE y_M_wants c_M_wants 5 (some .int) 1 22 [.inr (8, 0), .inl (.int (nI m)), .inl (.int o), .inl (.int (nI g)), .inl (.int (nI k))] S (some (.inl (.int (jkW S o m g k)))) S := by
  by_cases h : o = 21
  · obtain ⟨hg, t, ht, hk, hT⟩ := h21 h
    have := m_M_wants_21 S m g t k hg hk ht hT
    rw [jkW, if_pos h, hT, nI_c (by omega), h]
    exact this
  · rw [jkW, if_neg h]
    exact m_M_wants_n S m o _ _ hm h
def jkGo (S : MS) (o : Int32) (m g d : Nat) : Nat → Nat → Bool → Bool
  | 0, _, b => b
  | n + 1, k, b => jkGo S o m g d n (k + 1) (b && (decide (jkW S o m g k = 0) || decide (S.1 48 0 (d - 1 - k) = jkW S o m g k)))
section L42
variable {p : Program} {l : Launch} {e0 : Env} {s : State} {m0 : MethodId} {args : Array Value} {below : List Frame} {meth : Method} {c0 : Code} {G : GG} {A : Nat → Prop} {Q : State → Prop}
theorem l_jk (X : CX p s m0 args meth c0 G A c_M_judgeKinds y_M_judgeKinds.cls 10 (none)) {S : MS} {m g d c : Nat} {o pc2 : Int32} (hm : m < 5) (hd : d ≤ 6) (hc : c ≤ d) (hS : S.1 8 0 33 = nI d) (h21 : o = 21 → g < 5 ∧ S.1 31 0 g = nI c ∧ c ≤ 3) : ∀ (n k : Nat) (b : Bool) (x6 : Int32) (x8 : Option MV), x6 = bI b → k + n = c → (∀ (j : Int32) (x8 : Option MV), WS p l e0 (rmS 2 46) s m0 args below meth c0 G A 10 0 0 Q 112 [some (.inr (8, 0)), some (.inl (.int (nI m))), some (.inl (.int pc2)), some (.inl (.int o)), some (.inl (.int (nI g))), some (.inl (.int (nI c))), some (.inl (.int (bI (jkGo S o m g d n k b)))), some (.inl (.int j)), x8, none] [] (S)) → WS p l e0 (rmS 2 46) s m0 args below meth c0 G A 10 0 0 Q 51 [some (.inr (8, 0)), some (.inl (.int (nI m))), some (.inl (.int pc2)), some (.inl (.int o)), some (.inl (.int (nI g))), some (.inl (.int (nI c))), some (.inl (.int x6)), some (.inl (.int (nI k))), x8, none] [] (S) := by
  intro n
  induction n with
  | zero =>
    intro k b x6 x8 hx hi' K
    have hh : nI c ≤ nI k := by rw [nI_leI (by omega) (by omega)]; omega
    rw [hx]
    refine ws_iload (i := 7) X d_M_judgeKinds_51 rfl ?_
    refine ws_iload (i := 5) X d_M_judgeKinds_53 rfl ?_
    refine ws_icmp_ge X d_M_judgeKinds_55 (fun h55 => ?_) (fun h55 => ?_)
    · exact K _ _
    · exact absurd hh h55
  | succ n ih =>
    intro k b x6 x8 hx hi' K
    have hh : ¬ nI c ≤ nI k := by rw [nI_leI (by omega) (by omega)]; omega
    have hin8 : vp_in (nI (d - 1 - k)) 8 := vp_in_nI (by omega) (by omega)
    have hcx := nI_c (i := d - 1 - k) (by omega)
    have hdd : S.1 8 0 33 - 1 - nI k = nI (d - 1 - k) := by
      obtain ⟨q, rfl⟩ : ∃ q, d = q + k + 1 := ⟨d - 1 - k, by omega⟩
      rw [hS, nI_m1, show q + k + 1 - 1 - k = q from by omega, ← nI_add, Int32.add_sub_cancel]
    have hU := m_wantsU S m g k o hm (fun z => ⟨(h21 z).1, c, (h21 z).2.2, by omega, (h21 z).2.1⟩)
    rw [jkGo] at K
    cases b with
    | false =>
      rw [show x6 = 0 from hx]
      refine ws_iload (i := 7) X d_M_judgeKinds_51 rfl ?_
      refine ws_iload (i := 5) X d_M_judgeKinds_53 rfl ?_
      refine ws_icmp_ge X d_M_judgeKinds_55 (fun h55 => ?_) (fun h55 => ?_)
      · exact absurd h55 hh
      · refine ws_aload_n (i := 0) X d_M_judgeKinds_58 rfl rfl ?_
        refine ws_iload_n (i := 1) X d_M_judgeKinds_59 rfl rfl ?_
        refine ws_iload_n (i := 3) X d_M_judgeKinds_60 rfl rfl ?_
        refine ws_iload (i := 4) X d_M_judgeKinds_61 rfl ?_
        refine ws_iload (i := 7) X d_M_judgeKinds_63 rfl ?_
        refine ws_callV1 X (hU) cv_M_wants ml_M_219 ob8 rfl rfl (Nat.le_of_ble_eq_true rfl) ⟨Nat.le_of_ble_eq_true rfl, Nat.le_of_ble_eq_true rfl⟩ ⟨Nat.zero_le _, Nat.zero_le _⟩ d_M_judgeKinds_65 ?_
        refine ws_ist_8 X rfl d_M_judgeKinds_68 (by decide) ?_
        refine ws_iload (i := 6) X d_M_judgeKinds_70 rfl ?_
        refine ws_if_eq X d_M_judgeKinds_72 (fun h72 => ?_) (fun h72 => ?_)
        · refine ws_iconst (v := 0) X d_M_judgeKinds_103 rfl ?_
          refine ws_ist_6 X rfl d_M_judgeKinds_104 (by decide) ?_
          refine ws_iinc_7 X rfl d_M_judgeKinds_106 rfl (by decide) ?_
          refine ws_goto X d_M_judgeKinds_109 ?_
          rw [nI_inc]; exact ih (k + 1) _ _ _ (by simp [bI, eq_false h55, eq_true h72]) (by omega) K
        · exact absurd h72 (by decide)
    | true =>
      rw [show x6 = 1 from hx]
      refine ws_iload (i := 7) X d_M_judgeKinds_51 rfl ?_
      refine ws_iload (i := 5) X d_M_judgeKinds_53 rfl ?_
      refine ws_icmp_ge X d_M_judgeKinds_55 (fun h55 => ?_) (fun h55 => ?_)
      · exact absurd h55 hh
      · refine ws_aload_n (i := 0) X d_M_judgeKinds_58 rfl rfl ?_
        refine ws_iload_n (i := 1) X d_M_judgeKinds_59 rfl rfl ?_
        refine ws_iload_n (i := 3) X d_M_judgeKinds_60 rfl rfl ?_
        refine ws_iload (i := 4) X d_M_judgeKinds_61 rfl ?_
        refine ws_iload (i := 7) X d_M_judgeKinds_63 rfl ?_
        refine ws_callV1 X (hU) cv_M_wants ml_M_219 ob8 rfl rfl (Nat.le_of_ble_eq_true rfl) ⟨Nat.le_of_ble_eq_true rfl, Nat.le_of_ble_eq_true rfl⟩ ⟨Nat.zero_le _, Nat.zero_le _⟩ d_M_judgeKinds_65 ?_
        refine ws_ist_8 X rfl d_M_judgeKinds_68 (by decide) ?_
        refine ws_iload (i := 6) X d_M_judgeKinds_70 rfl ?_
        refine ws_if_eq X d_M_judgeKinds_72 (fun h72 => ?_) (fun h72 => ?_)
        · exact absurd h72 (by decide)
        · refine ws_iload (i := 8) X d_M_judgeKinds_75 rfl ?_
          refine ws_if_eq X d_M_judgeKinds_77 (fun h77 => ?_) (fun h77 => ?_)
          · refine ws_iconst (v := 1) X d_M_judgeKinds_99 rfl ?_
            refine ws_goto X d_M_judgeKinds_100 ?_
            refine ws_ist_6 X rfl d_M_judgeKinds_104 (by decide) ?_
            refine ws_iinc_7 X rfl d_M_judgeKinds_106 rfl (by decide) ?_
            refine ws_goto X d_M_judgeKinds_109 ?_
            rw [nI_inc]; exact ih (k + 1) _ _ _ (by simp [bI, eq_false h55, eq_false h72, eq_true h77]) (by omega) K
          · refine ws_aload_n (i := 0) X d_M_judgeKinds_80 rfl rfl ?_
            refine ws_getR X fl_M_85 ob8 d_M_judgeKinds_81 ?_
            refine ws_aload_n (i := 0) X d_M_judgeKinds_84 rfl rfl ?_
            refine ws_getI X fl_M_177 ob8 d_M_judgeKinds_85 ?_
            refine ws_iconst (v := 1) X d_M_judgeKinds_88 rfl ?_
            refine ws_isub X d_M_judgeKinds_89 ?_
            refine ws_iload (i := 7) X d_M_judgeKinds_90 rfl ?_
            refine ws_isub X d_M_judgeKinds_92 ?_
            rw [hdd]
            refine ws_iald X ak48 ob48 (by assumption) d_M_judgeKinds_93 ?_
            rw [hcx]
            refine ws_iload (i := 8) X d_M_judgeKinds_94 rfl ?_
            refine ws_icmp_ne X d_M_judgeKinds_96 (fun h96 => ?_) (fun h96 => ?_)
            · refine ws_iconst (v := 0) X d_M_judgeKinds_103 rfl ?_
              refine ws_ist_6 X rfl d_M_judgeKinds_104 (by decide) ?_
              refine ws_iinc_7 X rfl d_M_judgeKinds_106 rfl (by decide) ?_
              refine ws_goto X d_M_judgeKinds_109 ?_
              rw [nI_inc]; exact ih (k + 1) _ _ _ (by simp [bI, eq_false h55, eq_false h72, eq_false h77, eq_false h96]) (by omega) K
            · refine ws_iconst (v := 1) X d_M_judgeKinds_99 rfl ?_
              refine ws_goto X d_M_judgeKinds_100 ?_
              refine ws_ist_6 X rfl d_M_judgeKinds_104 (by decide) ?_
              refine ws_iinc_7 X rfl d_M_judgeKinds_106 rfl (by decide) ?_
              refine ws_goto X d_M_judgeKinds_109 ?_
              rw [nI_inc]; exact ih (k + 1) _ _ _ (by simp [bI, eq_false h55, eq_false h72, eq_false h77, eq_true h96]) (by omega) K
end L42

