/-! the model judges: what an op takes and gives -/
def mWnt (S : MS) (o : Int32) (m : Nat) : Int32 := if o = 22 then S.1 33 0 m else if (mIn o 7 10 || decide (o = 15) || decide (o = 17) || decide (o = 20) || decide (o = 23)) = true then 1 else if (mIn o 11 14 || decide (o = 16) || decide (o = 18) || decide (o = 24)) = true then 2 else 0
theorem m_M_wants_n (S : MS) (m : Nat) (o a k : Int32) (hm : m < 5) (ho : ¬ o = 21) : MetE y_M_wants c_M_wants 5 ((some .int)) 1 22 [.inr (8, 0), .inl (.int (nI m)), .inl (.int o), .inl (.int a), .inl (.int k)] S (some (.inl (.int (mWnt S o m)))) (S) := by
  refine MetS.of (lv0 := [some (.inr (8, 0)), some (.inl (.int (nI m))), some (.inl (.int o)), some (.inl (.int a)), some (.inl (.int k))]) pn_M rfl (Nat.le_of_ble_eq_true rfl) (fun p0 l0 e0 s0 m0 args below meth c0 G X => ?_)
  have hcm := nI_c (i := m) (by omega)
  have hinm : vp_in (nI m) 5 := vp_in_nI hm (by omega)
  refine ws_iload_n (i := 2) X d_M_wants_0 rfl rfl ?_
  refine ws_bipush (v := 21) X d_M_wants_1 rfl ?_
  refine ws_icmp_ne X d_M_wants_3 (fun h3 => ?_) (fun h3 => ?_)
  · refine ws_iload_n (i := 2) X d_M_wants_27 rfl rfl ?_
    refine ws_bipush (v := 22) X d_M_wants_28 rfl ?_
    refine ws_icmp_ne X d_M_wants_30 (fun h30 => ?_) (fun h30 => ?_)
    · refine ws_iload_n (i := 2) X d_M_wants_40 rfl rfl ?_
      refine ws_bipush (v := 7) X d_M_wants_41 rfl ?_
      refine ws_bipush (v := 10) X d_M_wants_43 rfl ?_
      refine ws_callS1 X (m_M_in _ _ _ _) cs_M_in ml_M_106 rfl rfl (Nat.le_of_ble_eq_true rfl) ⟨Nat.le_of_ble_eq_true rfl, Nat.le_of_ble_eq_true rfl⟩ ⟨Nat.zero_le _, Nat.zero_le _⟩ d_M_wants_45 ?_
      refine ws_ifB_ne X d_M_wants_48 (fun h48 => ?_) (fun h48 => ?_)
      · refine ws_iconst (v := 1) X d_M_wants_75 rfl ?_
        refine ws_iret X d_M_wants_76 ?_
        exact ⟨by simp [mWnt, eq_false h3, eq_false h30, h48], rfl⟩
      · refine ws_iload_n (i := 2) X d_M_wants_51 rfl rfl ?_
        refine ws_bipush (v := 15) X d_M_wants_52 rfl ?_
        refine ws_icmp_eq X d_M_wants_54 (fun h54 => ?_) (fun h54 => ?_)
        · refine ws_iconst (v := 1) X d_M_wants_75 rfl ?_
          refine ws_iret X d_M_wants_76 ?_
          exact ⟨by simp [mWnt, eq_false h3, eq_false h30, h48, eq_true h54], rfl⟩
        · refine ws_iload_n (i := 2) X d_M_wants_57 rfl rfl ?_
          refine ws_bipush (v := 17) X d_M_wants_58 rfl ?_
          refine ws_icmp_eq X d_M_wants_60 (fun h60 => ?_) (fun h60 => ?_)
          · refine ws_iconst (v := 1) X d_M_wants_75 rfl ?_
            refine ws_iret X d_M_wants_76 ?_
            exact ⟨by simp [mWnt, eq_false h3, eq_false h30, h48, eq_false h54, eq_true h60], rfl⟩
          · refine ws_iload_n (i := 2) X d_M_wants_63 rfl rfl ?_
            refine ws_bipush (v := 20) X d_M_wants_64 rfl ?_
            refine ws_icmp_eq X d_M_wants_66 (fun h66 => ?_) (fun h66 => ?_)
            · refine ws_iconst (v := 1) X d_M_wants_75 rfl ?_
              refine ws_iret X d_M_wants_76 ?_
              exact ⟨by simp [mWnt, eq_false h3, eq_false h30, h48, eq_false h54, eq_false h60, eq_true h66], rfl⟩
            · refine ws_iload_n (i := 2) X d_M_wants_69 rfl rfl ?_
              refine ws_bipush (v := 23) X d_M_wants_70 rfl ?_
              refine ws_icmp_ne X d_M_wants_72 (fun h72 => ?_) (fun h72 => ?_)
              · refine ws_iload_n (i := 2) X d_M_wants_77 rfl rfl ?_
                refine ws_bipush (v := 11) X d_M_wants_78 rfl ?_
                refine ws_bipush (v := 14) X d_M_wants_80 rfl ?_
                refine ws_callS1 X (m_M_in _ _ _ _) cs_M_in ml_M_106 rfl rfl (Nat.le_of_ble_eq_true rfl) ⟨Nat.le_of_ble_eq_true rfl, Nat.le_of_ble_eq_true rfl⟩ ⟨Nat.zero_le _, Nat.zero_le _⟩ d_M_wants_82 ?_
                refine ws_ifB_ne X d_M_wants_85 (fun h85 => ?_) (fun h85 => ?_)
                · refine ws_iconst (v := 2) X d_M_wants_106 rfl ?_
                  refine ws_goto X d_M_wants_107 ?_
                  refine ws_iret X d_M_wants_111 ?_
                  exact ⟨by simp [mWnt, eq_false h3, eq_false h30, h48, eq_false h54, eq_false h60, eq_false h66, eq_false h72, h85], rfl⟩
                · refine ws_iload_n (i := 2) X d_M_wants_88 rfl rfl ?_
                  refine ws_bipush (v := 16) X d_M_wants_89 rfl ?_
                  refine ws_icmp_eq X d_M_wants_91 (fun h91 => ?_) (fun h91 => ?_)
                  · refine ws_iconst (v := 2) X d_M_wants_106 rfl ?_
                    refine ws_goto X d_M_wants_107 ?_
                    refine ws_iret X d_M_wants_111 ?_
                    exact ⟨by simp [mWnt, eq_false h3, eq_false h30, h48, eq_false h54, eq_false h60, eq_false h66, eq_false h72, h85, eq_true h91], rfl⟩
                  · refine ws_iload_n (i := 2) X d_M_wants_94 rfl rfl ?_
                    refine ws_bipush (v := 18) X d_M_wants_95 rfl ?_
                    refine ws_icmp_eq X d_M_wants_97 (fun h97 => ?_) (fun h97 => ?_)
                    · refine ws_iconst (v := 2) X d_M_wants_106 rfl ?_
                      refine ws_goto X d_M_wants_107 ?_
                      refine ws_iret X d_M_wants_111 ?_
                      exact ⟨by simp [mWnt, eq_false h3, eq_false h30, h48, eq_false h54, eq_false h60, eq_false h66, eq_false h72, h85, eq_false h91, eq_true h97], rfl⟩
                    · refine ws_iload_n (i := 2) X d_M_wants_100 rfl rfl ?_
                      refine ws_bipush (v := 24) X d_M_wants_101 rfl ?_
                      refine ws_icmp_ne X d_M_wants_103 (fun h103 => ?_) (fun h103 => ?_)
                      · refine ws_iconst (v := 0) X d_M_wants_110 rfl ?_
                        refine ws_iret X d_M_wants_111 ?_
                        exact ⟨by simp [mWnt, eq_false h3, eq_false h30, h48, eq_false h54, eq_false h60, eq_false h66, eq_false h72, h85, eq_false h91, eq_false h97, eq_false h103], rfl⟩
                      · refine ws_iconst (v := 2) X d_M_wants_106 rfl ?_
                        refine ws_goto X d_M_wants_107 ?_
                        refine ws_iret X d_M_wants_111 ?_
                        exact ⟨by simp [mWnt, eq_false h3, eq_false h30, h48, eq_false h54, eq_false h60, eq_false h66, eq_false h72, h85, eq_false h91, eq_false h97, eq_true h103], rfl⟩
              · refine ws_iconst (v := 1) X d_M_wants_75 rfl ?_
                refine ws_iret X d_M_wants_76 ?_
                exact ⟨by simp [mWnt, eq_false h3, eq_false h30, h48, eq_false h54, eq_false h60, eq_false h66, eq_true h72], rfl⟩
    · refine ws_aload_n (i := 0) X d_M_wants_33 rfl rfl ?_
      refine ws_getR X fl_M_39 ob8 d_M_wants_34 ?_
      refine ws_iload_n (i := 1) X d_M_wants_37 rfl rfl ?_
      refine ws_iald X ak33 ob33 (by assumption) d_M_wants_38 ?_
      rw [hcm]
      refine ws_iret X d_M_wants_39 ?_
      exact ⟨by simp [mWnt, eq_false h3, eq_true h30], rfl⟩
  · exact absurd h3 ho

theorem m_M_wants_21 (S : MS) (m a t k : Nat) (ha : a < 5) (hk : k < t) (ht : t ≤ 3) (hT : S.1 31 0 a = nI t) : MetE y_M_wants c_M_wants 5 ((some .int)) 1 22 [.inr (8, 0), .inl (.int (nI m)), .inl (.int 21), .inl (.int (nI a)), .inl (.int (nI k))] S (some (.inl (.int (S.1 32 0 (3 * a + (t - 1 - k)))))) (S) := by
  refine MetS.of (lv0 := [some (.inr (8, 0)), some (.inl (.int (nI m))), some (.inl (.int 21)), some (.inl (.int (nI a))), some (.inl (.int (nI k)))]) pn_M rfl (Nat.le_of_ble_eq_true rfl) (fun p0 l0 e0 s0 m0 args below meth c0 G X => ?_)
  have hca := nI_c (i := a) (by omega)
  have hina : vp_in (nI a) 5 := vp_in_nI ha (by omega)
  have hx : nI 3 * nI a + nI t - 1 - nI k = nI (3 * a + (t - 1 - k)) := by
    rw [pk_mul, nI_add]
    obtain ⟨d, rfl⟩ : ∃ d, t = d + 1 + k := ⟨t - 1 - k, by omega⟩
    rw [show 3 * a + (d + 1 + k) = 3 * a + d + k + 1 from by omega, nI_m1, show d + 1 + k - 1 - k = d from by omega, ← nI_add, Int32.add_sub_cancel]
  have hin : vp_in (nI (3 * a + (t - 1 - k))) 15 := vp_in_nI (by omega) (by omega)
  have hcx := nI_c (i := 3 * a + (t - 1 - k)) (by omega)
  refine ws_iload_n (i := 2) X d_M_wants_0 rfl rfl ?_
  refine ws_bipush (v := 21) X d_M_wants_1 rfl ?_
  refine ws_icmp_ne X d_M_wants_3 (fun h3 => ?_) (fun h3 => ?_)
  · exact absurd rfl h3
  · refine ws_aload_n (i := 0) X d_M_wants_6 rfl rfl ?_
    refine ws_getR X fl_M_36 ob8 d_M_wants_7 ?_
    refine ws_iconst (v := 3) X d_M_wants_10 rfl ?_
    refine ws_iload_n (i := 3) X d_M_wants_11 rfl rfl ?_
    refine ws_imul X d_M_wants_12 ?_
    refine ws_aload_n (i := 0) X d_M_wants_13 rfl rfl ?_
    refine ws_getR X fl_M_33 ob8 d_M_wants_14 ?_
    refine ws_iload_n (i := 3) X d_M_wants_17 rfl rfl ?_
    refine ws_iald X ak31 ob31 (by assumption) d_M_wants_18 ?_
    rw [hca, hT, show (3 : Int32) = nI 3 from rfl]
    refine ws_iadd X d_M_wants_19 ?_
    refine ws_iconst (v := 1) X d_M_wants_20 rfl ?_
    refine ws_isub X d_M_wants_21 ?_
    refine ws_iload (i := 4) X d_M_wants_22 rfl ?_
    refine ws_isub X d_M_wants_24 ?_
    rw [hx]
    refine ws_iald X ak32 ob32 (by assumption) d_M_wants_25 ?_
    refine ws_iret X d_M_wants_26 ?_
    exact ⟨by rw [hcx], rfl⟩

def mPsh (S : MS) (o : Int32) (g : Nat) (top : Int32) : Int32 := if (decide (o = 1) || mIn o 7 10 || mIn o 16 18) = true then 1 else if (decide (o = 2) || mIn o 11 15 || decide (¬ o ≤ 22)) = true then 2 else if o = 3 then S.1 49 0 g else if o = 5 then top else if o = 21 then S.1 33 0 g else 0
theorem m_M_pushes (S : MS) (o a top : Int32) (h3' : o = 3 → vp_in a 6) (h5' : o = 21 → vp_in a 5) : MetE y_M_pushes c_M_pushes 4 ((some .int)) 1 22 [.inr (8, 0), .inl (.int o), .inl (.int a), .inl (.int top)] S (some (.inl (.int (mPsh S o a.toNatClampNeg top)))) (S) := by
  refine MetS.of (lv0 := [some (.inr (8, 0)), some (.inl (.int o)), some (.inl (.int a)), some (.inl (.int top))]) pn_M rfl (Nat.le_of_ble_eq_true rfl) (fun p0 l0 e0 s0 m0 args below meth c0 G X => ?_)
  refine ws_iload_n (i := 1) X d_M_pushes_0 rfl rfl ?_
  refine ws_iconst (v := 1) X d_M_pushes_1 rfl ?_
  refine ws_icmp_eq X d_M_pushes_2 (fun h2 => ?_) (fun h2 => ?_)
  · refine ws_iconst (v := 1) X d_M_pushes_27 rfl ?_
    refine ws_iret X d_M_pushes_28 ?_
    exact ⟨by simp [mPsh, eq_true h2], rfl⟩
  · refine ws_iload_n (i := 1) X d_M_pushes_5 rfl rfl ?_
    refine ws_bipush (v := 7) X d_M_pushes_6 rfl ?_
    refine ws_bipush (v := 10) X d_M_pushes_8 rfl ?_
    refine ws_callS1 X (m_M_in _ _ _ _) cs_M_in ml_M_106 rfl rfl (Nat.le_of_ble_eq_true rfl) ⟨Nat.le_of_ble_eq_true rfl, Nat.le_of_ble_eq_true rfl⟩ ⟨Nat.zero_le _, Nat.zero_le _⟩ d_M_pushes_10 ?_
    refine ws_ifB_ne X d_M_pushes_13 (fun h13 => ?_) (fun h13 => ?_)
    · refine ws_iconst (v := 1) X d_M_pushes_27 rfl ?_
      refine ws_iret X d_M_pushes_28 ?_
      exact ⟨by simp [mPsh, eq_false h2, h13], rfl⟩
    · refine ws_iload_n (i := 1) X d_M_pushes_16 rfl rfl ?_
      refine ws_bipush (v := 16) X d_M_pushes_17 rfl ?_
      refine ws_bipush (v := 18) X d_M_pushes_19 rfl ?_
      refine ws_callS1 X (m_M_in _ _ _ _) cs_M_in ml_M_106 rfl rfl (Nat.le_of_ble_eq_true rfl) ⟨Nat.le_of_ble_eq_true rfl, Nat.le_of_ble_eq_true rfl⟩ ⟨Nat.zero_le _, Nat.zero_le _⟩ d_M_pushes_21 ?_
      refine ws_ifB_eq X d_M_pushes_24 (fun h24 => ?_) (fun h24 => ?_)
      · refine ws_iload_n (i := 1) X d_M_pushes_29 rfl rfl ?_
        refine ws_iconst (v := 2) X d_M_pushes_30 rfl ?_
        refine ws_icmp_eq X d_M_pushes_31 (fun h31 => ?_) (fun h31 => ?_)
        · refine ws_iconst (v := 2) X d_M_pushes_51 rfl ?_
          refine ws_iret X d_M_pushes_52 ?_
          exact ⟨by simp [mPsh, eq_false h2, h13, h24, eq_true h31], rfl⟩
        · refine ws_iload_n (i := 1) X d_M_pushes_34 rfl rfl ?_
          refine ws_bipush (v := 11) X d_M_pushes_35 rfl ?_
          refine ws_bipush (v := 15) X d_M_pushes_37 rfl ?_
          refine ws_callS1 X (m_M_in _ _ _ _) cs_M_in ml_M_106 rfl rfl (Nat.le_of_ble_eq_true rfl) ⟨Nat.le_of_ble_eq_true rfl, Nat.le_of_ble_eq_true rfl⟩ ⟨Nat.zero_le _, Nat.zero_le _⟩ d_M_pushes_39 ?_
          refine ws_ifB_ne X d_M_pushes_42 (fun h42 => ?_) (fun h42 => ?_)
          · refine ws_iconst (v := 2) X d_M_pushes_51 rfl ?_
            refine ws_iret X d_M_pushes_52 ?_
            exact ⟨by simp [mPsh, eq_false h2, h13, h24, eq_false h31, h42], rfl⟩
          · refine ws_iload_n (i := 1) X d_M_pushes_45 rfl rfl ?_
            refine ws_bipush (v := 22) X d_M_pushes_46 rfl ?_
            refine ws_icmp_le X d_M_pushes_48 (fun h48 => ?_) (fun h48 => ?_)
            · refine ws_iload_n (i := 1) X d_M_pushes_53 rfl rfl ?_
              refine ws_iconst (v := 3) X d_M_pushes_54 rfl ?_
              refine ws_icmp_ne X d_M_pushes_55 (fun h55 => ?_) (fun h55 => ?_)
              · refine ws_iload_n (i := 1) X d_M_pushes_67 rfl rfl ?_
                refine ws_iconst (v := 5) X d_M_pushes_68 rfl ?_
                refine ws_icmp_ne X d_M_pushes_69 (fun h69 => ?_) (fun h69 => ?_)
                · refine ws_iload_n (i := 1) X d_M_pushes_76 rfl rfl ?_
                  refine ws_bipush (v := 21) X d_M_pushes_77 rfl ?_
                  refine ws_icmp_ne X d_M_pushes_79 (fun h79 => ?_) (fun h79 => ?_)
                  · refine ws_iconst (v := 0) X d_M_pushes_91 rfl ?_
                    refine ws_iret X d_M_pushes_92 ?_
                    exact ⟨by simp [mPsh, eq_false h2, h13, h24, eq_false h31, h42, eq_true h48, eq_false h55, eq_false h69, eq_false h79], rfl⟩
                  · refine ws_aload_n (i := 0) X d_M_pushes_82 rfl rfl ?_
                    refine ws_getR X fl_M_39 ob8 d_M_pushes_83 ?_
                    refine ws_iload_n (i := 2) X d_M_pushes_86 rfl rfl ?_
                    refine ws_iald X ak33 ob33 (by first | exact h3' (by assumption) | exact h5' (by assumption)) d_M_pushes_87 ?_
                    refine ws_goto X d_M_pushes_88 ?_
                    refine ws_iret X d_M_pushes_92 ?_
                    exact ⟨by simp [mPsh, eq_false h2, h13, h24, eq_false h31, h42, eq_true h48, eq_false h55, eq_false h69, eq_true h79], rfl⟩
                · refine ws_iload_n (i := 3) X d_M_pushes_72 rfl rfl ?_
                  refine ws_goto X d_M_pushes_73 ?_
                  refine ws_iret X d_M_pushes_92 ?_
                  exact ⟨by simp [mPsh, eq_false h2, h13, h24, eq_false h31, h42, eq_true h48, eq_false h55, eq_true h69], rfl⟩
              · refine ws_aload_n (i := 0) X d_M_pushes_58 rfl rfl ?_
                refine ws_getR X fl_M_88 ob8 d_M_pushes_59 ?_
                refine ws_iload_n (i := 2) X d_M_pushes_62 rfl rfl ?_
                refine ws_iald X ak49 ob49 (by first | exact h3' (by assumption) | exact h5' (by assumption)) d_M_pushes_63 ?_
                refine ws_goto X d_M_pushes_64 ?_
                refine ws_iret X d_M_pushes_92 ?_
                exact ⟨by simp [mPsh, eq_false h2, h13, h24, eq_false h31, h42, eq_true h48, eq_true h55], rfl⟩
            · refine ws_iconst (v := 2) X d_M_pushes_51 rfl ?_
              refine ws_iret X d_M_pushes_52 ?_
              exact ⟨by simp [mPsh, eq_false h2, h13, h24, eq_false h31, h42, eq_false h48], rfl⟩
      · refine ws_iconst (v := 1) X d_M_pushes_27 rfl ?_
        refine ws_iret X d_M_pushes_28 ?_
        exact ⟨by simp [mPsh, eq_false h2, h13, h24], rfl⟩


