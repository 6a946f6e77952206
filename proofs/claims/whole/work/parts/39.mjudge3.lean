/-! the model judges: words -/
def mWd (S : MS) (e : Nat) (n a b c : Int32) : Bool := decide (S.1 28 0 e = n) && decide (S.1 29 0 (8 * e) = a) && decide (S.1 29 0 (8 * e + 1) = b) && decide (S.1 29 0 (8 * e + 2) = c)
theorem m_M_isWord_3 (S : MS) (e : Nat) (he : e < 16) (a b c : Int32) : MetE y_M_isWord c_M_isWord 9 ((some .boolean)) 0 0 [.inr (8, 0), .inl (.int (nI e)), .inl (.int a), .inl (.int b), .inl (.int c), .inl (.int 0), .inl (.int 0)] S (some (.inl (.int (bI (mWd S e 3 a b c))))) (S) := by
  refine MetS.of (lv0 := [some (.inr (8, 0)), some (.inl (.int (nI e))), some (.inl (.int a)), some (.inl (.int b)), some (.inl (.int c)), some (.inl (.int 0)), some (.inl (.int 0)), none, none]) pn_M rfl (Nat.le_of_ble_eq_true rfl) (fun p0 l0 e0 s0 m0 args below meth c0 G X => ?_)
  have hc := nI_c (i := e) (by omega)
  have hine : vp_in (nI e) 16 := vp_in_nI he (by omega)
  have hx0 : (8 : Int32) * nI e = nI (8 * e) := by rw [show (8 : Int32) = nI 8 from rfl, pk_mul]
  have hx1 : nI (8 * e) + 1 = nI (8 * e + 1) := nI_1 _
  have hx2 : nI (8 * e) + 2 = nI (8 * e + 2) := by rw [show (2 : Int32) = nI 2 from rfl, nI_add]
  have hx3 : nI (8 * e) + 3 = nI (8 * e + 3) := by rw [show (3 : Int32) = nI 3 from rfl, nI_add]
  have hx4 : nI (8 * e) + 4 = nI (8 * e + 4) := by rw [show (4 : Int32) = nI 4 from rfl, nI_add]
  have hi0 : vp_in (nI (8 * e)) 128 := vp_in_nI (by omega) (by omega)
  have hi1 : vp_in (nI (8 * e + 1)) 128 := vp_in_nI (by omega) (by omega)
  have hi2 : vp_in (nI (8 * e + 2)) 128 := vp_in_nI (by omega) (by omega)
  have hi3 : vp_in (nI (8 * e + 3)) 128 := vp_in_nI (by omega) (by omega)
  have hi4 : vp_in (nI (8 * e + 4)) 128 := vp_in_nI (by omega) (by omega)
  have hc0 := nI_c (i := 8 * e) (by omega)
  have hc1 := nI_c (i := 8 * e + 1) (by omega)
  have hc2 := nI_c (i := 8 * e + 2) (by omega)
  have hc3 := nI_c (i := 8 * e + 3) (by omega)
  have hc4 := nI_c (i := 8 * e + 4) (by omega)
  refine ws_iload (i := 5) X d_M_isWord_0 rfl ?_
  refine ws_if_ne X d_M_isWord_2 (fun h2 => ?_) (fun h2 => ?_)
  · exact absurd rfl h2
  · refine ws_iconst (v := 3) X d_M_isWord_5 rfl ?_
    refine ws_goto X d_M_isWord_6 ?_
    refine ws_ist_7 X rfl d_M_isWord_19 (by decide) ?_
    refine ws_aload_n (i := 0) X d_M_isWord_21 rfl rfl ?_
    refine ws_getR X fl_M_24 ob8 d_M_isWord_22 ?_
    refine ws_iload_n (i := 1) X d_M_isWord_25 rfl rfl ?_
    refine ws_iald X ak28 ob28 (by assumption) d_M_isWord_26 ?_
    rw [hc]
    refine ws_iload (i := 7) X d_M_isWord_27 rfl ?_
    refine ws_icmp_ne X d_M_isWord_29 (fun h29 => ?_) (fun h29 => ?_)
    · refine ws_iconst (v := 0) X d_M_isWord_80 rfl ?_
      refine ws_ist_8 X rfl d_M_isWord_81 (by decide) ?_
      refine ws_iload (i := 8) X d_M_isWord_83 rfl ?_
      refine ws_if_eq X d_M_isWord_85 (fun h85 => ?_) (fun h85 => ?_)
      · refine ws_iconst (v := 0) X d_M_isWord_136 rfl ?_
        refine ws_zret X (rfl) d_M_isWord_137 ?_
        exact ⟨by simp [mWd, bI, eq_true h2, eq_false h29, eq_true h85], rfl⟩
      · exact absurd h85 (by decide)
    · refine ws_aload_n (i := 0) X d_M_isWord_32 rfl rfl ?_
      refine ws_getR X fl_M_27 ob8 d_M_isWord_33 ?_
      refine ws_bipush (v := 8) X d_M_isWord_36 rfl ?_
      refine ws_iload_n (i := 1) X d_M_isWord_38 rfl rfl ?_
      refine ws_imul X d_M_isWord_39 ?_
      rw [hx0]
      refine ws_iald X ak29 ob29 (by assumption) d_M_isWord_40 ?_
      rw [hc0]
      refine ws_iload_n (i := 2) X d_M_isWord_41 rfl rfl ?_
      refine ws_icmp_ne X d_M_isWord_42 (fun h42 => ?_) (fun h42 => ?_)
      · refine ws_iconst (v := 0) X d_M_isWord_80 rfl ?_
        refine ws_ist_8 X rfl d_M_isWord_81 (by decide) ?_
        refine ws_iload (i := 8) X d_M_isWord_83 rfl ?_
        refine ws_if_eq X d_M_isWord_85 (fun h85 => ?_) (fun h85 => ?_)
        · refine ws_iconst (v := 0) X d_M_isWord_136 rfl ?_
          refine ws_zret X (rfl) d_M_isWord_137 ?_
          exact ⟨by simp [mWd, bI, eq_true h2, eq_true h29, eq_false h42, eq_true h85], rfl⟩
        · exact absurd h85 (by decide)
      · refine ws_aload_n (i := 0) X d_M_isWord_45 rfl rfl ?_
        refine ws_getR X fl_M_27 ob8 d_M_isWord_46 ?_
        refine ws_bipush (v := 8) X d_M_isWord_49 rfl ?_
        refine ws_iload_n (i := 1) X d_M_isWord_51 rfl rfl ?_
        refine ws_imul X d_M_isWord_52 ?_
        rw [hx0]
        refine ws_iconst (v := 1) X d_M_isWord_53 rfl ?_
        refine ws_iadd X d_M_isWord_54 ?_
        rw [hx1]
        refine ws_iald X ak29 ob29 (by assumption) d_M_isWord_55 ?_
        rw [hc1]
        refine ws_iload_n (i := 3) X d_M_isWord_56 rfl rfl ?_
        refine ws_icmp_ne X d_M_isWord_57 (fun h57 => ?_) (fun h57 => ?_)
        · refine ws_iconst (v := 0) X d_M_isWord_80 rfl ?_
          refine ws_ist_8 X rfl d_M_isWord_81 (by decide) ?_
          refine ws_iload (i := 8) X d_M_isWord_83 rfl ?_
          refine ws_if_eq X d_M_isWord_85 (fun h85 => ?_) (fun h85 => ?_)
          · refine ws_iconst (v := 0) X d_M_isWord_136 rfl ?_
            refine ws_zret X (rfl) d_M_isWord_137 ?_
            exact ⟨by simp [mWd, bI, eq_true h2, eq_true h29, eq_true h42, eq_false h57, eq_true h85], rfl⟩
          · exact absurd h85 (by decide)
        · refine ws_aload_n (i := 0) X d_M_isWord_60 rfl rfl ?_
          refine ws_getR X fl_M_27 ob8 d_M_isWord_61 ?_
          refine ws_bipush (v := 8) X d_M_isWord_64 rfl ?_
          refine ws_iload_n (i := 1) X d_M_isWord_66 rfl rfl ?_
          refine ws_imul X d_M_isWord_67 ?_
          rw [hx0]
          refine ws_iconst (v := 2) X d_M_isWord_68 rfl ?_
          refine ws_iadd X d_M_isWord_69 ?_
          rw [hx2]
          refine ws_iald X ak29 ob29 (by assumption) d_M_isWord_70 ?_
          rw [hc2]
          refine ws_iload (i := 4) X d_M_isWord_71 rfl ?_
          refine ws_icmp_ne X d_M_isWord_73 (fun h73 => ?_) (fun h73 => ?_)
          · refine ws_iconst (v := 0) X d_M_isWord_80 rfl ?_
            refine ws_ist_8 X rfl d_M_isWord_81 (by decide) ?_
            refine ws_iload (i := 8) X d_M_isWord_83 rfl ?_
            refine ws_if_eq X d_M_isWord_85 (fun h85 => ?_) (fun h85 => ?_)
            · refine ws_iconst (v := 0) X d_M_isWord_136 rfl ?_
              refine ws_zret X (rfl) d_M_isWord_137 ?_
              exact ⟨by simp [mWd, bI, eq_true h2, eq_true h29, eq_true h42, eq_true h57, eq_false h73, eq_true h85], rfl⟩
            · exact absurd h85 (by decide)
          · refine ws_iconst (v := 1) X d_M_isWord_76 rfl ?_
            refine ws_goto X d_M_isWord_77 ?_
            refine ws_ist_8 X rfl d_M_isWord_81 (by decide) ?_
            refine ws_iload (i := 8) X d_M_isWord_83 rfl ?_
            refine ws_if_eq X d_M_isWord_85 (fun h85 => ?_) (fun h85 => ?_)
            · exact absurd h85 (by decide)
            · refine ws_iload (i := 7) X d_M_isWord_88 rfl ?_
              refine ws_iconst (v := 4) X d_M_isWord_90 rfl ?_
              refine ws_icmp_lt X d_M_isWord_91 (fun h91 => ?_) (fun h91 => ?_)
              · refine ws_iload (i := 7) X d_M_isWord_110 rfl ?_
                refine ws_iconst (v := 5) X d_M_isWord_112 rfl ?_
                refine ws_icmp_lt X d_M_isWord_113 (fun h113 => ?_) (fun h113 => ?_)
                · refine ws_iconst (v := 1) X d_M_isWord_132 rfl ?_
                  refine ws_goto X d_M_isWord_133 ?_
                  refine ws_zret X (rfl) d_M_isWord_137 ?_
                  exact ⟨by simp [mWd, bI, eq_true h2, eq_true h29, eq_true h42, eq_true h57, eq_true h73, eq_false h85, eq_true h91, eq_true h113], rfl⟩
                · exact absurd (by decide) h113
              · exact absurd (by decide) h91

theorem m_M_isWord_4 (S : MS) (e : Nat) (he : e < 16) (a b c d : Int32) (hd : ¬ d = 0) : MetE y_M_isWord c_M_isWord 9 ((some .boolean)) 0 0 [.inr (8, 0), .inl (.int (nI e)), .inl (.int a), .inl (.int b), .inl (.int c), .inl (.int d), .inl (.int 0)] S (some (.inl (.int (bI (mWd S e 4 a b c && decide (S.1 29 0 (8 * e + 3) = d)))))) (S) := by
  refine MetS.of (lv0 := [some (.inr (8, 0)), some (.inl (.int (nI e))), some (.inl (.int a)), some (.inl (.int b)), some (.inl (.int c)), some (.inl (.int d)), some (.inl (.int 0)), none, none]) pn_M rfl (Nat.le_of_ble_eq_true rfl) (fun p0 l0 e0 s0 m0 args below meth c0 G X => ?_)
  have hc := nI_c (i := e) (by omega)
  have hine : vp_in (nI e) 16 := vp_in_nI he (by omega)
  have hx0 : (8 : Int32) * nI e = nI (8 * e) := by rw [show (8 : Int32) = nI 8 from rfl, pk_mul]
  have hx1 : nI (8 * e) + 1 = nI (8 * e + 1) := nI_1 _
  have hx2 : nI (8 * e) + 2 = nI (8 * e + 2) := by rw [show (2 : Int32) = nI 2 from rfl, nI_add]
  have hx3 : nI (8 * e) + 3 = nI (8 * e + 3) := by rw [show (3 : Int32) = nI 3 from rfl, nI_add]
  have hx4 : nI (8 * e) + 4 = nI (8 * e + 4) := by rw [show (4 : Int32) = nI 4 from rfl, nI_add]
  have hi0 : vp_in (nI (8 * e)) 128 := vp_in_nI (by omega) (by omega)
  have hi1 : vp_in (nI (8 * e + 1)) 128 := vp_in_nI (by omega) (by omega)
  have hi2 : vp_in (nI (8 * e + 2)) 128 := vp_in_nI (by omega) (by omega)
  have hi3 : vp_in (nI (8 * e + 3)) 128 := vp_in_nI (by omega) (by omega)
  have hi4 : vp_in (nI (8 * e + 4)) 128 := vp_in_nI (by omega) (by omega)
  have hc0 := nI_c (i := 8 * e) (by omega)
  have hc1 := nI_c (i := 8 * e + 1) (by omega)
  have hc2 := nI_c (i := 8 * e + 2) (by omega)
  have hc3 := nI_c (i := 8 * e + 3) (by omega)
  have hc4 := nI_c (i := 8 * e + 4) (by omega)
  refine ws_iload (i := 5) X d_M_isWord_0 rfl ?_
  refine ws_if_ne X d_M_isWord_2 (fun h2 => ?_) (fun h2 => ?_)
  · refine ws_iload (i := 6) X d_M_isWord_9 rfl ?_
    refine ws_if_ne X d_M_isWord_11 (fun h11 => ?_) (fun h11 => ?_)
    · exact absurd rfl h11
    · refine ws_iconst (v := 4) X d_M_isWord_14 rfl ?_
      refine ws_goto X d_M_isWord_15 ?_
      refine ws_ist_7 X rfl d_M_isWord_19 (by decide) ?_
      refine ws_aload_n (i := 0) X d_M_isWord_21 rfl rfl ?_
      refine ws_getR X fl_M_24 ob8 d_M_isWord_22 ?_
      refine ws_iload_n (i := 1) X d_M_isWord_25 rfl rfl ?_
      refine ws_iald X ak28 ob28 (by assumption) d_M_isWord_26 ?_
      rw [hc]
      refine ws_iload (i := 7) X d_M_isWord_27 rfl ?_
      refine ws_icmp_ne X d_M_isWord_29 (fun h29 => ?_) (fun h29 => ?_)
      · refine ws_iconst (v := 0) X d_M_isWord_80 rfl ?_
        refine ws_ist_8 X rfl d_M_isWord_81 (by decide) ?_
        refine ws_iload (i := 8) X d_M_isWord_83 rfl ?_
        refine ws_if_eq X d_M_isWord_85 (fun h85 => ?_) (fun h85 => ?_)
        · refine ws_iconst (v := 0) X d_M_isWord_136 rfl ?_
          refine ws_zret X (rfl) d_M_isWord_137 ?_
          exact ⟨by simp [mWd, bI, eq_false h2, eq_true h11, eq_false h29, eq_true h85], rfl⟩
        · exact absurd h85 (by decide)
      · refine ws_aload_n (i := 0) X d_M_isWord_32 rfl rfl ?_
        refine ws_getR X fl_M_27 ob8 d_M_isWord_33 ?_
        refine ws_bipush (v := 8) X d_M_isWord_36 rfl ?_
        refine ws_iload_n (i := 1) X d_M_isWord_38 rfl rfl ?_
        refine ws_imul X d_M_isWord_39 ?_
        rw [hx0]
        refine ws_iald X ak29 ob29 (by assumption) d_M_isWord_40 ?_
        rw [hc0]
        refine ws_iload_n (i := 2) X d_M_isWord_41 rfl rfl ?_
        refine ws_icmp_ne X d_M_isWord_42 (fun h42 => ?_) (fun h42 => ?_)
        · refine ws_iconst (v := 0) X d_M_isWord_80 rfl ?_
          refine ws_ist_8 X rfl d_M_isWord_81 (by decide) ?_
          refine ws_iload (i := 8) X d_M_isWord_83 rfl ?_
          refine ws_if_eq X d_M_isWord_85 (fun h85 => ?_) (fun h85 => ?_)
          · refine ws_iconst (v := 0) X d_M_isWord_136 rfl ?_
            refine ws_zret X (rfl) d_M_isWord_137 ?_
            exact ⟨by simp [mWd, bI, eq_false h2, eq_true h11, eq_true h29, eq_false h42, eq_true h85], rfl⟩
          · exact absurd h85 (by decide)
        · refine ws_aload_n (i := 0) X d_M_isWord_45 rfl rfl ?_
          refine ws_getR X fl_M_27 ob8 d_M_isWord_46 ?_
          refine ws_bipush (v := 8) X d_M_isWord_49 rfl ?_
          refine ws_iload_n (i := 1) X d_M_isWord_51 rfl rfl ?_
          refine ws_imul X d_M_isWord_52 ?_
          rw [hx0]
          refine ws_iconst (v := 1) X d_M_isWord_53 rfl ?_
          refine ws_iadd X d_M_isWord_54 ?_
          rw [hx1]
          refine ws_iald X ak29 ob29 (by assumption) d_M_isWord_55 ?_
          rw [hc1]
          refine ws_iload_n (i := 3) X d_M_isWord_56 rfl rfl ?_
          refine ws_icmp_ne X d_M_isWord_57 (fun h57 => ?_) (fun h57 => ?_)
          · refine ws_iconst (v := 0) X d_M_isWord_80 rfl ?_
            refine ws_ist_8 X rfl d_M_isWord_81 (by decide) ?_
            refine ws_iload (i := 8) X d_M_isWord_83 rfl ?_
            refine ws_if_eq X d_M_isWord_85 (fun h85 => ?_) (fun h85 => ?_)
            · refine ws_iconst (v := 0) X d_M_isWord_136 rfl ?_
              refine ws_zret X (rfl) d_M_isWord_137 ?_
              exact ⟨by simp [mWd, bI, eq_false h2, eq_true h11, eq_true h29, eq_true h42, eq_false h57, eq_true h85], rfl⟩
            · exact absurd h85 (by decide)
          · refine ws_aload_n (i := 0) X d_M_isWord_60 rfl rfl ?_
            refine ws_getR X fl_M_27 ob8 d_M_isWord_61 ?_
            refine ws_bipush (v := 8) X d_M_isWord_64 rfl ?_
            refine ws_iload_n (i := 1) X d_M_isWord_66 rfl rfl ?_
            refine ws_imul X d_M_isWord_67 ?_
            rw [hx0]
            refine ws_iconst (v := 2) X d_M_isWord_68 rfl ?_
            refine ws_iadd X d_M_isWord_69 ?_
            rw [hx2]
            refine ws_iald X ak29 ob29 (by assumption) d_M_isWord_70 ?_
            rw [hc2]
            refine ws_iload (i := 4) X d_M_isWord_71 rfl ?_
            refine ws_icmp_ne X d_M_isWord_73 (fun h73 => ?_) (fun h73 => ?_)
            · refine ws_iconst (v := 0) X d_M_isWord_80 rfl ?_
              refine ws_ist_8 X rfl d_M_isWord_81 (by decide) ?_
              refine ws_iload (i := 8) X d_M_isWord_83 rfl ?_
              refine ws_if_eq X d_M_isWord_85 (fun h85 => ?_) (fun h85 => ?_)
              · refine ws_iconst (v := 0) X d_M_isWord_136 rfl ?_
                refine ws_zret X (rfl) d_M_isWord_137 ?_
                exact ⟨by simp [mWd, bI, eq_false h2, eq_true h11, eq_true h29, eq_true h42, eq_true h57, eq_false h73, eq_true h85], rfl⟩
              · exact absurd h85 (by decide)
            · refine ws_iconst (v := 1) X d_M_isWord_76 rfl ?_
              refine ws_goto X d_M_isWord_77 ?_
              refine ws_ist_8 X rfl d_M_isWord_81 (by decide) ?_
              refine ws_iload (i := 8) X d_M_isWord_83 rfl ?_
              refine ws_if_eq X d_M_isWord_85 (fun h85 => ?_) (fun h85 => ?_)
              · exact absurd h85 (by decide)
              · refine ws_iload (i := 7) X d_M_isWord_88 rfl ?_
                refine ws_iconst (v := 4) X d_M_isWord_90 rfl ?_
                refine ws_icmp_lt X d_M_isWord_91 (fun h91 => ?_) (fun h91 => ?_)
                · exact absurd h91 (by decide)
                · refine ws_aload_n (i := 0) X d_M_isWord_94 rfl rfl ?_
                  refine ws_getR X fl_M_27 ob8 d_M_isWord_95 ?_
                  refine ws_bipush (v := 8) X d_M_isWord_98 rfl ?_
                  refine ws_iload_n (i := 1) X d_M_isWord_100 rfl rfl ?_
                  refine ws_imul X d_M_isWord_101 ?_
                  rw [hx0]
                  refine ws_iconst (v := 3) X d_M_isWord_102 rfl ?_
                  refine ws_iadd X d_M_isWord_103 ?_
                  rw [hx3]
                  refine ws_iald X ak29 ob29 (by assumption) d_M_isWord_104 ?_
                  rw [hc3]
                  refine ws_iload (i := 5) X d_M_isWord_105 rfl ?_
                  refine ws_icmp_ne X d_M_isWord_107 (fun h107 => ?_) (fun h107 => ?_)
                  · refine ws_iconst (v := 0) X d_M_isWord_136 rfl ?_
                    refine ws_zret X (rfl) d_M_isWord_137 ?_
                    exact ⟨by simp [mWd, bI, eq_false h2, eq_true h11, eq_true h29, eq_true h42, eq_true h57, eq_true h73, eq_false h85, eq_false h91, eq_false h107], rfl⟩
                  · refine ws_iload (i := 7) X d_M_isWord_110 rfl ?_
                    refine ws_iconst (v := 5) X d_M_isWord_112 rfl ?_
                    refine ws_icmp_lt X d_M_isWord_113 (fun h113 => ?_) (fun h113 => ?_)
                    · refine ws_iconst (v := 1) X d_M_isWord_132 rfl ?_
                      refine ws_goto X d_M_isWord_133 ?_
                      refine ws_zret X (rfl) d_M_isWord_137 ?_
                      exact ⟨by simp [mWd, bI, eq_false h2, eq_true h11, eq_true h29, eq_true h42, eq_true h57, eq_true h73, eq_false h85, eq_false h91, eq_true h107, eq_true h113], rfl⟩
                    · exact absurd (by decide) h113
  · exact absurd h2 hd

theorem m_M_isWord_5 (S : MS) (e : Nat) (he : e < 16) (a b c d f : Int32) (hd : ¬ d = 0) (hf : ¬ f = 0) : MetE y_M_isWord c_M_isWord 9 ((some .boolean)) 0 0 [.inr (8, 0), .inl (.int (nI e)), .inl (.int a), .inl (.int b), .inl (.int c), .inl (.int d), .inl (.int f)] S (some (.inl (.int (bI (mWd S e 5 a b c && decide (S.1 29 0 (8 * e + 3) = d) && decide (S.1 29 0 (8 * e + 4) = f)))))) (S) := by
  refine MetS.of (lv0 := [some (.inr (8, 0)), some (.inl (.int (nI e))), some (.inl (.int a)), some (.inl (.int b)), some (.inl (.int c)), some (.inl (.int d)), some (.inl (.int f)), none, none]) pn_M rfl (Nat.le_of_ble_eq_true rfl) (fun p0 l0 e0 s0 m0 args below meth c0 G X => ?_)
  have hc := nI_c (i := e) (by omega)
  have hine : vp_in (nI e) 16 := vp_in_nI he (by omega)
  have hx0 : (8 : Int32) * nI e = nI (8 * e) := by rw [show (8 : Int32) = nI 8 from rfl, pk_mul]
  have hx1 : nI (8 * e) + 1 = nI (8 * e + 1) := nI_1 _
  have hx2 : nI (8 * e) + 2 = nI (8 * e + 2) := by rw [show (2 : Int32) = nI 2 from rfl, nI_add]
  have hx3 : nI (8 * e) + 3 = nI (8 * e + 3) := by rw [show (3 : Int32) = nI 3 from rfl, nI_add]
  have hx4 : nI (8 * e) + 4 = nI (8 * e + 4) := by rw [show (4 : Int32) = nI 4 from rfl, nI_add]
  have hi0 : vp_in (nI (8 * e)) 128 := vp_in_nI (by omega) (by omega)
  have hi1 : vp_in (nI (8 * e + 1)) 128 := vp_in_nI (by omega) (by omega)
  have hi2 : vp_in (nI (8 * e + 2)) 128 := vp_in_nI (by omega) (by omega)
  have hi3 : vp_in (nI (8 * e + 3)) 128 := vp_in_nI (by omega) (by omega)
  have hi4 : vp_in (nI (8 * e + 4)) 128 := vp_in_nI (by omega) (by omega)
  have hc0 := nI_c (i := 8 * e) (by omega)
  have hc1 := nI_c (i := 8 * e + 1) (by omega)
  have hc2 := nI_c (i := 8 * e + 2) (by omega)
  have hc3 := nI_c (i := 8 * e + 3) (by omega)
  have hc4 := nI_c (i := 8 * e + 4) (by omega)
  refine ws_iload (i := 5) X d_M_isWord_0 rfl ?_
  refine ws_if_ne X d_M_isWord_2 (fun h2 => ?_) (fun h2 => ?_)
  · refine ws_iload (i := 6) X d_M_isWord_9 rfl ?_
    refine ws_if_ne X d_M_isWord_11 (fun h11 => ?_) (fun h11 => ?_)
    · refine ws_iconst (v := 5) X d_M_isWord_18 rfl ?_
      refine ws_ist_7 X rfl d_M_isWord_19 (by decide) ?_
      refine ws_aload_n (i := 0) X d_M_isWord_21 rfl rfl ?_
      refine ws_getR X fl_M_24 ob8 d_M_isWord_22 ?_
      refine ws_iload_n (i := 1) X d_M_isWord_25 rfl rfl ?_
      refine ws_iald X ak28 ob28 (by assumption) d_M_isWord_26 ?_
      rw [hc]
      refine ws_iload (i := 7) X d_M_isWord_27 rfl ?_
      refine ws_icmp_ne X d_M_isWord_29 (fun h29 => ?_) (fun h29 => ?_)
      · refine ws_iconst (v := 0) X d_M_isWord_80 rfl ?_
        refine ws_ist_8 X rfl d_M_isWord_81 (by decide) ?_
        refine ws_iload (i := 8) X d_M_isWord_83 rfl ?_
        refine ws_if_eq X d_M_isWord_85 (fun h85 => ?_) (fun h85 => ?_)
        · refine ws_iconst (v := 0) X d_M_isWord_136 rfl ?_
          refine ws_zret X (rfl) d_M_isWord_137 ?_
          exact ⟨by simp [mWd, bI, eq_false h2, eq_false h11, eq_false h29, eq_true h85], rfl⟩
        · exact absurd h85 (by decide)
      · refine ws_aload_n (i := 0) X d_M_isWord_32 rfl rfl ?_
        refine ws_getR X fl_M_27 ob8 d_M_isWord_33 ?_
        refine ws_bipush (v := 8) X d_M_isWord_36 rfl ?_
        refine ws_iload_n (i := 1) X d_M_isWord_38 rfl rfl ?_
        refine ws_imul X d_M_isWord_39 ?_
        rw [hx0]
        refine ws_iald X ak29 ob29 (by assumption) d_M_isWord_40 ?_
        rw [hc0]
        refine ws_iload_n (i := 2) X d_M_isWord_41 rfl rfl ?_
        refine ws_icmp_ne X d_M_isWord_42 (fun h42 => ?_) (fun h42 => ?_)
        · refine ws_iconst (v := 0) X d_M_isWord_80 rfl ?_
          refine ws_ist_8 X rfl d_M_isWord_81 (by decide) ?_
          refine ws_iload (i := 8) X d_M_isWord_83 rfl ?_
          refine ws_if_eq X d_M_isWord_85 (fun h85 => ?_) (fun h85 => ?_)
          · refine ws_iconst (v := 0) X d_M_isWord_136 rfl ?_
            refine ws_zret X (rfl) d_M_isWord_137 ?_
            exact ⟨by simp [mWd, bI, eq_false h2, eq_false h11, eq_true h29, eq_false h42, eq_true h85], rfl⟩
          · exact absurd h85 (by decide)
        · refine ws_aload_n (i := 0) X d_M_isWord_45 rfl rfl ?_
          refine ws_getR X fl_M_27 ob8 d_M_isWord_46 ?_
          refine ws_bipush (v := 8) X d_M_isWord_49 rfl ?_
          refine ws_iload_n (i := 1) X d_M_isWord_51 rfl rfl ?_
          refine ws_imul X d_M_isWord_52 ?_
          rw [hx0]
          refine ws_iconst (v := 1) X d_M_isWord_53 rfl ?_
          refine ws_iadd X d_M_isWord_54 ?_
          rw [hx1]
          refine ws_iald X ak29 ob29 (by assumption) d_M_isWord_55 ?_
          rw [hc1]
          refine ws_iload_n (i := 3) X d_M_isWord_56 rfl rfl ?_
          refine ws_icmp_ne X d_M_isWord_57 (fun h57 => ?_) (fun h57 => ?_)
          · refine ws_iconst (v := 0) X d_M_isWord_80 rfl ?_
            refine ws_ist_8 X rfl d_M_isWord_81 (by decide) ?_
            refine ws_iload (i := 8) X d_M_isWord_83 rfl ?_
            refine ws_if_eq X d_M_isWord_85 (fun h85 => ?_) (fun h85 => ?_)
            · refine ws_iconst (v := 0) X d_M_isWord_136 rfl ?_
              refine ws_zret X (rfl) d_M_isWord_137 ?_
              exact ⟨by simp [mWd, bI, eq_false h2, eq_false h11, eq_true h29, eq_true h42, eq_false h57, eq_true h85], rfl⟩
            · exact absurd h85 (by decide)
          · refine ws_aload_n (i := 0) X d_M_isWord_60 rfl rfl ?_
            refine ws_getR X fl_M_27 ob8 d_M_isWord_61 ?_
            refine ws_bipush (v := 8) X d_M_isWord_64 rfl ?_
            refine ws_iload_n (i := 1) X d_M_isWord_66 rfl rfl ?_
            refine ws_imul X d_M_isWord_67 ?_
            rw [hx0]
            refine ws_iconst (v := 2) X d_M_isWord_68 rfl ?_
            refine ws_iadd X d_M_isWord_69 ?_
            rw [hx2]
            refine ws_iald X ak29 ob29 (by assumption) d_M_isWord_70 ?_
            rw [hc2]
            refine ws_iload (i := 4) X d_M_isWord_71 rfl ?_
            refine ws_icmp_ne X d_M_isWord_73 (fun h73 => ?_) (fun h73 => ?_)
            · refine ws_iconst (v := 0) X d_M_isWord_80 rfl ?_
              refine ws_ist_8 X rfl d_M_isWord_81 (by decide) ?_
              refine ws_iload (i := 8) X d_M_isWord_83 rfl ?_
              refine ws_if_eq X d_M_isWord_85 (fun h85 => ?_) (fun h85 => ?_)
              · refine ws_iconst (v := 0) X d_M_isWord_136 rfl ?_
                refine ws_zret X (rfl) d_M_isWord_137 ?_
                exact ⟨by simp [mWd, bI, eq_false h2, eq_false h11, eq_true h29, eq_true h42, eq_true h57, eq_false h73, eq_true h85], rfl⟩
              · exact absurd h85 (by decide)
            · refine ws_iconst (v := 1) X d_M_isWord_76 rfl ?_
              refine ws_goto X d_M_isWord_77 ?_
              refine ws_ist_8 X rfl d_M_isWord_81 (by decide) ?_
              refine ws_iload (i := 8) X d_M_isWord_83 rfl ?_
              refine ws_if_eq X d_M_isWord_85 (fun h85 => ?_) (fun h85 => ?_)
              · exact absurd h85 (by decide)
              · refine ws_iload (i := 7) X d_M_isWord_88 rfl ?_
                refine ws_iconst (v := 4) X d_M_isWord_90 rfl ?_
                refine ws_icmp_lt X d_M_isWord_91 (fun h91 => ?_) (fun h91 => ?_)
                · exact absurd h91 (by decide)
                · refine ws_aload_n (i := 0) X d_M_isWord_94 rfl rfl ?_
                  refine ws_getR X fl_M_27 ob8 d_M_isWord_95 ?_
                  refine ws_bipush (v := 8) X d_M_isWord_98 rfl ?_
                  refine ws_iload_n (i := 1) X d_M_isWord_100 rfl rfl ?_
                  refine ws_imul X d_M_isWord_101 ?_
                  rw [hx0]
                  refine ws_iconst (v := 3) X d_M_isWord_102 rfl ?_
                  refine ws_iadd X d_M_isWord_103 ?_
                  rw [hx3]
                  refine ws_iald X ak29 ob29 (by assumption) d_M_isWord_104 ?_
                  rw [hc3]
                  refine ws_iload (i := 5) X d_M_isWord_105 rfl ?_
                  refine ws_icmp_ne X d_M_isWord_107 (fun h107 => ?_) (fun h107 => ?_)
                  · refine ws_iconst (v := 0) X d_M_isWord_136 rfl ?_
                    refine ws_zret X (rfl) d_M_isWord_137 ?_
                    exact ⟨by simp [mWd, bI, eq_false h2, eq_false h11, eq_true h29, eq_true h42, eq_true h57, eq_true h73, eq_false h85, eq_false h91, eq_false h107], rfl⟩
                  · refine ws_iload (i := 7) X d_M_isWord_110 rfl ?_
                    refine ws_iconst (v := 5) X d_M_isWord_112 rfl ?_
                    refine ws_icmp_lt X d_M_isWord_113 (fun h113 => ?_) (fun h113 => ?_)
                    · exact absurd h113 (by decide)
                    · refine ws_aload_n (i := 0) X d_M_isWord_116 rfl rfl ?_
                      refine ws_getR X fl_M_27 ob8 d_M_isWord_117 ?_
                      refine ws_bipush (v := 8) X d_M_isWord_120 rfl ?_
                      refine ws_iload_n (i := 1) X d_M_isWord_122 rfl rfl ?_
                      refine ws_imul X d_M_isWord_123 ?_
                      rw [hx0]
                      refine ws_iconst (v := 4) X d_M_isWord_124 rfl ?_
                      refine ws_iadd X d_M_isWord_125 ?_
                      rw [hx4]
                      refine ws_iald X ak29 ob29 (by assumption) d_M_isWord_126 ?_
                      rw [hc4]
                      refine ws_iload (i := 6) X d_M_isWord_127 rfl ?_
                      refine ws_icmp_ne X d_M_isWord_129 (fun h129 => ?_) (fun h129 => ?_)
                      · refine ws_iconst (v := 0) X d_M_isWord_136 rfl ?_
                        refine ws_zret X (rfl) d_M_isWord_137 ?_
                        exact ⟨by simp [mWd, bI, eq_false h2, eq_false h11, eq_true h29, eq_true h42, eq_true h57, eq_true h73, eq_false h85, eq_false h91, eq_true h107, eq_false h113, eq_false h129], rfl⟩
                      · refine ws_iconst (v := 1) X d_M_isWord_132 rfl ?_
                        refine ws_goto X d_M_isWord_133 ?_
                        refine ws_zret X (rfl) d_M_isWord_137 ?_
                        exact ⟨by simp [mWd, bI, eq_false h2, eq_false h11, eq_true h29, eq_true h42, eq_true h57, eq_true h73, eq_false h85, eq_false h91, eq_true h107, eq_false h113, eq_true h129], rfl⟩
    · exact absurd h11 hf
  · exact absurd h2 hd

def mLst (S : MS) (e : Nat) : Bool := mWd S e 3 97 98 115 || (mWd S e 4 114 111 111 && decide (S.1 29 0 (8 * e + 3) = 116)) || (mWd S e 5 102 108 111 && decide (S.1 29 0 (8 * e + 3) = 111) && decide (S.1 29 0 (8 * e + 4) = 114)) || (mWd S e 4 115 105 103 && decide (S.1 29 0 (8 * e + 3) = 110))
theorem m_M_isListed (S : MS) (e : Nat) (he : e < 16) : MetE y_M_isListed c_M_isListed 2 ((some .boolean)) 1 28 [.inr (8, 0), .inl (.int (nI e))] S (some (.inl (.int (bI (mLst S e))))) (S) := by
  refine MetS.of (lv0 := [some (.inr (8, 0)), some (.inl (.int (nI e)))]) pn_M rfl (Nat.le_of_ble_eq_true rfl) (fun p0 l0 e0 s0 m0 args below meth c0 G X => ?_)
  refine ws_aload_n (i := 0) X d_M_isListed_0 rfl rfl ?_
  refine ws_iload_n (i := 1) X d_M_isListed_1 rfl rfl ?_
  refine ws_bipush (v := 97) X d_M_isListed_2 rfl ?_
  refine ws_bipush (v := 98) X d_M_isListed_4 rfl ?_
  refine ws_bipush (v := 115) X d_M_isListed_6 rfl ?_
  refine ws_iconst (v := 0) X d_M_isListed_8 rfl ?_
  refine ws_iconst (v := 0) X d_M_isListed_9 rfl ?_
  refine ws_callV1 X (m_M_isWord_3 S e he _ _ _) cv_M_isWord ml_M_209 ob8 rfl rfl (Nat.le_of_ble_eq_true rfl) ⟨Nat.le_of_ble_eq_true rfl, Nat.le_of_ble_eq_true rfl⟩ ⟨Nat.zero_le _, Nat.zero_le _⟩ d_M_isListed_10 ?_
  refine ws_ifB_ne X d_M_isListed_13 (fun h13 => ?_) (fun h13 => ?_)
  · refine ws_iconst (v := 1) X d_M_isListed_68 rfl ?_
    refine ws_goto X d_M_isListed_69 ?_
    refine ws_zret X (rfl) d_M_isListed_73 ?_
    exact ⟨by simp [mLst, bI, h13], rfl⟩
  · refine ws_aload_n (i := 0) X d_M_isListed_16 rfl rfl ?_
    refine ws_iload_n (i := 1) X d_M_isListed_17 rfl rfl ?_
    refine ws_bipush (v := 114) X d_M_isListed_18 rfl ?_
    refine ws_bipush (v := 111) X d_M_isListed_20 rfl ?_
    refine ws_bipush (v := 111) X d_M_isListed_22 rfl ?_
    refine ws_bipush (v := 116) X d_M_isListed_24 rfl ?_
    refine ws_iconst (v := 0) X d_M_isListed_26 rfl ?_
    refine ws_callV1 X (m_M_isWord_4 S e he _ _ _ _ (by decide)) cv_M_isWord ml_M_209 ob8 rfl rfl (Nat.le_of_ble_eq_true rfl) ⟨Nat.le_of_ble_eq_true rfl, Nat.le_of_ble_eq_true rfl⟩ ⟨Nat.zero_le _, Nat.zero_le _⟩ d_M_isListed_27 ?_
    refine ws_ifB_ne X d_M_isListed_30 (fun h30 => ?_) (fun h30 => ?_)
    · refine ws_iconst (v := 1) X d_M_isListed_68 rfl ?_
      refine ws_goto X d_M_isListed_69 ?_
      refine ws_zret X (rfl) d_M_isListed_73 ?_
      exact ⟨by simp [mLst, bI, h13, h30], rfl⟩
    · refine ws_aload_n (i := 0) X d_M_isListed_33 rfl rfl ?_
      refine ws_iload_n (i := 1) X d_M_isListed_34 rfl rfl ?_
      refine ws_bipush (v := 102) X d_M_isListed_35 rfl ?_
      refine ws_bipush (v := 108) X d_M_isListed_37 rfl ?_
      refine ws_bipush (v := 111) X d_M_isListed_39 rfl ?_
      refine ws_bipush (v := 111) X d_M_isListed_41 rfl ?_
      refine ws_bipush (v := 114) X d_M_isListed_43 rfl ?_
      refine ws_callV1 X (m_M_isWord_5 S e he _ _ _ _ _ (by decide) (by decide)) cv_M_isWord ml_M_209 ob8 rfl rfl (Nat.le_of_ble_eq_true rfl) ⟨Nat.le_of_ble_eq_true rfl, Nat.le_of_ble_eq_true rfl⟩ ⟨Nat.zero_le _, Nat.zero_le _⟩ d_M_isListed_45 ?_
      refine ws_ifB_ne X d_M_isListed_48 (fun h48 => ?_) (fun h48 => ?_)
      · refine ws_iconst (v := 1) X d_M_isListed_68 rfl ?_
        refine ws_goto X d_M_isListed_69 ?_
        refine ws_zret X (rfl) d_M_isListed_73 ?_
        exact ⟨by simp [mLst, bI, h13, h30, h48], rfl⟩
      · refine ws_aload_n (i := 0) X d_M_isListed_51 rfl rfl ?_
        refine ws_iload_n (i := 1) X d_M_isListed_52 rfl rfl ?_
        refine ws_bipush (v := 115) X d_M_isListed_53 rfl ?_
        refine ws_bipush (v := 105) X d_M_isListed_55 rfl ?_
        refine ws_bipush (v := 103) X d_M_isListed_57 rfl ?_
        refine ws_bipush (v := 110) X d_M_isListed_59 rfl ?_
        refine ws_iconst (v := 0) X d_M_isListed_61 rfl ?_
        refine ws_callV1 X (m_M_isWord_4 S e he _ _ _ _ (by decide)) cv_M_isWord ml_M_209 ob8 rfl rfl (Nat.le_of_ble_eq_true rfl) ⟨Nat.le_of_ble_eq_true rfl, Nat.le_of_ble_eq_true rfl⟩ ⟨Nat.zero_le _, Nat.zero_le _⟩ d_M_isListed_62 ?_
        refine ws_ifB_eq X d_M_isListed_65 (fun h65 => ?_) (fun h65 => ?_)
        · refine ws_iconst (v := 0) X d_M_isListed_72 rfl ?_
          refine ws_zret X (rfl) d_M_isListed_73 ?_
          exact ⟨by simp [mLst, bI, h13, h30, h48, h65], rfl⟩
        · refine ws_iconst (v := 1) X d_M_isListed_68 rfl ?_
          refine ws_goto X d_M_isListed_69 ?_
          refine ws_zret X (rfl) d_M_isListed_73 ?_
          exact ⟨by simp [mLst, bI, h13, h30, h48, h65], rfl⟩


