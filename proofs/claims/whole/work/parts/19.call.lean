/-! call -/
def call0 (S : MS) (m : Int32) (a b c : Int64) : MS := xmArg (xmArg (xmArg (xmEnter (xmPrep0 (wI S 0 0 6 (S.1 0 0 6 + 1)) m) m) m.toNatClampNeg 0 a) m.toNatClampNeg 1 b) m.toNatClampNeg 2 c
def call1 (tk : Nat → Nat) (S : MS) (m : Int32) (a b c : Int64) (k : Nat) : MS := xmRunEnd (runGo tk k (call0 S m a b c))
def failUp (S : MS) (q : Nat) : MS := if S.1 7 0 9 = 1 then wI S 4 q 7 (S.1 4 q 7 + 1) else if S.1 7 0 9 = 2 then wI S 4 q 7 (S.1 4 q 7 + 1) else S
def callXV (tk : Nat → Nat) (S : MS) (m : Int32) (a b c : Int64) (k : Int32) : Int32 := if okG S m = true then (if k < 1 then -102 else if k ≤ 1000 then (if asideM S m.toNatClampNeg = true then -103 else if (failUp (call1 tk S m a b c k.toNatClampNeg) m.toNatClampNeg).1 7 0 9 = 0 then 1 else 0) else -102) else -101
def callXS (tk : Nat → Nat) (S : MS) (m : Int32) (a b c : Int64) (k : Int32) : MS := if okG S m = true then (if k < 1 then S else if k ≤ 1000 then (if asideM S m.toNatClampNeg = true then S else failUp (call1 tk S m a b c k.toNatClampNeg) m.toNatClampNeg) else S) else S
theorem m_IF_call (S : MS) (m : Int32) (a b c : Int64) (k : Int32) (tk : Nat → Nat) (I : MS → Prop) (hI : ∀ S, I S → ¬ S.1 7 0 6 ≤ 0 → S.1 7 0 9 = 0 → opPre tk (xmStep S) ∧ I (xmOp (xmStep S) tk)) (hS : okG S m = true → asideM S m.toNatClampNeg = false → I (call0 S m a b c)) : MetE y_IF_call c_IF_call 10 ((some .int)) 6 162 [.inr (0, 0), .inl (.int m), .inl (.long a), .inl (.long b), .inl (.long c), .inl (.int k)] S (some (.inl (.int (callXV tk S m a b c k)))) (callXS tk S m a b c k) := by
  refine MetS.of (lv0 := [some (.inr (0, 0)), some (.inl (.int m)), some (.inl (.long a)), none, some (.inl (.long b)), none, some (.inl (.long c)), none, some (.inl (.int k)), none]) pn_IF rfl (Nat.le_of_ble_eq_true rfl) (fun p0 l0 e0 s0 m0 args below meth c0 G X => ?_)
  rcases hm : okG S m with _ | _
  · refine ws_aload_n (i := 0) X d_IF_call_0 rfl rfl ?_
    refine ws_getR X fl_IF_19 ob0 d_IF_call_1 ?_
    refine ws_iload_n (i := 1) X d_IF_call_4 rfl rfl ?_
    refine ws_callV1 X (m_Prog_methodAt_n _ _ hm) cv_Prog_methodAt ml_IF_104 ob2 rfl rfl (Nat.le_of_ble_eq_true rfl) ⟨Nat.le_of_ble_eq_true rfl, Nat.le_of_ble_eq_true rfl⟩ ⟨Nat.zero_le _, Nat.zero_le _⟩ d_IF_call_5 ?_
    refine ws_aNst_9 X rfl d_IF_call_8 (by decide) ?_
    refine ws_aNload (i := 9) X d_IF_call_10 rfl ?_
    refine ws_ifnonnull_n X d_IF_call_12 ?_
    refine ws_bipush (v := (-101)) X d_IF_call_15 rfl ?_
    refine ws_iret X d_IF_call_17 ?_
    exact ⟨by simp [callXV, hm], by simp [callXS, hm]⟩
  · refine ws_aload_n (i := 0) X d_IF_call_0 rfl rfl ?_
    refine ws_getR X fl_IF_19 ob0 d_IF_call_1 ?_
    refine ws_iload_n (i := 1) X d_IF_call_4 rfl rfl ?_
    refine ws_callV1 X (m_Prog_methodAt_y _ _ hm) cv_Prog_methodAt ml_IF_104 ob2 rfl rfl (Nat.le_of_ble_eq_true rfl) ⟨Nat.le_of_ble_eq_true rfl, Nat.le_of_ble_eq_true rfl⟩ ⟨Nat.zero_le _, Nat.zero_le _⟩ d_IF_call_5 ?_
    have hq := okG_lt hm
    refine ws_ast_9 X rfl d_IF_call_8 (by decide) ?_
    refine ws_aload (i := 9) X d_IF_call_10 rfl ?_
    refine ws_ifnonnull_r X d_IF_call_12 ?_
    refine ws_iload (i := 8) X d_IF_call_18 rfl ?_
    refine ws_iconst (v := 1) X d_IF_call_20 rfl ?_
    refine ws_icmp_lt X d_IF_call_21 (fun h21 => ?_) (fun h21 => ?_)
    · refine ws_bipush (v := (-102)) X d_IF_call_32 rfl ?_
      refine ws_iret X d_IF_call_34 ?_
      exact ⟨by simp [callXV, hm, eq_true h21], by simp [callXS, hm, eq_true h21]⟩
    · refine ws_iload (i := 8) X d_IF_call_24 rfl ?_
      refine ws_sipush (v := 1000) X d_IF_call_26 rfl ?_
      refine ws_icmp_le X d_IF_call_29 (fun h29 => ?_) (fun h29 => ?_)
      · refine ws_aload (i := 9) X d_IF_call_35 rfl ?_
        refine ws_callV1 X (m_Meth_isAside _ _ (by assumption)) cv_Meth_isAside ml_IF_132 (ob4 (by assumption)) rfl rfl (Nat.le_of_ble_eq_true rfl) ⟨Nat.le_of_ble_eq_true rfl, Nat.le_of_ble_eq_true rfl⟩ ⟨Nat.zero_le _, Nat.zero_le _⟩ d_IF_call_37 ?_
        refine ws_ifB_eq X d_IF_call_40 (fun h40 => ?_) (fun h40 => ?_)
        · obtain ⟨n, hn, hk⟩ := nI_of2 (M := 1000) (n := 1000) rfl (fun z => h21 (Int32.lt_trans z (by decide))) h29
          have hc : (nI n).toNatClampNeg = n := nI_c (by omega)
          subst hk
          refine ws_aload_n (i := 0) X d_IF_call_46 rfl rfl ?_
          refine ws_dup X d_IF_call_47 rfl ?_
          refine ws_getI X fl_IF_67 ob0 d_IF_call_48 ?_
          refine ws_iconst (v := 1) X d_IF_call_51 rfl ?_
          refine ws_iadd X d_IF_call_52 ?_
          refine ws_putI X fl_IF_67 ob0 d_IF_call_53 ?_
          refine ws_aload_n (i := 0) X d_IF_call_56 rfl rfl ?_
          refine ws_getR X fl_IF_40 ob0 d_IF_call_57 ?_
          refine ws_iload_n (i := 1) X d_IF_call_60 rfl rfl ?_
          refine ws_callV0 X (m_Mach_prepare _ _) cv_Mach_prepare ml_IF_172 ob7 rfl rfl (Nat.le_of_ble_eq_true rfl) ⟨Nat.le_of_ble_eq_true rfl, Nat.le_of_ble_eq_true rfl⟩ ⟨Nat.zero_le _, Nat.zero_le _⟩ d_IF_call_61 ?_
          refine ws_aload_n (i := 0) X d_IF_call_64 rfl rfl ?_
          refine ws_getR X fl_IF_40 ob0 d_IF_call_65 ?_
          refine ws_aload (i := 9) X d_IF_call_68 rfl ?_
          refine ws_iconst (v := 0) X d_IF_call_70 rfl ?_
          refine ws_lload_n (i := 2) X d_IF_call_71 rfl rfl ?_
          refine ws_callV0 X (m_Mach_giveArgument _ _ (by assumption) _ _) cv_Mach_giveArgument ml_IF_175 ob7 rfl rfl (Nat.le_of_ble_eq_true rfl) ⟨Nat.le_of_ble_eq_true rfl, Nat.le_of_ble_eq_true rfl⟩ ⟨Nat.zero_le _, Nat.zero_le _⟩ d_IF_call_72 ?_
          refine ws_aload_n (i := 0) X d_IF_call_75 rfl rfl ?_
          refine ws_getR X fl_IF_40 ob0 d_IF_call_76 ?_
          refine ws_aload (i := 9) X d_IF_call_79 rfl ?_
          refine ws_iconst (v := 1) X d_IF_call_81 rfl ?_
          refine ws_lload (i := 4) X d_IF_call_82 rfl ?_
          refine ws_callV0 X (m_Mach_giveArgument _ _ (by assumption) _ _) cv_Mach_giveArgument ml_IF_175 ob7 rfl rfl (Nat.le_of_ble_eq_true rfl) ⟨Nat.le_of_ble_eq_true rfl, Nat.le_of_ble_eq_true rfl⟩ ⟨Nat.zero_le _, Nat.zero_le _⟩ d_IF_call_84 ?_
          refine ws_aload_n (i := 0) X d_IF_call_87 rfl rfl ?_
          refine ws_getR X fl_IF_40 ob0 d_IF_call_88 ?_
          refine ws_aload (i := 9) X d_IF_call_91 rfl ?_
          refine ws_iconst (v := 2) X d_IF_call_93 rfl ?_
          refine ws_lload (i := 6) X d_IF_call_94 rfl ?_
          refine ws_callV0 X (m_Mach_giveArgument _ _ (by assumption) _ _) cv_Mach_giveArgument ml_IF_175 ob7 rfl rfl (Nat.le_of_ble_eq_true rfl) ⟨Nat.le_of_ble_eq_true rfl, Nat.le_of_ble_eq_true rfl⟩ ⟨Nat.zero_le _, Nat.zero_le _⟩ d_IF_call_96 ?_
          show WS _ _ _ _ _ _ _ _ _ _ _ _ _ _ _ _ _ _ _ (call0 S m a b c)
          refine ws_aload_n (i := 0) X d_IF_call_99 rfl rfl ?_
          refine ws_getR X fl_IF_40 ob0 d_IF_call_100 ?_
          refine ws_aload_n (i := 0) X d_IF_call_103 rfl rfl ?_
          refine ws_getR X fl_IF_19 ob0 d_IF_call_104 ?_
          refine ws_iload (i := 8) X d_IF_call_107 rfl ?_
          refine ws_callV0 X (m_Mach_run _ tk n I hn hI (hS hm h40)) cv_Mach_run ml_IF_179 ob7 rfl rfl (Nat.le_of_ble_eq_true rfl) ⟨Nat.le_of_ble_eq_true rfl, Nat.le_of_ble_eq_true rfl⟩ ⟨Nat.zero_le _, Nat.zero_le _⟩ d_IF_call_109 ?_
          show WS _ _ _ _ _ _ _ _ _ _ _ _ _ _ _ _ _ _ _ (call1 tk S m a b c n)
          refine ws_aload_n (i := 0) X d_IF_call_112 rfl rfl ?_
          refine ws_getR X fl_IF_40 ob0 d_IF_call_113 ?_
          refine ws_getI X fl_IF_183 ob7 d_IF_call_116 ?_
          refine ws_iconst (v := 1) X d_IF_call_119 rfl ?_
          refine ws_icmp_eq X d_IF_call_120 (fun h120 => ?_) (fun h120 => ?_)
          · refine ws_aload (i := 9) X d_IF_call_134 rfl ?_
            refine ws_dup X d_IF_call_136 rfl ?_
            refine ws_getI X fl_IF_129 (ob4 (by assumption)) d_IF_call_137 ?_
            refine ws_iconst (v := 1) X d_IF_call_140 rfl ?_
            refine ws_iadd X d_IF_call_141 ?_
            refine ws_putI X fl_IF_129 (ob4 (by assumption)) d_IF_call_142 ?_
            refine ws_aload_n (i := 0) X d_IF_call_145 rfl rfl ?_
            refine ws_getR X fl_IF_40 ob0 d_IF_call_146 ?_
            refine ws_getI X fl_IF_183 ob7 d_IF_call_149 ?_
            refine ws_if_ne X d_IF_call_152 (fun h152 => ?_) (fun h152 => ?_)
            · refine ws_iconst (v := 0) X d_IF_call_159 rfl ?_
              refine ws_iret X d_IF_call_160 ?_
              exact ⟨by simp [callXV, failUp, hc, hm, eq_false h21, eq_true h29, h40, eq_true h120, eq_false h152], by simp [callXS, failUp, hc, hm, eq_false h21, eq_true h29, h40, eq_true h120, eq_false h152]⟩
            · refine ws_iconst (v := 1) X d_IF_call_155 rfl ?_
              refine ws_goto X d_IF_call_156 ?_
              refine ws_iret X d_IF_call_160 ?_
              exact ⟨by simp [callXV, failUp, hc, hm, eq_false h21, eq_true h29, h40, eq_true h120, eq_true h152], by simp [callXS, failUp, hc, hm, eq_false h21, eq_true h29, h40, eq_true h120, eq_true h152]⟩
          · refine ws_aload_n (i := 0) X d_IF_call_123 rfl rfl ?_
            refine ws_getR X fl_IF_40 ob0 d_IF_call_124 ?_
            refine ws_getI X fl_IF_183 ob7 d_IF_call_127 ?_
            refine ws_iconst (v := 2) X d_IF_call_130 rfl ?_
            refine ws_icmp_ne X d_IF_call_131 (fun h131 => ?_) (fun h131 => ?_)
            · refine ws_aload_n (i := 0) X d_IF_call_145 rfl rfl ?_
              refine ws_getR X fl_IF_40 ob0 d_IF_call_146 ?_
              refine ws_getI X fl_IF_183 ob7 d_IF_call_149 ?_
              refine ws_if_ne X d_IF_call_152 (fun h152 => ?_) (fun h152 => ?_)
              · refine ws_iconst (v := 0) X d_IF_call_159 rfl ?_
                refine ws_iret X d_IF_call_160 ?_
                exact ⟨by simp [callXV, failUp, hc, hm, eq_false h21, eq_true h29, h40, eq_false h120, eq_false h131, eq_false h152], by simp [callXS, failUp, hc, hm, eq_false h21, eq_true h29, h40, eq_false h120, eq_false h131, eq_false h152]⟩
              · refine ws_iconst (v := 1) X d_IF_call_155 rfl ?_
                refine ws_goto X d_IF_call_156 ?_
                refine ws_iret X d_IF_call_160 ?_
                exact ⟨by simp [callXV, failUp, hc, hm, eq_false h21, eq_true h29, h40, eq_false h120, eq_false h131, eq_true h152], by simp [callXS, failUp, hc, hm, eq_false h21, eq_true h29, h40, eq_false h120, eq_false h131, eq_true h152]⟩
            · refine ws_aload (i := 9) X d_IF_call_134 rfl ?_
              refine ws_dup X d_IF_call_136 rfl ?_
              refine ws_getI X fl_IF_129 (ob4 (by assumption)) d_IF_call_137 ?_
              refine ws_iconst (v := 1) X d_IF_call_140 rfl ?_
              refine ws_iadd X d_IF_call_141 ?_
              refine ws_putI X fl_IF_129 (ob4 (by assumption)) d_IF_call_142 ?_
              refine ws_aload_n (i := 0) X d_IF_call_145 rfl rfl ?_
              refine ws_getR X fl_IF_40 ob0 d_IF_call_146 ?_
              refine ws_getI X fl_IF_183 ob7 d_IF_call_149 ?_
              refine ws_if_ne X d_IF_call_152 (fun h152 => ?_) (fun h152 => ?_)
              · refine ws_iconst (v := 0) X d_IF_call_159 rfl ?_
                refine ws_iret X d_IF_call_160 ?_
                exact ⟨by simp [callXV, failUp, hc, hm, eq_false h21, eq_true h29, h40, eq_false h120, eq_true h131, eq_false h152], by simp [callXS, failUp, hc, hm, eq_false h21, eq_true h29, h40, eq_false h120, eq_true h131, eq_false h152]⟩
              · refine ws_iconst (v := 1) X d_IF_call_155 rfl ?_
                refine ws_goto X d_IF_call_156 ?_
                refine ws_iret X d_IF_call_160 ?_
                exact ⟨by simp [callXV, failUp, hc, hm, eq_false h21, eq_true h29, h40, eq_false h120, eq_true h131, eq_true h152], by simp [callXS, failUp, hc, hm, eq_false h21, eq_true h29, h40, eq_false h120, eq_true h131, eq_true h152]⟩
        · refine ws_bipush (v := (-103)) X d_IF_call_43 rfl ?_
          refine ws_iret X d_IF_call_45 ?_
          exact ⟨by simp [callXV, hm, eq_false h21, eq_true h29, h40], by simp [callXS, hm, eq_false h21, eq_true h29, h40]⟩
      · refine ws_bipush (v := (-102)) X d_IF_call_32 rfl ?_
        refine ws_iret X d_IF_call_34 ?_
        exact ⟨by simp [callXV, hm, eq_false h21, eq_false h29], by simp [callXS, hm, eq_false h21, eq_false h29]⟩


