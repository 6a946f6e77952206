/-! Judge: the STACK of an OP, an OP, a METHOD -/
def jsR (S : MS) (q : Nat) (o f : Int32) (c : Nat) : Int32 × Int32 × Bool := jsGo (if o = 22 then S.1 4 q 2 else opTab 1 o) c (S.1 6 0 1) 0 (!(decide (o = 3)) || !(decide (kLocal (S.1 6 0 1) f = 0)))
def jstV (S : MS) (q : Nat) (o f : Int32) (c : Nat) : Int32 :=
  if opTab 0 o ≤ kDepth (S.1 6 0 1) then (if (jsR S q o f c).2.2 = true then (if o = 3 then pushV (wI S 6 0 1 (jsR S q o f c).1) q else if o = 4 then 0 else if o = 5 then pushV (wI S 6 0 1 (kPush (jsR S q o f c).1 (jsR S q o f c).2.1)) q else if opTab 2 o = 0 then 0 else pushV (wI S 6 0 1 (jsR S q o f c).1) q) else 16) else 15
def jstS (S : MS) (q : Nat) (o f : Int32) (c : Nat) : MS :=
  if opTab 0 o ≤ kDepth (S.1 6 0 1) then (if (jsR S q o f c).2.2 = true then (if o = 3 then pushS (wI S 6 0 1 (jsR S q o f c).1) q (kLocal (jsR S q o f c).1 f) else if o = 4 then wI S 6 0 1 (kWith (jsR S q o f c).1 f (jsR S q o f c).2.1) else if o = 5 then pushS (wI S 6 0 1 (kPush (jsR S q o f c).1 (jsR S q o f c).2.1)) q (jsR S q o f c).2.1 else if opTab 2 o = 0 then wI S 6 0 1 (jsR S q o f c).1 else pushS (wI S 6 0 1 (jsR S q o f c).1) q (opTab 2 o)) else wI S 6 0 1 (jsR S q o f c).1) else S
theorem wI_rd (S : MS) (k i j : Nat) (v : Int32) : (wI S k i j v).1 k i j = v := by rw [wI_at, if_pos rfl]
theorem m_Judge_judgeStack (S : MS) (q : Nat) (hq : q < 5) (o f : Int32) (c : Nat) (hc : opTab 0 o = nI c) (hc2 : c ≤ 2) : MetE y_Judge_judgeStack c_Judge_judgeStack 8 ((some .int)) 3 63 [.inr (6, 0), .inr (4, q), .inl (.int o), .inl (.int f)] S (some (.inl (.int (jstV S q o f c)))) (jstS S q o f c) := by
  refine MetS.of (lv0 := [some (.inr (6, 0)), some (.inr (4, q)), some (.inl (.int o)), some (.inl (.int f)), none, none, none, none]) pn_Judge rfl (Nat.le_of_ble_eq_true rfl) (fun p0 l0 e0 s0 m0 args below meth c0 G X => ?_)
  refine ws_aload_n (i := 0) X d_Judge_judgeStack_0 rfl rfl ?_
  refine ws_getI X fl_Judge_24 ob6 d_Judge_judgeStack_1 ?_
  refine ws_callS1 X (m_Kinds_depth _ _) cs_Kinds_depth ml_Judge_126 rfl rfl (Nat.le_of_ble_eq_true rfl) ⟨Nat.le_of_ble_eq_true rfl, Nat.le_of_ble_eq_true rfl⟩ ⟨Nat.zero_le _, Nat.zero_le _⟩ d_Judge_judgeStack_4 ?_
  refine ws_iload_n (i := 2) X d_Judge_judgeStack_7 rfl rfl ?_
  refine ws_callS1 X (m_Ops_taken _ _) cs_Ops_taken ml_Judge_146 rfl rfl (Nat.le_of_ble_eq_true rfl) ⟨Nat.le_of_ble_eq_true rfl, Nat.le_of_ble_eq_true rfl⟩ ⟨Nat.zero_le _, Nat.zero_le _⟩ d_Judge_judgeStack_8 ?_
  refine ws_icmp_ge X d_Judge_judgeStack_11 (fun h11 => ?_) (fun h11 => ?_)
  · refine ws_iload_n (i := 2) X d_Judge_judgeStack_17 rfl rfl ?_
    refine ws_bipush (v := 22) X d_Judge_judgeStack_18 rfl ?_
    refine ws_icmp_ne X d_Judge_judgeStack_20 (fun h20 => ?_) (fun h20 => ?_)
    · refine ws_iload_n (i := 2) X d_Judge_judgeStack_30 rfl rfl ?_
      refine ws_callS1 X (m_Ops_takenKind _ _) cs_Ops_takenKind ml_Judge_149 rfl rfl (Nat.le_of_ble_eq_true rfl) ⟨Nat.le_of_ble_eq_true rfl, Nat.le_of_ble_eq_true rfl⟩ ⟨Nat.zero_le _, Nat.zero_le _⟩ d_Judge_judgeStack_31 ?_
      refine ws_ist_4 X rfl d_Judge_judgeStack_34 (by decide) ?_
      refine ws_iconst (v := 0) X d_Judge_judgeStack_36 rfl ?_
      refine ws_ist_5 X rfl d_Judge_judgeStack_37 (by decide) ?_
      refine ws_iload_n (i := 2) X d_Judge_judgeStack_39 rfl rfl ?_
      refine ws_iconst (v := 3) X d_Judge_judgeStack_40 rfl ?_
      refine ws_icmp_ne X d_Judge_judgeStack_41 (fun h41 => ?_) (fun h41 => ?_)
      · refine ws_iconst (v := 1) X d_Judge_judgeStack_55 rfl ?_
        refine ws_goto X d_Judge_judgeStack_56 ?_
        refine ws_ist_6 X rfl d_Judge_judgeStack_60 (by decide) ?_
        refine ws_iconst (v := 0) X d_Judge_judgeStack_62 rfl ?_
        refine ws_ist_7 X rfl d_Judge_judgeStack_63 (by decide) ?_
        first | refine l_js X hc hc2 c 0 _ _ _ true _ (by omega) rfl (wI_self S 6 0 1).symm (fun j => ?_) | refine l_js X hc hc2 c 0 _ _ _ false _ (by omega) rfl (wI_self S 6 0 1).symm (fun j => ?_)
        refine ws_iload (i := 6) X d_Judge_judgeStack_110 rfl ?_
        refine ws_ifB_ne X d_Judge_judgeStack_112 (fun h112 => ?_) (fun h112 => ?_)
        · refine ws_iload_n (i := 2) X d_Judge_judgeStack_118 rfl rfl ?_
          refine ws_tsw X [(3, 144), (4, 158), (5, 174)] d_Judge_judgeStack_119 (fun j hj => by
              have hj2 : j < 3 := by omega
              match j, hj2 with
              | 0, _ => exact ⟨_, 144, rfl, rfl, by decide⟩
              | 1, _ => exact ⟨_, 158, rfl, rfl, by decide⟩
              | 2, _ => exact ⟨_, 174, rfl, rfl, by decide⟩) (tgt := 195) rfl (And.intro (fun h119 => ?_) (And.intro (fun h119 => ?_) (And.intro (fun h119 => ?_) (trivial)))) (fun h119 => ?_)
          · have h119 : o = 3 := h119
            subst h119
            refine ws_aload_n (i := 0) X d_Judge_judgeStack_144 rfl rfl ?_
            refine ws_aload_n (i := 1) X d_Judge_judgeStack_145 rfl rfl ?_
            refine ws_aload_n (i := 0) X d_Judge_judgeStack_146 rfl rfl ?_
            refine ws_getI X fl_Judge_24 ob6 d_Judge_judgeStack_147 ?_
            rw [wI_rd]
            refine ws_iload_n (i := 3) X d_Judge_judgeStack_150 rfl rfl ?_
            refine ws_callS1 X (m_Kinds_local _ _ _) cs_Kinds_local ml_Judge_150 rfl rfl (Nat.le_of_ble_eq_true rfl) ⟨Nat.le_of_ble_eq_true rfl, Nat.le_of_ble_eq_true rfl⟩ ⟨Nat.zero_le _, Nat.zero_le _⟩ d_Judge_judgeStack_151 ?_
            refine ws_callV1 X (m_Judge_push _ _ (by assumption) _) cv_Judge_push ml_Judge_142 ob6 rfl rfl (Nat.le_of_ble_eq_true rfl) ⟨Nat.le_of_ble_eq_true rfl, Nat.le_of_ble_eq_true rfl⟩ ⟨Nat.zero_le _, Nat.zero_le _⟩ d_Judge_judgeStack_154 ?_
            refine ws_iret X d_Judge_judgeStack_157 ?_
            first | exact absurd rfl h41 | exact absurd h41 (by decide) | exact absurd h20 (by decide) | exact ⟨by simp [jstV, jsR, eq_true h11, eq_false h20, eq_false h41, h112], by simp [jstS, jsR, eq_true h11, eq_false h20, eq_false h41, h112]⟩
          · have h119 : o = 4 := h119
            subst h119
            refine ws_aload_n (i := 0) X d_Judge_judgeStack_158 rfl rfl ?_
            refine ws_aload_n (i := 0) X d_Judge_judgeStack_159 rfl rfl ?_
            refine ws_getI X fl_Judge_24 ob6 d_Judge_judgeStack_160 ?_
            rw [wI_rd]
            refine ws_iload_n (i := 3) X d_Judge_judgeStack_163 rfl rfl ?_
            refine ws_iload (i := 5) X d_Judge_judgeStack_164 rfl ?_
            refine ws_callS1 X (m_Kinds_withLocal _ _ _ _) cs_Kinds_withLocal ml_Judge_154 rfl rfl (Nat.le_of_ble_eq_true rfl) ⟨Nat.le_of_ble_eq_true rfl, Nat.le_of_ble_eq_true rfl⟩ ⟨Nat.zero_le _, Nat.zero_le _⟩ d_Judge_judgeStack_166 ?_
            refine ws_putI X fl_Judge_24 ob6 d_Judge_judgeStack_169 ?_
            rw [wI_wI]
            refine ws_iconst (v := 0) X d_Judge_judgeStack_172 rfl ?_
            refine ws_iret X d_Judge_judgeStack_173 ?_
            first | exact absurd rfl h41 | exact absurd h41 (by decide) | exact absurd h20 (by decide) | exact ⟨by simp [jstV, jsR, eq_true h11, eq_false h20, eq_false h41, h112], by simp [jstS, jsR, eq_true h11, eq_false h20, eq_false h41, h112]⟩
          · have h119 : o = 5 := h119
            subst h119
            refine ws_aload_n (i := 0) X d_Judge_judgeStack_174 rfl rfl ?_
            refine ws_aload_n (i := 0) X d_Judge_judgeStack_175 rfl rfl ?_
            refine ws_getI X fl_Judge_24 ob6 d_Judge_judgeStack_176 ?_
            rw [wI_rd]
            refine ws_iload (i := 5) X d_Judge_judgeStack_179 rfl ?_
            refine ws_callS1 X (m_Kinds_push _ _ _) cs_Kinds_push ml_Judge_158 rfl rfl (Nat.le_of_ble_eq_true rfl) ⟨Nat.le_of_ble_eq_true rfl, Nat.le_of_ble_eq_true rfl⟩ ⟨Nat.zero_le _, Nat.zero_le _⟩ d_Judge_judgeStack_181 ?_
            refine ws_putI X fl_Judge_24 ob6 d_Judge_judgeStack_184 ?_
            rw [wI_wI]
            refine ws_aload_n (i := 0) X d_Judge_judgeStack_187 rfl rfl ?_
            refine ws_aload_n (i := 1) X d_Judge_judgeStack_188 rfl rfl ?_
            refine ws_iload (i := 5) X d_Judge_judgeStack_189 rfl ?_
            refine ws_callV1 X (m_Judge_push _ _ (by assumption) _) cv_Judge_push ml_Judge_142 ob6 rfl rfl (Nat.le_of_ble_eq_true rfl) ⟨Nat.le_of_ble_eq_true rfl, Nat.le_of_ble_eq_true rfl⟩ ⟨Nat.zero_le _, Nat.zero_le _⟩ d_Judge_judgeStack_191 ?_
            refine ws_iret X d_Judge_judgeStack_194 ?_
            first | exact absurd rfl h41 | exact absurd h41 (by decide) | exact absurd h20 (by decide) | exact ⟨by simp [jstV, jsR, eq_true h11, eq_false h20, eq_false h41, h112], by simp [jstS, jsR, eq_true h11, eq_false h20, eq_false h41, h112]⟩
          · have g3 : ¬ o = 3 := fun z => by rw [z] at h119; exact absurd h119 (by decide)
            have g4 : ¬ o = 4 := fun z => by rw [z] at h119; exact absurd h119 (by decide)
            have g5 : ¬ o = 5 := fun z => by rw [z] at h119; exact absurd h119 (by decide)
            refine ws_iload_n (i := 2) X d_Judge_judgeStack_195 rfl rfl ?_
            refine ws_callS1 X (m_Ops_pushedKind _ _) cs_Ops_pushedKind ml_Judge_160 rfl rfl (Nat.le_of_ble_eq_true rfl) ⟨Nat.le_of_ble_eq_true rfl, Nat.le_of_ble_eq_true rfl⟩ ⟨Nat.zero_le _, Nat.zero_le _⟩ d_Judge_judgeStack_196 ?_
            refine ws_if_ne X d_Judge_judgeStack_199 (fun h199 => ?_) (fun h199 => ?_)
            · refine ws_aload_n (i := 0) X d_Judge_judgeStack_206 rfl rfl ?_
              refine ws_aload_n (i := 1) X d_Judge_judgeStack_207 rfl rfl ?_
              refine ws_iload_n (i := 2) X d_Judge_judgeStack_208 rfl rfl ?_
              refine ws_callS1 X (m_Ops_pushedKind _ _) cs_Ops_pushedKind ml_Judge_160 rfl rfl (Nat.le_of_ble_eq_true rfl) ⟨Nat.le_of_ble_eq_true rfl, Nat.le_of_ble_eq_true rfl⟩ ⟨Nat.zero_le _, Nat.zero_le _⟩ d_Judge_judgeStack_209 ?_
              refine ws_callV1 X (m_Judge_push _ _ (by assumption) _) cv_Judge_push ml_Judge_142 ob6 rfl rfl (Nat.le_of_ble_eq_true rfl) ⟨Nat.le_of_ble_eq_true rfl, Nat.le_of_ble_eq_true rfl⟩ ⟨Nat.zero_le _, Nat.zero_le _⟩ d_Judge_judgeStack_212 ?_
              refine ws_iret X d_Judge_judgeStack_215 ?_
              first | exact absurd h41 g3 | exact ⟨by simp [jstV, jsR, g3, g4, g5, eq_true h11, eq_false h20, eq_false h41, h112, eq_false h199], by simp [jstS, jsR, g3, g4, g5, eq_true h11, eq_false h20, eq_false h41, h112, eq_false h199]⟩
            · refine ws_iconst (v := 0) X d_Judge_judgeStack_202 rfl ?_
              refine ws_goto X d_Judge_judgeStack_203 ?_
              refine ws_iret X d_Judge_judgeStack_215 ?_
              first | exact absurd h41 g3 | exact ⟨by simp [jstV, jsR, g3, g4, g5, eq_true h11, eq_false h20, eq_false h41, h112, eq_true h199], by simp [jstS, jsR, g3, g4, g5, eq_true h11, eq_false h20, eq_false h41, h112, eq_true h199]⟩
        · refine ws_bipush (v := 16) X d_Judge_judgeStack_115 rfl ?_
          refine ws_iret X d_Judge_judgeStack_117 ?_
          exact ⟨by simp [jstV, jsR, eq_true h11, eq_false h20, eq_false h41, h112], by simp [jstS, jsR, eq_true h11, eq_false h20, eq_false h41, h112]⟩
      · refine ws_aload_n (i := 0) X d_Judge_judgeStack_44 rfl rfl ?_
        refine ws_getI X fl_Judge_24 ob6 d_Judge_judgeStack_45 ?_
        refine ws_iload_n (i := 3) X d_Judge_judgeStack_48 rfl rfl ?_
        refine ws_callS1 X (m_Kinds_local _ _ _) cs_Kinds_local ml_Judge_150 rfl rfl (Nat.le_of_ble_eq_true rfl) ⟨Nat.le_of_ble_eq_true rfl, Nat.le_of_ble_eq_true rfl⟩ ⟨Nat.zero_le _, Nat.zero_le _⟩ d_Judge_judgeStack_49 ?_
        refine ws_if_eq X d_Judge_judgeStack_52 (fun h52 => ?_) (fun h52 => ?_)
        · refine ws_iconst (v := 0) X d_Judge_judgeStack_59 rfl ?_
          refine ws_ist_6 X rfl d_Judge_judgeStack_60 (by decide) ?_
          refine ws_iconst (v := 0) X d_Judge_judgeStack_62 rfl ?_
          refine ws_ist_7 X rfl d_Judge_judgeStack_63 (by decide) ?_
          first | refine l_js X hc hc2 c 0 _ _ _ true _ (by omega) rfl (wI_self S 6 0 1).symm (fun j => ?_) | refine l_js X hc hc2 c 0 _ _ _ false _ (by omega) rfl (wI_self S 6 0 1).symm (fun j => ?_)
          refine ws_iload (i := 6) X d_Judge_judgeStack_110 rfl ?_
          refine ws_ifB_ne X d_Judge_judgeStack_112 (fun h112 => ?_) (fun h112 => ?_)
          · refine ws_iload_n (i := 2) X d_Judge_judgeStack_118 rfl rfl ?_
            refine ws_tsw X [(3, 144), (4, 158), (5, 174)] d_Judge_judgeStack_119 (fun j hj => by
                have hj2 : j < 3 := by omega
                match j, hj2 with
                | 0, _ => exact ⟨_, 144, rfl, rfl, by decide⟩
                | 1, _ => exact ⟨_, 158, rfl, rfl, by decide⟩
                | 2, _ => exact ⟨_, 174, rfl, rfl, by decide⟩) (tgt := 195) rfl (And.intro (fun h119 => ?_) (And.intro (fun h119 => ?_) (And.intro (fun h119 => ?_) (trivial)))) (fun h119 => ?_)
            · have h119 : o = 3 := h119
              subst h119
              refine ws_aload_n (i := 0) X d_Judge_judgeStack_144 rfl rfl ?_
              refine ws_aload_n (i := 1) X d_Judge_judgeStack_145 rfl rfl ?_
              refine ws_aload_n (i := 0) X d_Judge_judgeStack_146 rfl rfl ?_
              refine ws_getI X fl_Judge_24 ob6 d_Judge_judgeStack_147 ?_
              rw [wI_rd]
              refine ws_iload_n (i := 3) X d_Judge_judgeStack_150 rfl rfl ?_
              refine ws_callS1 X (m_Kinds_local _ _ _) cs_Kinds_local ml_Judge_150 rfl rfl (Nat.le_of_ble_eq_true rfl) ⟨Nat.le_of_ble_eq_true rfl, Nat.le_of_ble_eq_true rfl⟩ ⟨Nat.zero_le _, Nat.zero_le _⟩ d_Judge_judgeStack_151 ?_
              refine ws_callV1 X (m_Judge_push _ _ (by assumption) _) cv_Judge_push ml_Judge_142 ob6 rfl rfl (Nat.le_of_ble_eq_true rfl) ⟨Nat.le_of_ble_eq_true rfl, Nat.le_of_ble_eq_true rfl⟩ ⟨Nat.zero_le _, Nat.zero_le _⟩ d_Judge_judgeStack_154 ?_
              refine ws_iret X d_Judge_judgeStack_157 ?_
              first | exact absurd rfl h41 | exact absurd h41 (by decide) | exact absurd h20 (by decide) | exact ⟨by simp [jstV, jsR, eq_true h11, eq_false h20, eq_true h41, eq_true h52, h112], by simp [jstS, jsR, eq_true h11, eq_false h20, eq_true h41, eq_true h52, h112]⟩
            · have h119 : o = 4 := h119
              subst h119
              refine ws_aload_n (i := 0) X d_Judge_judgeStack_158 rfl rfl ?_
              refine ws_aload_n (i := 0) X d_Judge_judgeStack_159 rfl rfl ?_
              refine ws_getI X fl_Judge_24 ob6 d_Judge_judgeStack_160 ?_
              rw [wI_rd]
              refine ws_iload_n (i := 3) X d_Judge_judgeStack_163 rfl rfl ?_
              refine ws_iload (i := 5) X d_Judge_judgeStack_164 rfl ?_
              refine ws_callS1 X (m_Kinds_withLocal _ _ _ _) cs_Kinds_withLocal ml_Judge_154 rfl rfl (Nat.le_of_ble_eq_true rfl) ⟨Nat.le_of_ble_eq_true rfl, Nat.le_of_ble_eq_true rfl⟩ ⟨Nat.zero_le _, Nat.zero_le _⟩ d_Judge_judgeStack_166 ?_
              refine ws_putI X fl_Judge_24 ob6 d_Judge_judgeStack_169 ?_
              rw [wI_wI]
              refine ws_iconst (v := 0) X d_Judge_judgeStack_172 rfl ?_
              refine ws_iret X d_Judge_judgeStack_173 ?_
              first | exact absurd rfl h41 | exact absurd h41 (by decide) | exact absurd h20 (by decide) | exact ⟨by simp [jstV, jsR, eq_true h11, eq_false h20, eq_true h41, eq_true h52, h112], by simp [jstS, jsR, eq_true h11, eq_false h20, eq_true h41, eq_true h52, h112]⟩
            · have h119 : o = 5 := h119
              subst h119
              refine ws_aload_n (i := 0) X d_Judge_judgeStack_174 rfl rfl ?_
              refine ws_aload_n (i := 0) X d_Judge_judgeStack_175 rfl rfl ?_
              refine ws_getI X fl_Judge_24 ob6 d_Judge_judgeStack_176 ?_
              rw [wI_rd]
              refine ws_iload (i := 5) X d_Judge_judgeStack_179 rfl ?_
              refine ws_callS1 X (m_Kinds_push _ _ _) cs_Kinds_push ml_Judge_158 rfl rfl (Nat.le_of_ble_eq_true rfl) ⟨Nat.le_of_ble_eq_true rfl, Nat.le_of_ble_eq_true rfl⟩ ⟨Nat.zero_le _, Nat.zero_le _⟩ d_Judge_judgeStack_181 ?_
              refine ws_putI X fl_Judge_24 ob6 d_Judge_judgeStack_184 ?_
              rw [wI_wI]
              refine ws_aload_n (i := 0) X d_Judge_judgeStack_187 rfl rfl ?_
              refine ws_aload_n (i := 1) X d_Judge_judgeStack_188 rfl rfl ?_
              refine ws_iload (i := 5) X d_Judge_judgeStack_189 rfl ?_
              refine ws_callV1 X (m_Judge_push _ _ (by assumption) _) cv_Judge_push ml_Judge_142 ob6 rfl rfl (Nat.le_of_ble_eq_true rfl) ⟨Nat.le_of_ble_eq_true rfl, Nat.le_of_ble_eq_true rfl⟩ ⟨Nat.zero_le _, Nat.zero_le _⟩ d_Judge_judgeStack_191 ?_
              refine ws_iret X d_Judge_judgeStack_194 ?_
              first | exact absurd rfl h41 | exact absurd h41 (by decide) | exact absurd h20 (by decide) | exact ⟨by simp [jstV, jsR, eq_true h11, eq_false h20, eq_true h41, eq_true h52, h112], by simp [jstS, jsR, eq_true h11, eq_false h20, eq_true h41, eq_true h52, h112]⟩
            · have g3 : ¬ o = 3 := fun z => by rw [z] at h119; exact absurd h119 (by decide)
              have g4 : ¬ o = 4 := fun z => by rw [z] at h119; exact absurd h119 (by decide)
              have g5 : ¬ o = 5 := fun z => by rw [z] at h119; exact absurd h119 (by decide)
              refine ws_iload_n (i := 2) X d_Judge_judgeStack_195 rfl rfl ?_
              refine ws_callS1 X (m_Ops_pushedKind _ _) cs_Ops_pushedKind ml_Judge_160 rfl rfl (Nat.le_of_ble_eq_true rfl) ⟨Nat.le_of_ble_eq_true rfl, Nat.le_of_ble_eq_true rfl⟩ ⟨Nat.zero_le _, Nat.zero_le _⟩ d_Judge_judgeStack_196 ?_
              refine ws_if_ne X d_Judge_judgeStack_199 (fun h199 => ?_) (fun h199 => ?_)
              · refine ws_aload_n (i := 0) X d_Judge_judgeStack_206 rfl rfl ?_
                refine ws_aload_n (i := 1) X d_Judge_judgeStack_207 rfl rfl ?_
                refine ws_iload_n (i := 2) X d_Judge_judgeStack_208 rfl rfl ?_
                refine ws_callS1 X (m_Ops_pushedKind _ _) cs_Ops_pushedKind ml_Judge_160 rfl rfl (Nat.le_of_ble_eq_true rfl) ⟨Nat.le_of_ble_eq_true rfl, Nat.le_of_ble_eq_true rfl⟩ ⟨Nat.zero_le _, Nat.zero_le _⟩ d_Judge_judgeStack_209 ?_
                refine ws_callV1 X (m_Judge_push _ _ (by assumption) _) cv_Judge_push ml_Judge_142 ob6 rfl rfl (Nat.le_of_ble_eq_true rfl) ⟨Nat.le_of_ble_eq_true rfl, Nat.le_of_ble_eq_true rfl⟩ ⟨Nat.zero_le _, Nat.zero_le _⟩ d_Judge_judgeStack_212 ?_
                refine ws_iret X d_Judge_judgeStack_215 ?_
                first | exact absurd h41 g3 | exact ⟨by simp [jstV, jsR, g3, g4, g5, eq_true h11, eq_false h20, eq_true h41, eq_true h52, h112, eq_false h199], by simp [jstS, jsR, g3, g4, g5, eq_true h11, eq_false h20, eq_true h41, eq_true h52, h112, eq_false h199]⟩
              · refine ws_iconst (v := 0) X d_Judge_judgeStack_202 rfl ?_
                refine ws_goto X d_Judge_judgeStack_203 ?_
                refine ws_iret X d_Judge_judgeStack_215 ?_
                first | exact absurd h41 g3 | exact ⟨by simp [jstV, jsR, g3, g4, g5, eq_true h11, eq_false h20, eq_true h41, eq_true h52, h112, eq_true h199], by simp [jstS, jsR, g3, g4, g5, eq_true h11, eq_false h20, eq_true h41, eq_true h52, h112, eq_true h199]⟩
          · refine ws_bipush (v := 16) X d_Judge_judgeStack_115 rfl ?_
            refine ws_iret X d_Judge_judgeStack_117 ?_
            exact ⟨by simp [jstV, jsR, eq_true h11, eq_false h20, eq_true h41, eq_true h52, h112], by simp [jstS, jsR, eq_true h11, eq_false h20, eq_true h41, eq_true h52, h112]⟩
        · refine ws_iconst (v := 1) X d_Judge_judgeStack_55 rfl ?_
          refine ws_goto X d_Judge_judgeStack_56 ?_
          refine ws_ist_6 X rfl d_Judge_judgeStack_60 (by decide) ?_
          refine ws_iconst (v := 0) X d_Judge_judgeStack_62 rfl ?_
          refine ws_ist_7 X rfl d_Judge_judgeStack_63 (by decide) ?_
          first | refine l_js X hc hc2 c 0 _ _ _ true _ (by omega) rfl (wI_self S 6 0 1).symm (fun j => ?_) | refine l_js X hc hc2 c 0 _ _ _ false _ (by omega) rfl (wI_self S 6 0 1).symm (fun j => ?_)
          refine ws_iload (i := 6) X d_Judge_judgeStack_110 rfl ?_
          refine ws_ifB_ne X d_Judge_judgeStack_112 (fun h112 => ?_) (fun h112 => ?_)
          · refine ws_iload_n (i := 2) X d_Judge_judgeStack_118 rfl rfl ?_
            refine ws_tsw X [(3, 144), (4, 158), (5, 174)] d_Judge_judgeStack_119 (fun j hj => by
                have hj2 : j < 3 := by omega
                match j, hj2 with
                | 0, _ => exact ⟨_, 144, rfl, rfl, by decide⟩
                | 1, _ => exact ⟨_, 158, rfl, rfl, by decide⟩
                | 2, _ => exact ⟨_, 174, rfl, rfl, by decide⟩) (tgt := 195) rfl (And.intro (fun h119 => ?_) (And.intro (fun h119 => ?_) (And.intro (fun h119 => ?_) (trivial)))) (fun h119 => ?_)
            · have h119 : o = 3 := h119
              subst h119
              refine ws_aload_n (i := 0) X d_Judge_judgeStack_144 rfl rfl ?_
              refine ws_aload_n (i := 1) X d_Judge_judgeStack_145 rfl rfl ?_
              refine ws_aload_n (i := 0) X d_Judge_judgeStack_146 rfl rfl ?_
              refine ws_getI X fl_Judge_24 ob6 d_Judge_judgeStack_147 ?_
              rw [wI_rd]
              refine ws_iload_n (i := 3) X d_Judge_judgeStack_150 rfl rfl ?_
              refine ws_callS1 X (m_Kinds_local _ _ _) cs_Kinds_local ml_Judge_150 rfl rfl (Nat.le_of_ble_eq_true rfl) ⟨Nat.le_of_ble_eq_true rfl, Nat.le_of_ble_eq_true rfl⟩ ⟨Nat.zero_le _, Nat.zero_le _⟩ d_Judge_judgeStack_151 ?_
              refine ws_callV1 X (m_Judge_push _ _ (by assumption) _) cv_Judge_push ml_Judge_142 ob6 rfl rfl (Nat.le_of_ble_eq_true rfl) ⟨Nat.le_of_ble_eq_true rfl, Nat.le_of_ble_eq_true rfl⟩ ⟨Nat.zero_le _, Nat.zero_le _⟩ d_Judge_judgeStack_154 ?_
              refine ws_iret X d_Judge_judgeStack_157 ?_
              first | exact absurd rfl h41 | exact absurd h41 (by decide) | exact absurd h20 (by decide) | exact ⟨by simp [jstV, jsR, eq_true h11, eq_false h20, eq_true h41, eq_false h52, h112], by simp [jstS, jsR, eq_true h11, eq_false h20, eq_true h41, eq_false h52, h112]⟩
            · have h119 : o = 4 := h119
              subst h119
              refine ws_aload_n (i := 0) X d_Judge_judgeStack_158 rfl rfl ?_
              refine ws_aload_n (i := 0) X d_Judge_judgeStack_159 rfl rfl ?_
              refine ws_getI X fl_Judge_24 ob6 d_Judge_judgeStack_160 ?_
              rw [wI_rd]
              refine ws_iload_n (i := 3) X d_Judge_judgeStack_163 rfl rfl ?_
              refine ws_iload (i := 5) X d_Judge_judgeStack_164 rfl ?_
              refine ws_callS1 X (m_Kinds_withLocal _ _ _ _) cs_Kinds_withLocal ml_Judge_154 rfl rfl (Nat.le_of_ble_eq_true rfl) ⟨Nat.le_of_ble_eq_true rfl, Nat.le_of_ble_eq_true rfl⟩ ⟨Nat.zero_le _, Nat.zero_le _⟩ d_Judge_judgeStack_166 ?_
              refine ws_putI X fl_Judge_24 ob6 d_Judge_judgeStack_169 ?_
              rw [wI_wI]
              refine ws_iconst (v := 0) X d_Judge_judgeStack_172 rfl ?_
              refine ws_iret X d_Judge_judgeStack_173 ?_
              first | exact absurd rfl h41 | exact absurd h41 (by decide) | exact absurd h20 (by decide) | exact ⟨by simp [jstV, jsR, eq_true h11, eq_false h20, eq_true h41, eq_false h52, h112], by simp [jstS, jsR, eq_true h11, eq_false h20, eq_true h41, eq_false h52, h112]⟩
            · have h119 : o = 5 := h119
              subst h119
              refine ws_aload_n (i := 0) X d_Judge_judgeStack_174 rfl rfl ?_
              refine ws_aload_n (i := 0) X d_Judge_judgeStack_175 rfl rfl ?_
              refine ws_getI X fl_Judge_24 ob6 d_Judge_judgeStack_176 ?_
              rw [wI_rd]
              refine ws_iload (i := 5) X d_Judge_judgeStack_179 rfl ?_
              refine ws_callS1 X (m_Kinds_push _ _ _) cs_Kinds_push ml_Judge_158 rfl rfl (Nat.le_of_ble_eq_true rfl) ⟨Nat.le_of_ble_eq_true rfl, Nat.le_of_ble_eq_true rfl⟩ ⟨Nat.zero_le _, Nat.zero_le _⟩ d_Judge_judgeStack_181 ?_
              refine ws_putI X fl_Judge_24 ob6 d_Judge_judgeStack_184 ?_
              rw [wI_wI]
              refine ws_aload_n (i := 0) X d_Judge_judgeStack_187 rfl rfl ?_
              refine ws_aload_n (i := 1) X d_Judge_judgeStack_188 rfl rfl ?_
              refine ws_iload (i := 5) X d_Judge_judgeStack_189 rfl ?_
              refine ws_callV1 X (m_Judge_push _ _ (by assumption) _) cv_Judge_push ml_Judge_142 ob6 rfl rfl (Nat.le_of_ble_eq_true rfl) ⟨Nat.le_of_ble_eq_true rfl, Nat.le_of_ble_eq_true rfl⟩ ⟨Nat.zero_le _, Nat.zero_le _⟩ d_Judge_judgeStack_191 ?_
              refine ws_iret X d_Judge_judgeStack_194 ?_
              first | exact absurd rfl h41 | exact absurd h41 (by decide) | exact absurd h20 (by decide) | exact ⟨by simp [jstV, jsR, eq_true h11, eq_false h20, eq_true h41, eq_false h52, h112], by simp [jstS, jsR, eq_true h11, eq_false h20, eq_true h41, eq_false h52, h112]⟩
            · have g3 : ¬ o = 3 := fun z => by rw [z] at h119; exact absurd h119 (by decide)
              have g4 : ¬ o = 4 := fun z => by rw [z] at h119; exact absurd h119 (by decide)
              have g5 : ¬ o = 5 := fun z => by rw [z] at h119; exact absurd h119 (by decide)
              refine ws_iload_n (i := 2) X d_Judge_judgeStack_195 rfl rfl ?_
              refine ws_callS1 X (m_Ops_pushedKind _ _) cs_Ops_pushedKind ml_Judge_160 rfl rfl (Nat.le_of_ble_eq_true rfl) ⟨Nat.le_of_ble_eq_true rfl, Nat.le_of_ble_eq_true rfl⟩ ⟨Nat.zero_le _, Nat.zero_le _⟩ d_Judge_judgeStack_196 ?_
              refine ws_if_ne X d_Judge_judgeStack_199 (fun h199 => ?_) (fun h199 => ?_)
              · refine ws_aload_n (i := 0) X d_Judge_judgeStack_206 rfl rfl ?_
                refine ws_aload_n (i := 1) X d_Judge_judgeStack_207 rfl rfl ?_
                refine ws_iload_n (i := 2) X d_Judge_judgeStack_208 rfl rfl ?_
                refine ws_callS1 X (m_Ops_pushedKind _ _) cs_Ops_pushedKind ml_Judge_160 rfl rfl (Nat.le_of_ble_eq_true rfl) ⟨Nat.le_of_ble_eq_true rfl, Nat.le_of_ble_eq_true rfl⟩ ⟨Nat.zero_le _, Nat.zero_le _⟩ d_Judge_judgeStack_209 ?_
                refine ws_callV1 X (m_Judge_push _ _ (by assumption) _) cv_Judge_push ml_Judge_142 ob6 rfl rfl (Nat.le_of_ble_eq_true rfl) ⟨Nat.le_of_ble_eq_true rfl, Nat.le_of_ble_eq_true rfl⟩ ⟨Nat.zero_le _, Nat.zero_le _⟩ d_Judge_judgeStack_212 ?_
                refine ws_iret X d_Judge_judgeStack_215 ?_
                first | exact absurd h41 g3 | exact ⟨by simp [jstV, jsR, g3, g4, g5, eq_true h11, eq_false h20, eq_true h41, eq_false h52, h112, eq_false h199], by simp [jstS, jsR, g3, g4, g5, eq_true h11, eq_false h20, eq_true h41, eq_false h52, h112, eq_false h199]⟩
              · refine ws_iconst (v := 0) X d_Judge_judgeStack_202 rfl ?_
                refine ws_goto X d_Judge_judgeStack_203 ?_
                refine ws_iret X d_Judge_judgeStack_215 ?_
                first | exact absurd h41 g3 | exact ⟨by simp [jstV, jsR, g3, g4, g5, eq_true h11, eq_false h20, eq_true h41, eq_false h52, h112, eq_true h199], by simp [jstS, jsR, g3, g4, g5, eq_true h11, eq_false h20, eq_true h41, eq_false h52, h112, eq_true h199]⟩
          · refine ws_bipush (v := 16) X d_Judge_judgeStack_115 rfl ?_
            refine ws_iret X d_Judge_judgeStack_117 ?_
            exact ⟨by simp [jstV, jsR, eq_true h11, eq_false h20, eq_true h41, eq_false h52, h112], by simp [jstS, jsR, eq_true h11, eq_false h20, eq_true h41, eq_false h52, h112]⟩
    · refine ws_aload_n (i := 1) X d_Judge_judgeStack_23 rfl rfl ?_
      refine ws_getI X fl_Judge_139 (ob4 (by assumption)) d_Judge_judgeStack_24 ?_
      refine ws_goto X d_Judge_judgeStack_27 ?_
      refine ws_ist_4 X rfl d_Judge_judgeStack_34 (by decide) ?_
      refine ws_iconst (v := 0) X d_Judge_judgeStack_36 rfl ?_
      refine ws_ist_5 X rfl d_Judge_judgeStack_37 (by decide) ?_
      refine ws_iload_n (i := 2) X d_Judge_judgeStack_39 rfl rfl ?_
      refine ws_iconst (v := 3) X d_Judge_judgeStack_40 rfl ?_
      refine ws_icmp_ne X d_Judge_judgeStack_41 (fun h41 => ?_) (fun h41 => ?_)
      · refine ws_iconst (v := 1) X d_Judge_judgeStack_55 rfl ?_
        refine ws_goto X d_Judge_judgeStack_56 ?_
        refine ws_ist_6 X rfl d_Judge_judgeStack_60 (by decide) ?_
        refine ws_iconst (v := 0) X d_Judge_judgeStack_62 rfl ?_
        refine ws_ist_7 X rfl d_Judge_judgeStack_63 (by decide) ?_
        first | refine l_js X hc hc2 c 0 _ _ _ true _ (by omega) rfl (wI_self S 6 0 1).symm (fun j => ?_) | refine l_js X hc hc2 c 0 _ _ _ false _ (by omega) rfl (wI_self S 6 0 1).symm (fun j => ?_)
        refine ws_iload (i := 6) X d_Judge_judgeStack_110 rfl ?_
        refine ws_ifB_ne X d_Judge_judgeStack_112 (fun h112 => ?_) (fun h112 => ?_)
        · refine ws_iload_n (i := 2) X d_Judge_judgeStack_118 rfl rfl ?_
          refine ws_tsw X [(3, 144), (4, 158), (5, 174)] d_Judge_judgeStack_119 (fun j hj => by
              have hj2 : j < 3 := by omega
              match j, hj2 with
              | 0, _ => exact ⟨_, 144, rfl, rfl, by decide⟩
              | 1, _ => exact ⟨_, 158, rfl, rfl, by decide⟩
              | 2, _ => exact ⟨_, 174, rfl, rfl, by decide⟩) (tgt := 195) rfl (And.intro (fun h119 => ?_) (And.intro (fun h119 => ?_) (And.intro (fun h119 => ?_) (trivial)))) (fun h119 => ?_)
          · have h119 : o = 3 := h119
            subst h119
            refine ws_aload_n (i := 0) X d_Judge_judgeStack_144 rfl rfl ?_
            refine ws_aload_n (i := 1) X d_Judge_judgeStack_145 rfl rfl ?_
            refine ws_aload_n (i := 0) X d_Judge_judgeStack_146 rfl rfl ?_
            refine ws_getI X fl_Judge_24 ob6 d_Judge_judgeStack_147 ?_
            rw [wI_rd]
            refine ws_iload_n (i := 3) X d_Judge_judgeStack_150 rfl rfl ?_
            refine ws_callS1 X (m_Kinds_local _ _ _) cs_Kinds_local ml_Judge_150 rfl rfl (Nat.le_of_ble_eq_true rfl) ⟨Nat.le_of_ble_eq_true rfl, Nat.le_of_ble_eq_true rfl⟩ ⟨Nat.zero_le _, Nat.zero_le _⟩ d_Judge_judgeStack_151 ?_
            refine ws_callV1 X (m_Judge_push _ _ (by assumption) _) cv_Judge_push ml_Judge_142 ob6 rfl rfl (Nat.le_of_ble_eq_true rfl) ⟨Nat.le_of_ble_eq_true rfl, Nat.le_of_ble_eq_true rfl⟩ ⟨Nat.zero_le _, Nat.zero_le _⟩ d_Judge_judgeStack_154 ?_
            refine ws_iret X d_Judge_judgeStack_157 ?_
            first | exact absurd rfl h41 | exact absurd h41 (by decide) | exact absurd h20 (by decide) | exact ⟨by simp [jstV, jsR, eq_true h11, eq_true h20, eq_false h41, h112], by simp [jstS, jsR, eq_true h11, eq_true h20, eq_false h41, h112]⟩
          · have h119 : o = 4 := h119
            subst h119
            refine ws_aload_n (i := 0) X d_Judge_judgeStack_158 rfl rfl ?_
            refine ws_aload_n (i := 0) X d_Judge_judgeStack_159 rfl rfl ?_
            refine ws_getI X fl_Judge_24 ob6 d_Judge_judgeStack_160 ?_
            rw [wI_rd]
            refine ws_iload_n (i := 3) X d_Judge_judgeStack_163 rfl rfl ?_
            refine ws_iload (i := 5) X d_Judge_judgeStack_164 rfl ?_
            refine ws_callS1 X (m_Kinds_withLocal _ _ _ _) cs_Kinds_withLocal ml_Judge_154 rfl rfl (Nat.le_of_ble_eq_true rfl) ⟨Nat.le_of_ble_eq_true rfl, Nat.le_of_ble_eq_true rfl⟩ ⟨Nat.zero_le _, Nat.zero_le _⟩ d_Judge_judgeStack_166 ?_
            refine ws_putI X fl_Judge_24 ob6 d_Judge_judgeStack_169 ?_
            rw [wI_wI]
            refine ws_iconst (v := 0) X d_Judge_judgeStack_172 rfl ?_
            refine ws_iret X d_Judge_judgeStack_173 ?_
            first | exact absurd rfl h41 | exact absurd h41 (by decide) | exact absurd h20 (by decide) | exact ⟨by simp [jstV, jsR, eq_true h11, eq_true h20, eq_false h41, h112], by simp [jstS, jsR, eq_true h11, eq_true h20, eq_false h41, h112]⟩
          · have h119 : o = 5 := h119
            subst h119
            refine ws_aload_n (i := 0) X d_Judge_judgeStack_174 rfl rfl ?_
            refine ws_aload_n (i := 0) X d_Judge_judgeStack_175 rfl rfl ?_
            refine ws_getI X fl_Judge_24 ob6 d_Judge_judgeStack_176 ?_
            rw [wI_rd]
            refine ws_iload (i := 5) X d_Judge_judgeStack_179 rfl ?_
            refine ws_callS1 X (m_Kinds_push _ _ _) cs_Kinds_push ml_Judge_158 rfl rfl (Nat.le_of_ble_eq_true rfl) ⟨Nat.le_of_ble_eq_true rfl, Nat.le_of_ble_eq_true rfl⟩ ⟨Nat.zero_le _, Nat.zero_le _⟩ d_Judge_judgeStack_181 ?_
            refine ws_putI X fl_Judge_24 ob6 d_Judge_judgeStack_184 ?_
            rw [wI_wI]
            refine ws_aload_n (i := 0) X d_Judge_judgeStack_187 rfl rfl ?_
            refine ws_aload_n (i := 1) X d_Judge_judgeStack_188 rfl rfl ?_
            refine ws_iload (i := 5) X d_Judge_judgeStack_189 rfl ?_
            refine ws_callV1 X (m_Judge_push _ _ (by assumption) _) cv_Judge_push ml_Judge_142 ob6 rfl rfl (Nat.le_of_ble_eq_true rfl) ⟨Nat.le_of_ble_eq_true rfl, Nat.le_of_ble_eq_true rfl⟩ ⟨Nat.zero_le _, Nat.zero_le _⟩ d_Judge_judgeStack_191 ?_
            refine ws_iret X d_Judge_judgeStack_194 ?_
            first | exact absurd rfl h41 | exact absurd h41 (by decide) | exact absurd h20 (by decide) | exact ⟨by simp [jstV, jsR, eq_true h11, eq_true h20, eq_false h41, h112], by simp [jstS, jsR, eq_true h11, eq_true h20, eq_false h41, h112]⟩
          · have g3 : ¬ o = 3 := fun z => by rw [z] at h119; exact absurd h119 (by decide)
            have g4 : ¬ o = 4 := fun z => by rw [z] at h119; exact absurd h119 (by decide)
            have g5 : ¬ o = 5 := fun z => by rw [z] at h119; exact absurd h119 (by decide)
            refine ws_iload_n (i := 2) X d_Judge_judgeStack_195 rfl rfl ?_
            refine ws_callS1 X (m_Ops_pushedKind _ _) cs_Ops_pushedKind ml_Judge_160 rfl rfl (Nat.le_of_ble_eq_true rfl) ⟨Nat.le_of_ble_eq_true rfl, Nat.le_of_ble_eq_true rfl⟩ ⟨Nat.zero_le _, Nat.zero_le _⟩ d_Judge_judgeStack_196 ?_
            refine ws_if_ne X d_Judge_judgeStack_199 (fun h199 => ?_) (fun h199 => ?_)
            · refine ws_aload_n (i := 0) X d_Judge_judgeStack_206 rfl rfl ?_
              refine ws_aload_n (i := 1) X d_Judge_judgeStack_207 rfl rfl ?_
              refine ws_iload_n (i := 2) X d_Judge_judgeStack_208 rfl rfl ?_
              refine ws_callS1 X (m_Ops_pushedKind _ _) cs_Ops_pushedKind ml_Judge_160 rfl rfl (Nat.le_of_ble_eq_true rfl) ⟨Nat.le_of_ble_eq_true rfl, Nat.le_of_ble_eq_true rfl⟩ ⟨Nat.zero_le _, Nat.zero_le _⟩ d_Judge_judgeStack_209 ?_
              refine ws_callV1 X (m_Judge_push _ _ (by assumption) _) cv_Judge_push ml_Judge_142 ob6 rfl rfl (Nat.le_of_ble_eq_true rfl) ⟨Nat.le_of_ble_eq_true rfl, Nat.le_of_ble_eq_true rfl⟩ ⟨Nat.zero_le _, Nat.zero_le _⟩ d_Judge_judgeStack_212 ?_
              refine ws_iret X d_Judge_judgeStack_215 ?_
              first | exact absurd h41 g3 | exact ⟨by simp [jstV, jsR, g3, g4, g5, eq_true h11, eq_true h20, eq_false h41, h112, eq_false h199], by simp [jstS, jsR, g3, g4, g5, eq_true h11, eq_true h20, eq_false h41, h112, eq_false h199]⟩
            · refine ws_iconst (v := 0) X d_Judge_judgeStack_202 rfl ?_
              refine ws_goto X d_Judge_judgeStack_203 ?_
              refine ws_iret X d_Judge_judgeStack_215 ?_
              first | exact absurd h41 g3 | exact ⟨by simp [jstV, jsR, g3, g4, g5, eq_true h11, eq_true h20, eq_false h41, h112, eq_true h199], by simp [jstS, jsR, g3, g4, g5, eq_true h11, eq_true h20, eq_false h41, h112, eq_true h199]⟩
        · refine ws_bipush (v := 16) X d_Judge_judgeStack_115 rfl ?_
          refine ws_iret X d_Judge_judgeStack_117 ?_
          exact ⟨by simp [jstV, jsR, eq_true h11, eq_true h20, eq_false h41, h112], by simp [jstS, jsR, eq_true h11, eq_true h20, eq_false h41, h112]⟩
      · refine ws_aload_n (i := 0) X d_Judge_judgeStack_44 rfl rfl ?_
        refine ws_getI X fl_Judge_24 ob6 d_Judge_judgeStack_45 ?_
        refine ws_iload_n (i := 3) X d_Judge_judgeStack_48 rfl rfl ?_
        refine ws_callS1 X (m_Kinds_local _ _ _) cs_Kinds_local ml_Judge_150 rfl rfl (Nat.le_of_ble_eq_true rfl) ⟨Nat.le_of_ble_eq_true rfl, Nat.le_of_ble_eq_true rfl⟩ ⟨Nat.zero_le _, Nat.zero_le _⟩ d_Judge_judgeStack_49 ?_
        refine ws_if_eq X d_Judge_judgeStack_52 (fun h52 => ?_) (fun h52 => ?_)
        · refine ws_iconst (v := 0) X d_Judge_judgeStack_59 rfl ?_
          refine ws_ist_6 X rfl d_Judge_judgeStack_60 (by decide) ?_
          refine ws_iconst (v := 0) X d_Judge_judgeStack_62 rfl ?_
          refine ws_ist_7 X rfl d_Judge_judgeStack_63 (by decide) ?_
          first | refine l_js X hc hc2 c 0 _ _ _ true _ (by omega) rfl (wI_self S 6 0 1).symm (fun j => ?_) | refine l_js X hc hc2 c 0 _ _ _ false _ (by omega) rfl (wI_self S 6 0 1).symm (fun j => ?_)
          refine ws_iload (i := 6) X d_Judge_judgeStack_110 rfl ?_
          refine ws_ifB_ne X d_Judge_judgeStack_112 (fun h112 => ?_) (fun h112 => ?_)
          · refine ws_iload_n (i := 2) X d_Judge_judgeStack_118 rfl rfl ?_
            refine ws_tsw X [(3, 144), (4, 158), (5, 174)] d_Judge_judgeStack_119 (fun j hj => by
                have hj2 : j < 3 := by omega
                match j, hj2 with
                | 0, _ => exact ⟨_, 144, rfl, rfl, by decide⟩
                | 1, _ => exact ⟨_, 158, rfl, rfl, by decide⟩
                | 2, _ => exact ⟨_, 174, rfl, rfl, by decide⟩) (tgt := 195) rfl (And.intro (fun h119 => ?_) (And.intro (fun h119 => ?_) (And.intro (fun h119 => ?_) (trivial)))) (fun h119 => ?_)
            · have h119 : o = 3 := h119
              subst h119
              refine ws_aload_n (i := 0) X d_Judge_judgeStack_144 rfl rfl ?_
              refine ws_aload_n (i := 1) X d_Judge_judgeStack_145 rfl rfl ?_
              refine ws_aload_n (i := 0) X d_Judge_judgeStack_146 rfl rfl ?_
              refine ws_getI X fl_Judge_24 ob6 d_Judge_judgeStack_147 ?_
              rw [wI_rd]
              refine ws_iload_n (i := 3) X d_Judge_judgeStack_150 rfl rfl ?_
              refine ws_callS1 X (m_Kinds_local _ _ _) cs_Kinds_local ml_Judge_150 rfl rfl (Nat.le_of_ble_eq_true rfl) ⟨Nat.le_of_ble_eq_true rfl, Nat.le_of_ble_eq_true rfl⟩ ⟨Nat.zero_le _, Nat.zero_le _⟩ d_Judge_judgeStack_151 ?_
              refine ws_callV1 X (m_Judge_push _ _ (by assumption) _) cv_Judge_push ml_Judge_142 ob6 rfl rfl (Nat.le_of_ble_eq_true rfl) ⟨Nat.le_of_ble_eq_true rfl, Nat.le_of_ble_eq_true rfl⟩ ⟨Nat.zero_le _, Nat.zero_le _⟩ d_Judge_judgeStack_154 ?_
              refine ws_iret X d_Judge_judgeStack_157 ?_
              first | exact absurd rfl h41 | exact absurd h41 (by decide) | exact absurd h20 (by decide) | exact ⟨by simp [jstV, jsR, eq_true h11, eq_true h20, eq_true h41, eq_true h52, h112], by simp [jstS, jsR, eq_true h11, eq_true h20, eq_true h41, eq_true h52, h112]⟩
            · have h119 : o = 4 := h119
              subst h119
              refine ws_aload_n (i := 0) X d_Judge_judgeStack_158 rfl rfl ?_
              refine ws_aload_n (i := 0) X d_Judge_judgeStack_159 rfl rfl ?_
              refine ws_getI X fl_Judge_24 ob6 d_Judge_judgeStack_160 ?_
              rw [wI_rd]
              refine ws_iload_n (i := 3) X d_Judge_judgeStack_163 rfl rfl ?_
              refine ws_iload (i := 5) X d_Judge_judgeStack_164 rfl ?_
              refine ws_callS1 X (m_Kinds_withLocal _ _ _ _) cs_Kinds_withLocal ml_Judge_154 rfl rfl (Nat.le_of_ble_eq_true rfl) ⟨Nat.le_of_ble_eq_true rfl, Nat.le_of_ble_eq_true rfl⟩ ⟨Nat.zero_le _, Nat.zero_le _⟩ d_Judge_judgeStack_166 ?_
              refine ws_putI X fl_Judge_24 ob6 d_Judge_judgeStack_169 ?_
              rw [wI_wI]
              refine ws_iconst (v := 0) X d_Judge_judgeStack_172 rfl ?_
              refine ws_iret X d_Judge_judgeStack_173 ?_
              first | exact absurd rfl h41 | exact absurd h41 (by decide) | exact absurd h20 (by decide) | exact ⟨by simp [jstV, jsR, eq_true h11, eq_true h20, eq_true h41, eq_true h52, h112], by simp [jstS, jsR, eq_true h11, eq_true h20, eq_true h41, eq_true h52, h112]⟩
            · have h119 : o = 5 := h119
              subst h119
              refine ws_aload_n (i := 0) X d_Judge_judgeStack_174 rfl rfl ?_
              refine ws_aload_n (i := 0) X d_Judge_judgeStack_175 rfl rfl ?_
              refine ws_getI X fl_Judge_24 ob6 d_Judge_judgeStack_176 ?_
              rw [wI_rd]
              refine ws_iload (i := 5) X d_Judge_judgeStack_179 rfl ?_
              refine ws_callS1 X (m_Kinds_push _ _ _) cs_Kinds_push ml_Judge_158 rfl rfl (Nat.le_of_ble_eq_true rfl) ⟨Nat.le_of_ble_eq_true rfl, Nat.le_of_ble_eq_true rfl⟩ ⟨Nat.zero_le _, Nat.zero_le _⟩ d_Judge_judgeStack_181 ?_
              refine ws_putI X fl_Judge_24 ob6 d_Judge_judgeStack_184 ?_
              rw [wI_wI]
              refine ws_aload_n (i := 0) X d_Judge_judgeStack_187 rfl rfl ?_
              refine ws_aload_n (i := 1) X d_Judge_judgeStack_188 rfl rfl ?_
              refine ws_iload (i := 5) X d_Judge_judgeStack_189 rfl ?_
              refine ws_callV1 X (m_Judge_push _ _ (by assumption) _) cv_Judge_push ml_Judge_142 ob6 rfl rfl (Nat.le_of_ble_eq_true rfl) ⟨Nat.le_of_ble_eq_true rfl, Nat.le_of_ble_eq_true rfl⟩ ⟨Nat.zero_le _, Nat.zero_le _⟩ d_Judge_judgeStack_191 ?_
              refine ws_iret X d_Judge_judgeStack_194 ?_
              first | exact absurd rfl h41 | exact absurd h41 (by decide) | exact absurd h20 (by decide) | exact ⟨by simp [jstV, jsR, eq_true h11, eq_true h20, eq_true h41, eq_true h52, h112], by simp [jstS, jsR, eq_true h11, eq_true h20, eq_true h41, eq_true h52, h112]⟩
            · have g3 : ¬ o = 3 := fun z => by rw [z] at h119; exact absurd h119 (by decide)
              have g4 : ¬ o = 4 := fun z => by rw [z] at h119; exact absurd h119 (by decide)
              have g5 : ¬ o = 5 := fun z => by rw [z] at h119; exact absurd h119 (by decide)
              refine ws_iload_n (i := 2) X d_Judge_judgeStack_195 rfl rfl ?_
              refine ws_callS1 X (m_Ops_pushedKind _ _) cs_Ops_pushedKind ml_Judge_160 rfl rfl (Nat.le_of_ble_eq_true rfl) ⟨Nat.le_of_ble_eq_true rfl, Nat.le_of_ble_eq_true rfl⟩ ⟨Nat.zero_le _, Nat.zero_le _⟩ d_Judge_judgeStack_196 ?_
              refine ws_if_ne X d_Judge_judgeStack_199 (fun h199 => ?_) (fun h199 => ?_)
              · refine ws_aload_n (i := 0) X d_Judge_judgeStack_206 rfl rfl ?_
                refine ws_aload_n (i := 1) X d_Judge_judgeStack_207 rfl rfl ?_
                refine ws_iload_n (i := 2) X d_Judge_judgeStack_208 rfl rfl ?_
                refine ws_callS1 X (m_Ops_pushedKind _ _) cs_Ops_pushedKind ml_Judge_160 rfl rfl (Nat.le_of_ble_eq_true rfl) ⟨Nat.le_of_ble_eq_true rfl, Nat.le_of_ble_eq_true rfl⟩ ⟨Nat.zero_le _, Nat.zero_le _⟩ d_Judge_judgeStack_209 ?_
                refine ws_callV1 X (m_Judge_push _ _ (by assumption) _) cv_Judge_push ml_Judge_142 ob6 rfl rfl (Nat.le_of_ble_eq_true rfl) ⟨Nat.le_of_ble_eq_true rfl, Nat.le_of_ble_eq_true rfl⟩ ⟨Nat.zero_le _, Nat.zero_le _⟩ d_Judge_judgeStack_212 ?_
                refine ws_iret X d_Judge_judgeStack_215 ?_
                first | exact absurd h41 g3 | exact ⟨by simp [jstV, jsR, g3, g4, g5, eq_true h11, eq_true h20, eq_true h41, eq_true h52, h112, eq_false h199], by simp [jstS, jsR, g3, g4, g5, eq_true h11, eq_true h20, eq_true h41, eq_true h52, h112, eq_false h199]⟩
              · refine ws_iconst (v := 0) X d_Judge_judgeStack_202 rfl ?_
                refine ws_goto X d_Judge_judgeStack_203 ?_
                refine ws_iret X d_Judge_judgeStack_215 ?_
                first | exact absurd h41 g3 | exact ⟨by simp [jstV, jsR, g3, g4, g5, eq_true h11, eq_true h20, eq_true h41, eq_true h52, h112, eq_true h199], by simp [jstS, jsR, g3, g4, g5, eq_true h11, eq_true h20, eq_true h41, eq_true h52, h112, eq_true h199]⟩
          · refine ws_bipush (v := 16) X d_Judge_judgeStack_115 rfl ?_
            refine ws_iret X d_Judge_judgeStack_117 ?_
            exact ⟨by simp [jstV, jsR, eq_true h11, eq_true h20, eq_true h41, eq_true h52, h112], by simp [jstS, jsR, eq_true h11, eq_true h20, eq_true h41, eq_true h52, h112]⟩
        · refine ws_iconst (v := 1) X d_Judge_judgeStack_55 rfl ?_
          refine ws_goto X d_Judge_judgeStack_56 ?_
          refine ws_ist_6 X rfl d_Judge_judgeStack_60 (by decide) ?_
          refine ws_iconst (v := 0) X d_Judge_judgeStack_62 rfl ?_
          refine ws_ist_7 X rfl d_Judge_judgeStack_63 (by decide) ?_
          first | refine l_js X hc hc2 c 0 _ _ _ true _ (by omega) rfl (wI_self S 6 0 1).symm (fun j => ?_) | refine l_js X hc hc2 c 0 _ _ _ false _ (by omega) rfl (wI_self S 6 0 1).symm (fun j => ?_)
          refine ws_iload (i := 6) X d_Judge_judgeStack_110 rfl ?_
          refine ws_ifB_ne X d_Judge_judgeStack_112 (fun h112 => ?_) (fun h112 => ?_)
          · refine ws_iload_n (i := 2) X d_Judge_judgeStack_118 rfl rfl ?_
            refine ws_tsw X [(3, 144), (4, 158), (5, 174)] d_Judge_judgeStack_119 (fun j hj => by
                have hj2 : j < 3 := by omega
                match j, hj2 with
                | 0, _ => exact ⟨_, 144, rfl, rfl, by decide⟩
                | 1, _ => exact ⟨_, 158, rfl, rfl, by decide⟩
                | 2, _ => exact ⟨_, 174, rfl, rfl, by decide⟩) (tgt := 195) rfl (And.intro (fun h119 => ?_) (And.intro (fun h119 => ?_) (And.intro (fun h119 => ?_) (trivial)))) (fun h119 => ?_)
            · have h119 : o = 3 := h119
              subst h119
              refine ws_aload_n (i := 0) X d_Judge_judgeStack_144 rfl rfl ?_
              refine ws_aload_n (i := 1) X d_Judge_judgeStack_145 rfl rfl ?_
              refine ws_aload_n (i := 0) X d_Judge_judgeStack_146 rfl rfl ?_
              refine ws_getI X fl_Judge_24 ob6 d_Judge_judgeStack_147 ?_
              rw [wI_rd]
              refine ws_iload_n (i := 3) X d_Judge_judgeStack_150 rfl rfl ?_
              refine ws_callS1 X (m_Kinds_local _ _ _) cs_Kinds_local ml_Judge_150 rfl rfl (Nat.le_of_ble_eq_true rfl) ⟨Nat.le_of_ble_eq_true rfl, Nat.le_of_ble_eq_true rfl⟩ ⟨Nat.zero_le _, Nat.zero_le _⟩ d_Judge_judgeStack_151 ?_
              refine ws_callV1 X (m_Judge_push _ _ (by assumption) _) cv_Judge_push ml_Judge_142 ob6 rfl rfl (Nat.le_of_ble_eq_true rfl) ⟨Nat.le_of_ble_eq_true rfl, Nat.le_of_ble_eq_true rfl⟩ ⟨Nat.zero_le _, Nat.zero_le _⟩ d_Judge_judgeStack_154 ?_
              refine ws_iret X d_Judge_judgeStack_157 ?_
              first | exact absurd rfl h41 | exact absurd h41 (by decide) | exact absurd h20 (by decide) | exact ⟨by simp [jstV, jsR, eq_true h11, eq_true h20, eq_true h41, eq_false h52, h112], by simp [jstS, jsR, eq_true h11, eq_true h20, eq_true h41, eq_false h52, h112]⟩
            · have h119 : o = 4 := h119
              subst h119
              refine ws_aload_n (i := 0) X d_Judge_judgeStack_158 rfl rfl ?_
              refine ws_aload_n (i := 0) X d_Judge_judgeStack_159 rfl rfl ?_
              refine ws_getI X fl_Judge_24 ob6 d_Judge_judgeStack_160 ?_
              rw [wI_rd]
              refine ws_iload_n (i := 3) X d_Judge_judgeStack_163 rfl rfl ?_
              refine ws_iload (i := 5) X d_Judge_judgeStack_164 rfl ?_
              refine ws_callS1 X (m_Kinds_withLocal _ _ _ _) cs_Kinds_withLocal ml_Judge_154 rfl rfl (Nat.le_of_ble_eq_true rfl) ⟨Nat.le_of_ble_eq_true rfl, Nat.le_of_ble_eq_true rfl⟩ ⟨Nat.zero_le _, Nat.zero_le _⟩ d_Judge_judgeStack_166 ?_
              refine ws_putI X fl_Judge_24 ob6 d_Judge_judgeStack_169 ?_
              rw [wI_wI]
              refine ws_iconst (v := 0) X d_Judge_judgeStack_172 rfl ?_
              refine ws_iret X d_Judge_judgeStack_173 ?_
              first | exact absurd rfl h41 | exact absurd h41 (by decide) | exact absurd h20 (by decide) | exact ⟨by simp [jstV, jsR, eq_true h11, eq_true h20, eq_true h41, eq_false h52, h112], by simp [jstS, jsR, eq_true h11, eq_true h20, eq_true h41, eq_false h52, h112]⟩
            · have h119 : o = 5 := h119
              subst h119
              refine ws_aload_n (i := 0) X d_Judge_judgeStack_174 rfl rfl ?_
              refine ws_aload_n (i := 0) X d_Judge_judgeStack_175 rfl rfl ?_
              refine ws_getI X fl_Judge_24 ob6 d_Judge_judgeStack_176 ?_
              rw [wI_rd]
              refine ws_iload (i := 5) X d_Judge_judgeStack_179 rfl ?_
              refine ws_callS1 X (m_Kinds_push _ _ _) cs_Kinds_push ml_Judge_158 rfl rfl (Nat.le_of_ble_eq_true rfl) ⟨Nat.le_of_ble_eq_true rfl, Nat.le_of_ble_eq_true rfl⟩ ⟨Nat.zero_le _, Nat.zero_le _⟩ d_Judge_judgeStack_181 ?_
              refine ws_putI X fl_Judge_24 ob6 d_Judge_judgeStack_184 ?_
              rw [wI_wI]
              refine ws_aload_n (i := 0) X d_Judge_judgeStack_187 rfl rfl ?_
              refine ws_aload_n (i := 1) X d_Judge_judgeStack_188 rfl rfl ?_
              refine ws_iload (i := 5) X d_Judge_judgeStack_189 rfl ?_
              refine ws_callV1 X (m_Judge_push _ _ (by assumption) _) cv_Judge_push ml_Judge_142 ob6 rfl rfl (Nat.le_of_ble_eq_true rfl) ⟨Nat.le_of_ble_eq_true rfl, Nat.le_of_ble_eq_true rfl⟩ ⟨Nat.zero_le _, Nat.zero_le _⟩ d_Judge_judgeStack_191 ?_
              refine ws_iret X d_Judge_judgeStack_194 ?_
              first | exact absurd rfl h41 | exact absurd h41 (by decide) | exact absurd h20 (by decide) | exact ⟨by simp [jstV, jsR, eq_true h11, eq_true h20, eq_true h41, eq_false h52, h112], by simp [jstS, jsR, eq_true h11, eq_true h20, eq_true h41, eq_false h52, h112]⟩
            · have g3 : ¬ o = 3 := fun z => by rw [z] at h119; exact absurd h119 (by decide)
              have g4 : ¬ o = 4 := fun z => by rw [z] at h119; exact absurd h119 (by decide)
              have g5 : ¬ o = 5 := fun z => by rw [z] at h119; exact absurd h119 (by decide)
              refine ws_iload_n (i := 2) X d_Judge_judgeStack_195 rfl rfl ?_
              refine ws_callS1 X (m_Ops_pushedKind _ _) cs_Ops_pushedKind ml_Judge_160 rfl rfl (Nat.le_of_ble_eq_true rfl) ⟨Nat.le_of_ble_eq_true rfl, Nat.le_of_ble_eq_true rfl⟩ ⟨Nat.zero_le _, Nat.zero_le _⟩ d_Judge_judgeStack_196 ?_
              refine ws_if_ne X d_Judge_judgeStack_199 (fun h199 => ?_) (fun h199 => ?_)
              · refine ws_aload_n (i := 0) X d_Judge_judgeStack_206 rfl rfl ?_
                refine ws_aload_n (i := 1) X d_Judge_judgeStack_207 rfl rfl ?_
                refine ws_iload_n (i := 2) X d_Judge_judgeStack_208 rfl rfl ?_
                refine ws_callS1 X (m_Ops_pushedKind _ _) cs_Ops_pushedKind ml_Judge_160 rfl rfl (Nat.le_of_ble_eq_true rfl) ⟨Nat.le_of_ble_eq_true rfl, Nat.le_of_ble_eq_true rfl⟩ ⟨Nat.zero_le _, Nat.zero_le _⟩ d_Judge_judgeStack_209 ?_
                refine ws_callV1 X (m_Judge_push _ _ (by assumption) _) cv_Judge_push ml_Judge_142 ob6 rfl rfl (Nat.le_of_ble_eq_true rfl) ⟨Nat.le_of_ble_eq_true rfl, Nat.le_of_ble_eq_true rfl⟩ ⟨Nat.zero_le _, Nat.zero_le _⟩ d_Judge_judgeStack_212 ?_
                refine ws_iret X d_Judge_judgeStack_215 ?_
                first | exact absurd h41 g3 | exact ⟨by simp [jstV, jsR, g3, g4, g5, eq_true h11, eq_true h20, eq_true h41, eq_false h52, h112, eq_false h199], by simp [jstS, jsR, g3, g4, g5, eq_true h11, eq_true h20, eq_true h41, eq_false h52, h112, eq_false h199]⟩
              · refine ws_iconst (v := 0) X d_Judge_judgeStack_202 rfl ?_
                refine ws_goto X d_Judge_judgeStack_203 ?_
                refine ws_iret X d_Judge_judgeStack_215 ?_
                first | exact absurd h41 g3 | exact ⟨by simp [jstV, jsR, g3, g4, g5, eq_true h11, eq_true h20, eq_true h41, eq_false h52, h112, eq_true h199], by simp [jstS, jsR, g3, g4, g5, eq_true h11, eq_true h20, eq_true h41, eq_false h52, h112, eq_true h199]⟩
          · refine ws_bipush (v := 16) X d_Judge_judgeStack_115 rfl ?_
            refine ws_iret X d_Judge_judgeStack_117 ?_
            exact ⟨by simp [jstV, jsR, eq_true h11, eq_true h20, eq_true h41, eq_false h52, h112], by simp [jstS, jsR, eq_true h11, eq_true h20, eq_true h41, eq_false h52, h112]⟩
  · refine ws_bipush (v := 15) X d_Judge_judgeStack_14 rfl ?_
    refine ws_iret X d_Judge_judgeStack_16 ?_
    exact ⟨by simp [jstV, eq_false h11], by simp [jstS, eq_false h11]⟩

theorem opC_ok (o : Int32) : opTab 0 o = nI (opTab 0 o).toNatClampNeg ∧ (opTab 0 o).toNatClampNeg ≤ 2 := by
  have key : ∀ x : Int32, x = 0 ∨ x = 1 ∨ x = 2 → x = nI x.toNatClampNeg ∧ x.toNatClampNeg ≤ 2 := by
    intro x h
    rcases h with rfl | rfl | rfl <;> decide
  refine key _ ?_
  unfold opTab
  by_cases h : ¬ o < 0 ∧ ¬ 25 ≤ o
  · rw [if_pos h]
    have hall : ∀ i : Nat, (stv 0).getD i 0 = 0 ∨ (stv 0).getD i 0 = 1 ∨ (stv 0).getD i 0 = 2 := by
      intro i
      by_cases hi : i < 25
      · have : ∀ i, i < 25 → ((stv 0).getD i 0 = 0 ∨ (stv 0).getD i 0 = 1 ∨ (stv 0).getD i 0 = 2) := by decide +kernel
        exact this i hi
      · left
        rw [List.getD_eq_getElem?_getD, List.getElem?_eq_none (by show 25 ≤ i; omega)]; rfl
    exact hall _
  · rw [if_neg h]; exact Or.inl rfl
/-- behind the MAP, with the judgement's row written -/
def jo2 (S : MS) (q : Nat) : MS := setKindsM (meetS S q) q ((meetS S q).1 6 0 0) ((meetS S q).1 6 0 1)
theorem meetS_o (S : MS) (q a b d : Nat) (h : ¬ (a = 6 ∧ b = 0 ∧ d = 1)) : (meetS S q).1 a b d = S.1 a b d := by
  unfold meetS
  by_cases h2 : mapAtX S q (S.1 6 0 0) = -1
  · rw [if_pos h2]
  · rw [if_neg h2]; show (if _ then _ else _) = _; rw [if_neg h]
theorem jo2_o (S : MS) (q a b d : Nat) (h : ¬ (a = 6 ∧ b = 0 ∧ d = 1)) (h2 : a ≠ 17) : (jo2 S q).1 a b d = S.1 a b d := by
  unfold jo2 setKindsM
  by_cases h3 : ¬ (meetS S q).1 6 0 0 < 0 ∧ ¬ 48 ≤ (meetS S q).1 6 0 0
  · rw [if_pos h3]
    show (if _ then _ else _) = _
    rw [if_neg (fun z => h2 z.1), meetS_o S q a b d h]
  · rw [if_neg h3, meetS_o S q a b d h]
def joO (S : MS) (q : Nat) : Int32 := codeM (jo2 S q) q (S.1 6 0 0)
def joF (S : MS) (q : Nat) : Int32 := codeM (jo2 S q) q (S.1 6 0 0 + 1)
def joShort (S : MS) (q : Nat) : Bool := decide (S.1 4 q 5 < S.1 6 0 0 + opSize (joO S q)) || (decide (S.1 6 0 0 + opSize (joO S q) = S.1 4 q 5) && opGoes (joO S q))
/-- the STACK's part: its fault, and the contents behind -/
def joV (S : MS) (q : Nat) (tk : Nat → Nat) : Int32 := if joO S q = 21 then jcallV (jo2 S q) q (joF S q).toNatClampNeg (tk (joF S q).toNatClampNeg) else jstV (jo2 S q) q (joO S q) (joF S q) (opTab 0 (joO S q)).toNatClampNeg
def joS (S : MS) (q : Nat) (tk : Nat → Nat) : MS := if joO S q = 21 then jcallS (jo2 S q) q (joF S q).toNatClampNeg (tk (joF S q).toNatClampNeg) else jstS (jo2 S q) q (joO S q) (joF S q) (opTab 0 (joO S q)).toNatClampNeg
def jopV (S : MS) (q : Nat) (tk : Nat → Nat) : Int32 := if meetV S q = 0 then 11 else if opIs (joO S q) = true then (if joShort S q = true then 13 else if entJ (jo2 S q) q (joO S q) (joF S q) = true then (if joV S q tk = 0 then (if opJumps (joO S q) = true then (if reachV (joS S q tk) q (joF S q) = true then 0 else 18) else 0) else joV S q tk) else 14) else 12
def jopS (S : MS) (q : Nat) (tk : Nat → Nat) : MS := if meetV S q = 0 then meetS S q else if opIs (joO S q) = true then (if joShort S q = true then jo2 S q else if entJ (jo2 S q) q (joO S q) (joF S q) = true then wI (joS S q tk) 6 0 2 (bI (opGoes (joO S q))) else jo2 S q) else jo2 S q
theorem entJ_21 {S : MS} {q : Nat} {f : Int32} (h : entJ S q 21 f = true) : okG S f = true := by
  simpa [entJ] using h
theorem okG_lt {S : MS} {m : Int32} (h : okG S m = true) : m.toNatClampNeg < 5 := by
  have h2 := okG_in h
  exact Nat.not_le.mp fun z => h2 (Or.inr z)
theorem m_Judge_judgeOp (S : MS) (q : Nat) (hq : q < 5) (tk : Nat → Nat) (hz : S.1 6 0 2 = 0 ∨ S.1 6 0 2 = 1) (hT : ∀ j, j < 5 → S.1 4 j 1 = nI (tk j) ∧ tk j ≤ 3) : MetE y_Judge_judgeOp c_Judge_judgeOp 7 ((some .int)) 4 90 [.inr (6, 0), .inr (2, 0), .inr (4, q)] S (some (.inl (.int (jopV S q tk)))) (jopS S q tk) := by
  refine MetS.of (lv0 := [some (.inr (6, 0)), some (.inr (2, 0)), some (.inr (4, q)), none, none, none, none]) pn_Judge rfl (Nat.le_of_ble_eq_true rfl) (fun p0 l0 e0 s0 m0 args below meth c0 G X => ?_)
  have e6 : (jo2 S q).1 6 0 0 = S.1 6 0 0 := jo2_o S q 6 0 0 (by decide) (by decide)
  have e5 : (jo2 S q).1 4 q 5 = S.1 4 q 5 := jo2_o S q 4 q 5 (fun z => absurd z.1 (by decide)) (by decide)
  refine ws_aload_n (i := 0) X d_Judge_judgeOp_0 rfl rfl ?_
  refine ws_aload_n (i := 2) X d_Judge_judgeOp_1 rfl rfl ?_
  refine ws_callV1 X (m_Judge_meetsMap S q hq hz) cv_Judge_meetsMap ml_Judge_66 ob6 rfl rfl (Nat.le_of_ble_eq_true rfl) ⟨Nat.le_of_ble_eq_true rfl, Nat.le_of_ble_eq_true rfl⟩ ⟨Nat.zero_le _, Nat.zero_le _⟩ d_Judge_judgeOp_2 ?_
  refine ws_if_ne X d_Judge_judgeOp_5 (fun h5 => ?_) (fun h5 => ?_)
  · refine ws_aload_n (i := 2) X d_Judge_judgeOp_11 rfl rfl ?_
    refine ws_aload_n (i := 0) X d_Judge_judgeOp_12 rfl rfl ?_
    refine ws_getI X fl_Judge_36 ob6 d_Judge_judgeOp_13 ?_
    refine ws_aload_n (i := 0) X d_Judge_judgeOp_16 rfl rfl ?_
    refine ws_getI X fl_Judge_24 ob6 d_Judge_judgeOp_17 ?_
    refine ws_callV0 X (m_Meth_setKinds _ _ (by assumption) _ _) cv_Meth_setKinds ml_Judge_70 (ob4 (by assumption)) rfl rfl (Nat.le_of_ble_eq_true rfl) ⟨Nat.le_of_ble_eq_true rfl, Nat.le_of_ble_eq_true rfl⟩ ⟨Nat.zero_le _, Nat.zero_le _⟩ d_Judge_judgeOp_20 ?_
    show WS _ _ _ _ _ _ _ _ _ _ _ _ _ _ _ _ _ _ _ (jo2 S q)
    refine ws_aload_n (i := 2) X d_Judge_judgeOp_23 rfl rfl ?_
    refine ws_aload_n (i := 0) X d_Judge_judgeOp_24 rfl rfl ?_
    refine ws_getI X fl_Judge_36 ob6 d_Judge_judgeOp_25 ?_
    rw [e6]
    refine ws_callV1 X (m_Meth_codeAt _ _ (by assumption) _) cv_Meth_codeAt ml_Judge_43 (ob4 (by assumption)) rfl rfl (Nat.le_of_ble_eq_true rfl) ⟨Nat.le_of_ble_eq_true rfl, Nat.le_of_ble_eq_true rfl⟩ ⟨Nat.zero_le _, Nat.zero_le _⟩ d_Judge_judgeOp_28 ?_
    refine ws_istn_3 X rfl d_Judge_judgeOp_31 (by decide) ?_
    refine ws_iload_n (i := 3) X d_Judge_judgeOp_32 rfl rfl ?_
    refine ws_callS1 X (m_Ops_isOp _ _) cs_Ops_isOp ml_Judge_74 rfl rfl (Nat.le_of_ble_eq_true rfl) ⟨Nat.le_of_ble_eq_true rfl, Nat.le_of_ble_eq_true rfl⟩ ⟨Nat.zero_le _, Nat.zero_le _⟩ d_Judge_judgeOp_33 ?_
    refine ws_ifB_ne X d_Judge_judgeOp_36 (fun h36 => ?_) (fun h36 => ?_)
    · refine ws_aload_n (i := 0) X d_Judge_judgeOp_42 rfl rfl ?_
      refine ws_getI X fl_Judge_36 ob6 d_Judge_judgeOp_43 ?_
      rw [e6]
      refine ws_iload_n (i := 3) X d_Judge_judgeOp_46 rfl rfl ?_
      refine ws_callS1 X (m_Ops_size _ _) cs_Ops_size ml_Judge_77 rfl rfl (Nat.le_of_ble_eq_true rfl) ⟨Nat.le_of_ble_eq_true rfl, Nat.le_of_ble_eq_true rfl⟩ ⟨Nat.zero_le _, Nat.zero_le _⟩ d_Judge_judgeOp_47 ?_
      refine ws_iadd X d_Judge_judgeOp_50 ?_
      refine ws_ist_4 X rfl d_Judge_judgeOp_51 (by decide) ?_
      refine ws_iload (i := 4) X d_Judge_judgeOp_53 rfl ?_
      refine ws_aload_n (i := 2) X d_Judge_judgeOp_55 rfl rfl ?_
      refine ws_getI X fl_Judge_33 (ob4 (by assumption)) d_Judge_judgeOp_56 ?_
      rw [e5]
      refine ws_icmp_gt X d_Judge_judgeOp_59 (fun h59 => ?_) (fun h59 => ?_)
      · refine ws_bipush (v := 13) X d_Judge_judgeOp_78 rfl ?_
        refine ws_iret X d_Judge_judgeOp_80 ?_
        exact ⟨by simp [jopV, joV, joS, joO, joF, joShort, eq_false h5, h36, eq_true h59], by simp [jopS, joV, joS, joO, joF, joShort, eq_false h5, h36, eq_true h59]⟩
      · refine ws_iload (i := 4) X d_Judge_judgeOp_62 rfl ?_
        refine ws_aload_n (i := 2) X d_Judge_judgeOp_64 rfl rfl ?_
        refine ws_getI X fl_Judge_33 (ob4 (by assumption)) d_Judge_judgeOp_65 ?_
        rw [e5]
        refine ws_icmp_ne X d_Judge_judgeOp_68 (fun h68 => ?_) (fun h68 => ?_)
        · refine ws_aload_n (i := 2) X d_Judge_judgeOp_81 rfl rfl ?_
          refine ws_aload_n (i := 0) X d_Judge_judgeOp_82 rfl rfl ?_
          refine ws_getI X fl_Judge_36 ob6 d_Judge_judgeOp_83 ?_
          rw [e6]
          refine ws_iconst (v := 1) X d_Judge_judgeOp_86 rfl ?_
          refine ws_iadd X d_Judge_judgeOp_87 ?_
          refine ws_callV1 X (m_Meth_codeAt _ _ (by assumption) _) cv_Meth_codeAt ml_Judge_43 (ob4 (by assumption)) rfl rfl (Nat.le_of_ble_eq_true rfl) ⟨Nat.le_of_ble_eq_true rfl, Nat.le_of_ble_eq_true rfl⟩ ⟨Nat.zero_le _, Nat.zero_le _⟩ d_Judge_judgeOp_88 ?_
          refine ws_ist_5 X rfl d_Judge_judgeOp_91 (by decide) ?_
          refine ws_aload_n (i := 0) X d_Judge_judgeOp_93 rfl rfl ?_
          refine ws_aload_n (i := 1) X d_Judge_judgeOp_94 rfl rfl ?_
          refine ws_aload_n (i := 2) X d_Judge_judgeOp_95 rfl rfl ?_
          refine ws_iload_n (i := 3) X d_Judge_judgeOp_96 rfl rfl ?_
          refine ws_iload (i := 5) X d_Judge_judgeOp_97 rfl ?_
          refine ws_callV1 X (m_Judge_hasEntry _ _ (by assumption) _ _) cv_Judge_hasEntry ml_Judge_83 ob6 rfl rfl (Nat.le_of_ble_eq_true rfl) ⟨Nat.le_of_ble_eq_true rfl, Nat.le_of_ble_eq_true rfl⟩ ⟨Nat.zero_le _, Nat.zero_le _⟩ d_Judge_judgeOp_99 ?_
          refine ws_ifB_ne X d_Judge_judgeOp_102 (fun h102 => ?_) (fun h102 => ?_)
          · refine ws_iload_n (i := 3) X d_Judge_judgeOp_108 rfl rfl ?_
            refine ws_bipush (v := 21) X d_Judge_judgeOp_109 rfl ?_
            refine ws_icmp_ne X d_Judge_judgeOp_111 (fun h111 => ?_) (fun h111 => ?_)
            · refine ws_aload_n (i := 0) X d_Judge_judgeOp_128 rfl rfl ?_
              refine ws_aload_n (i := 2) X d_Judge_judgeOp_129 rfl rfl ?_
              refine ws_iload_n (i := 3) X d_Judge_judgeOp_130 rfl rfl ?_
              refine ws_iload (i := 5) X d_Judge_judgeOp_131 rfl ?_
              refine ws_callV1 X (m_Judge_judgeStack _ _ hq _ _ _ (opC_ok _).1 (opC_ok _).2) cv_Judge_judgeStack ml_Judge_91 ob6 rfl rfl (Nat.le_of_ble_eq_true rfl) ⟨Nat.le_of_ble_eq_true rfl, Nat.le_of_ble_eq_true rfl⟩ ⟨Nat.zero_le _, Nat.zero_le _⟩ d_Judge_judgeOp_133 ?_
              refine ws_ist_6 X rfl d_Judge_judgeOp_136 (by decide) ?_
              refine ws_iload (i := 6) X d_Judge_judgeOp_138 rfl ?_
              refine ws_if_ne X d_Judge_judgeOp_140 (fun h140 => ?_) (fun h140 => ?_)
              · refine ws_aload_n (i := 0) X d_Judge_judgeOp_164 rfl rfl ?_
                refine ws_iload_n (i := 3) X d_Judge_judgeOp_165 rfl rfl ?_
                refine ws_callS1 X (m_Ops_goesOn _ _) cs_Ops_goesOn ml_Judge_80 rfl rfl (Nat.le_of_ble_eq_true rfl) ⟨Nat.le_of_ble_eq_true rfl, Nat.le_of_ble_eq_true rfl⟩ ⟨Nat.zero_le _, Nat.zero_le _⟩ d_Judge_judgeOp_166 ?_
                refine ws_putZ X (⟨nbI _, fbI _⟩) fl_Judge_29 ob6 d_Judge_judgeOp_169 ?_
                refine ws_iload (i := 6) X d_Judge_judgeOp_172 rfl ?_
                refine ws_iret X d_Judge_judgeOp_174 ?_
                exact ⟨by simp [jopV, joV, joS, joO, joF, joShort, eq_false h5, h36, eq_false h59, eq_false h68, h102, eq_false h111, eq_false h140], by simp [jopS, joV, joS, joO, joF, joShort, eq_false h5, h36, eq_false h59, eq_false h68, h102, eq_false h111, eq_false h140]⟩
              · refine ws_iload_n (i := 3) X d_Judge_judgeOp_143 rfl rfl ?_
                refine ws_callS1 X (m_Ops_jumps _ _) cs_Ops_jumps ml_Judge_95 rfl rfl (Nat.le_of_ble_eq_true rfl) ⟨Nat.le_of_ble_eq_true rfl, Nat.le_of_ble_eq_true rfl⟩ ⟨Nat.zero_le _, Nat.zero_le _⟩ d_Judge_judgeOp_144 ?_
                refine ws_ifB_eq X d_Judge_judgeOp_147 (fun h147 => ?_) (fun h147 => ?_)
                · refine ws_aload_n (i := 0) X d_Judge_judgeOp_164 rfl rfl ?_
                  refine ws_iload_n (i := 3) X d_Judge_judgeOp_165 rfl rfl ?_
                  refine ws_callS1 X (m_Ops_goesOn _ _) cs_Ops_goesOn ml_Judge_80 rfl rfl (Nat.le_of_ble_eq_true rfl) ⟨Nat.le_of_ble_eq_true rfl, Nat.le_of_ble_eq_true rfl⟩ ⟨Nat.zero_le _, Nat.zero_le _⟩ d_Judge_judgeOp_166 ?_
                  refine ws_putZ X (⟨nbI _, fbI _⟩) fl_Judge_29 ob6 d_Judge_judgeOp_169 ?_
                  refine ws_iload (i := 6) X d_Judge_judgeOp_172 rfl ?_
                  refine ws_iret X d_Judge_judgeOp_174 ?_
                  exact ⟨by simp [jopV, joV, joS, joO, joF, joShort, eq_false h5, h36, eq_false h59, eq_false h68, h102, eq_false h111, eq_true h140, h147], by simp [jopS, joV, joS, joO, joF, joShort, eq_false h5, h36, eq_false h59, eq_false h68, h102, eq_false h111, eq_true h140, h147]⟩
                · refine ws_aload_n (i := 0) X d_Judge_judgeOp_150 rfl rfl ?_
                  refine ws_aload_n (i := 2) X d_Judge_judgeOp_151 rfl rfl ?_
                  refine ws_iload (i := 5) X d_Judge_judgeOp_152 rfl ?_
                  refine ws_callV1 X (m_Judge_reaches _ _ (by assumption) _) cv_Judge_reaches ml_Judge_98 ob6 rfl rfl (Nat.le_of_ble_eq_true rfl) ⟨Nat.le_of_ble_eq_true rfl, Nat.le_of_ble_eq_true rfl⟩ ⟨Nat.zero_le _, Nat.zero_le _⟩ d_Judge_judgeOp_154 ?_
                  refine ws_ifB_ne X d_Judge_judgeOp_157 (fun h157 => ?_) (fun h157 => ?_)
                  · refine ws_aload_n (i := 0) X d_Judge_judgeOp_164 rfl rfl ?_
                    refine ws_iload_n (i := 3) X d_Judge_judgeOp_165 rfl rfl ?_
                    refine ws_callS1 X (m_Ops_goesOn _ _) cs_Ops_goesOn ml_Judge_80 rfl rfl (Nat.le_of_ble_eq_true rfl) ⟨Nat.le_of_ble_eq_true rfl, Nat.le_of_ble_eq_true rfl⟩ ⟨Nat.zero_le _, Nat.zero_le _⟩ d_Judge_judgeOp_166 ?_
                    refine ws_putZ X (⟨nbI _, fbI _⟩) fl_Judge_29 ob6 d_Judge_judgeOp_169 ?_
                    refine ws_iload (i := 6) X d_Judge_judgeOp_172 rfl ?_
                    refine ws_iret X d_Judge_judgeOp_174 ?_
                    exact ⟨by simp [jopV, joV, joS, joO, joF, joShort, eq_false h5, h36, eq_false h59, eq_false h68, h102, eq_false h111, eq_true h140, h147, h157], by simp [jopS, joV, joS, joO, joF, joShort, eq_false h5, h36, eq_false h59, eq_false h68, h102, eq_false h111, eq_true h140, h147, h157]⟩
                  · refine ws_bipush (v := 18) X d_Judge_judgeOp_160 rfl ?_
                    refine ws_ist_6 X rfl d_Judge_judgeOp_162 (by decide) ?_
                    refine ws_aload_n (i := 0) X d_Judge_judgeOp_164 rfl rfl ?_
                    refine ws_iload_n (i := 3) X d_Judge_judgeOp_165 rfl rfl ?_
                    refine ws_callS1 X (m_Ops_goesOn _ _) cs_Ops_goesOn ml_Judge_80 rfl rfl (Nat.le_of_ble_eq_true rfl) ⟨Nat.le_of_ble_eq_true rfl, Nat.le_of_ble_eq_true rfl⟩ ⟨Nat.zero_le _, Nat.zero_le _⟩ d_Judge_judgeOp_166 ?_
                    refine ws_putZ X (⟨nbI _, fbI _⟩) fl_Judge_29 ob6 d_Judge_judgeOp_169 ?_
                    refine ws_iload (i := 6) X d_Judge_judgeOp_172 rfl ?_
                    refine ws_iret X d_Judge_judgeOp_174 ?_
                    exact ⟨by simp [jopV, joV, joS, joO, joF, joShort, eq_false h5, h36, eq_false h59, eq_false h68, h102, eq_false h111, eq_true h140, h147, h157], by simp [jopS, joV, joS, joO, joF, joShort, eq_false h5, h36, eq_false h59, eq_false h68, h102, eq_false h111, eq_true h140, h147, h157]⟩
            · have hok := entJ_21 (by have h := h102; rw [h111] at h; exact h)
              have hF5 := okG_lt hok
              refine ws_aload_n (i := 0) X d_Judge_judgeOp_114 rfl rfl ?_
              refine ws_aload_n (i := 2) X d_Judge_judgeOp_115 rfl rfl ?_
              refine ws_aload_n (i := 1) X d_Judge_judgeOp_116 rfl rfl ?_
              refine ws_iload (i := 5) X d_Judge_judgeOp_117 rfl ?_
              refine ws_callV1 X (m_Prog_methodAt_y _ _ hok) cv_Prog_methodAt ml_Judge_9 ob2 rfl rfl (Nat.le_of_ble_eq_true rfl) ⟨Nat.le_of_ble_eq_true rfl, Nat.le_of_ble_eq_true rfl⟩ ⟨Nat.zero_le _, Nat.zero_le _⟩ d_Judge_judgeOp_119 ?_
              refine ws_callV1 X (m_Judge_judgeCall _ _ _ (tk _) hq hF5 (by rw [jo2_o S q 4 _ 1 (fun z => absurd z.1 (by decide)) (by decide)]; exact (hT _ hF5).1) (hT _ hF5).2) cv_Judge_judgeCall ml_Judge_87 ob6 rfl rfl (Nat.le_of_ble_eq_true rfl) ⟨Nat.le_of_ble_eq_true rfl, Nat.le_of_ble_eq_true rfl⟩ ⟨Nat.zero_le _, Nat.zero_le _⟩ d_Judge_judgeOp_122 ?_
              refine ws_goto X d_Judge_judgeOp_125 ?_
              refine ws_ist_6 X rfl d_Judge_judgeOp_136 (by decide) ?_
              refine ws_iload (i := 6) X d_Judge_judgeOp_138 rfl ?_
              refine ws_if_ne X d_Judge_judgeOp_140 (fun h140 => ?_) (fun h140 => ?_)
              · refine ws_aload_n (i := 0) X d_Judge_judgeOp_164 rfl rfl ?_
                refine ws_iload_n (i := 3) X d_Judge_judgeOp_165 rfl rfl ?_
                refine ws_callS1 X (m_Ops_goesOn _ _) cs_Ops_goesOn ml_Judge_80 rfl rfl (Nat.le_of_ble_eq_true rfl) ⟨Nat.le_of_ble_eq_true rfl, Nat.le_of_ble_eq_true rfl⟩ ⟨Nat.zero_le _, Nat.zero_le _⟩ d_Judge_judgeOp_166 ?_
                refine ws_putZ X (⟨nbI _, fbI _⟩) fl_Judge_29 ob6 d_Judge_judgeOp_169 ?_
                refine ws_iload (i := 6) X d_Judge_judgeOp_172 rfl ?_
                refine ws_iret X d_Judge_judgeOp_174 ?_
                exact ⟨by simp [jopV, joV, joS, joO, joF, joShort, eq_false h5, h36, eq_false h59, eq_false h68, h102, eq_true h111, eq_false h140], by simp [jopS, joV, joS, joO, joF, joShort, eq_false h5, h36, eq_false h59, eq_false h68, h102, eq_true h111, eq_false h140]⟩
              · refine ws_iload_n (i := 3) X d_Judge_judgeOp_143 rfl rfl ?_
                refine ws_callS1 X (m_Ops_jumps _ _) cs_Ops_jumps ml_Judge_95 rfl rfl (Nat.le_of_ble_eq_true rfl) ⟨Nat.le_of_ble_eq_true rfl, Nat.le_of_ble_eq_true rfl⟩ ⟨Nat.zero_le _, Nat.zero_le _⟩ d_Judge_judgeOp_144 ?_
                refine ws_ifB_eq X d_Judge_judgeOp_147 (fun h147 => ?_) (fun h147 => ?_)
                · refine ws_aload_n (i := 0) X d_Judge_judgeOp_164 rfl rfl ?_
                  refine ws_iload_n (i := 3) X d_Judge_judgeOp_165 rfl rfl ?_
                  refine ws_callS1 X (m_Ops_goesOn _ _) cs_Ops_goesOn ml_Judge_80 rfl rfl (Nat.le_of_ble_eq_true rfl) ⟨Nat.le_of_ble_eq_true rfl, Nat.le_of_ble_eq_true rfl⟩ ⟨Nat.zero_le _, Nat.zero_le _⟩ d_Judge_judgeOp_166 ?_
                  refine ws_putZ X (⟨nbI _, fbI _⟩) fl_Judge_29 ob6 d_Judge_judgeOp_169 ?_
                  refine ws_iload (i := 6) X d_Judge_judgeOp_172 rfl ?_
                  refine ws_iret X d_Judge_judgeOp_174 ?_
                  exact ⟨by simp [jopV, joV, joS, joO, joF, joShort, eq_false h5, h36, eq_false h59, eq_false h68, h102, eq_true h111, eq_true h140, h147], by simp [jopS, joV, joS, joO, joF, joShort, eq_false h5, h36, eq_false h59, eq_false h68, h102, eq_true h111, eq_true h140, h147]⟩
                · refine ws_aload_n (i := 0) X d_Judge_judgeOp_150 rfl rfl ?_
                  refine ws_aload_n (i := 2) X d_Judge_judgeOp_151 rfl rfl ?_
                  refine ws_iload (i := 5) X d_Judge_judgeOp_152 rfl ?_
                  refine ws_callV1 X (m_Judge_reaches _ _ (by assumption) _) cv_Judge_reaches ml_Judge_98 ob6 rfl rfl (Nat.le_of_ble_eq_true rfl) ⟨Nat.le_of_ble_eq_true rfl, Nat.le_of_ble_eq_true rfl⟩ ⟨Nat.zero_le _, Nat.zero_le _⟩ d_Judge_judgeOp_154 ?_
                  refine ws_ifB_ne X d_Judge_judgeOp_157 (fun h157 => ?_) (fun h157 => ?_)
                  · refine ws_aload_n (i := 0) X d_Judge_judgeOp_164 rfl rfl ?_
                    refine ws_iload_n (i := 3) X d_Judge_judgeOp_165 rfl rfl ?_
                    refine ws_callS1 X (m_Ops_goesOn _ _) cs_Ops_goesOn ml_Judge_80 rfl rfl (Nat.le_of_ble_eq_true rfl) ⟨Nat.le_of_ble_eq_true rfl, Nat.le_of_ble_eq_true rfl⟩ ⟨Nat.zero_le _, Nat.zero_le _⟩ d_Judge_judgeOp_166 ?_
                    refine ws_putZ X (⟨nbI _, fbI _⟩) fl_Judge_29 ob6 d_Judge_judgeOp_169 ?_
                    refine ws_iload (i := 6) X d_Judge_judgeOp_172 rfl ?_
                    refine ws_iret X d_Judge_judgeOp_174 ?_
                    exact ⟨by simp [jopV, joV, joS, joO, joF, joShort, eq_false h5, h36, eq_false h59, eq_false h68, h102, eq_true h111, eq_true h140, h147, h157], by simp [jopS, joV, joS, joO, joF, joShort, eq_false h5, h36, eq_false h59, eq_false h68, h102, eq_true h111, eq_true h140, h147, h157]⟩
                  · refine ws_bipush (v := 18) X d_Judge_judgeOp_160 rfl ?_
                    refine ws_ist_6 X rfl d_Judge_judgeOp_162 (by decide) ?_
                    refine ws_aload_n (i := 0) X d_Judge_judgeOp_164 rfl rfl ?_
                    refine ws_iload_n (i := 3) X d_Judge_judgeOp_165 rfl rfl ?_
                    refine ws_callS1 X (m_Ops_goesOn _ _) cs_Ops_goesOn ml_Judge_80 rfl rfl (Nat.le_of_ble_eq_true rfl) ⟨Nat.le_of_ble_eq_true rfl, Nat.le_of_ble_eq_true rfl⟩ ⟨Nat.zero_le _, Nat.zero_le _⟩ d_Judge_judgeOp_166 ?_
                    refine ws_putZ X (⟨nbI _, fbI _⟩) fl_Judge_29 ob6 d_Judge_judgeOp_169 ?_
                    refine ws_iload (i := 6) X d_Judge_judgeOp_172 rfl ?_
                    refine ws_iret X d_Judge_judgeOp_174 ?_
                    exact ⟨by simp [jopV, joV, joS, joO, joF, joShort, eq_false h5, h36, eq_false h59, eq_false h68, h102, eq_true h111, eq_true h140, h147, h157], by simp [jopS, joV, joS, joO, joF, joShort, eq_false h5, h36, eq_false h59, eq_false h68, h102, eq_true h111, eq_true h140, h147, h157]⟩
          · refine ws_bipush (v := 14) X d_Judge_judgeOp_105 rfl ?_
            refine ws_iret X d_Judge_judgeOp_107 ?_
            exact ⟨by simp [jopV, joV, joS, joO, joF, joShort, eq_false h5, h36, eq_false h59, eq_false h68, h102], by simp [jopS, joV, joS, joO, joF, joShort, eq_false h5, h36, eq_false h59, eq_false h68, h102]⟩
        · refine ws_iload_n (i := 3) X d_Judge_judgeOp_71 rfl rfl ?_
          refine ws_callS1 X (m_Ops_goesOn _ _) cs_Ops_goesOn ml_Judge_80 rfl rfl (Nat.le_of_ble_eq_true rfl) ⟨Nat.le_of_ble_eq_true rfl, Nat.le_of_ble_eq_true rfl⟩ ⟨Nat.zero_le _, Nat.zero_le _⟩ d_Judge_judgeOp_72 ?_
          refine ws_ifB_eq X d_Judge_judgeOp_75 (fun h75 => ?_) (fun h75 => ?_)
          · refine ws_aload_n (i := 2) X d_Judge_judgeOp_81 rfl rfl ?_
            refine ws_aload_n (i := 0) X d_Judge_judgeOp_82 rfl rfl ?_
            refine ws_getI X fl_Judge_36 ob6 d_Judge_judgeOp_83 ?_
            rw [e6]
            refine ws_iconst (v := 1) X d_Judge_judgeOp_86 rfl ?_
            refine ws_iadd X d_Judge_judgeOp_87 ?_
            refine ws_callV1 X (m_Meth_codeAt _ _ (by assumption) _) cv_Meth_codeAt ml_Judge_43 (ob4 (by assumption)) rfl rfl (Nat.le_of_ble_eq_true rfl) ⟨Nat.le_of_ble_eq_true rfl, Nat.le_of_ble_eq_true rfl⟩ ⟨Nat.zero_le _, Nat.zero_le _⟩ d_Judge_judgeOp_88 ?_
            refine ws_ist_5 X rfl d_Judge_judgeOp_91 (by decide) ?_
            refine ws_aload_n (i := 0) X d_Judge_judgeOp_93 rfl rfl ?_
            refine ws_aload_n (i := 1) X d_Judge_judgeOp_94 rfl rfl ?_
            refine ws_aload_n (i := 2) X d_Judge_judgeOp_95 rfl rfl ?_
            refine ws_iload_n (i := 3) X d_Judge_judgeOp_96 rfl rfl ?_
            refine ws_iload (i := 5) X d_Judge_judgeOp_97 rfl ?_
            refine ws_callV1 X (m_Judge_hasEntry _ _ (by assumption) _ _) cv_Judge_hasEntry ml_Judge_83 ob6 rfl rfl (Nat.le_of_ble_eq_true rfl) ⟨Nat.le_of_ble_eq_true rfl, Nat.le_of_ble_eq_true rfl⟩ ⟨Nat.zero_le _, Nat.zero_le _⟩ d_Judge_judgeOp_99 ?_
            refine ws_ifB_ne X d_Judge_judgeOp_102 (fun h102 => ?_) (fun h102 => ?_)
            · refine ws_iload_n (i := 3) X d_Judge_judgeOp_108 rfl rfl ?_
              refine ws_bipush (v := 21) X d_Judge_judgeOp_109 rfl ?_
              refine ws_icmp_ne X d_Judge_judgeOp_111 (fun h111 => ?_) (fun h111 => ?_)
              · refine ws_aload_n (i := 0) X d_Judge_judgeOp_128 rfl rfl ?_
                refine ws_aload_n (i := 2) X d_Judge_judgeOp_129 rfl rfl ?_
                refine ws_iload_n (i := 3) X d_Judge_judgeOp_130 rfl rfl ?_
                refine ws_iload (i := 5) X d_Judge_judgeOp_131 rfl ?_
                refine ws_callV1 X (m_Judge_judgeStack _ _ hq _ _ _ (opC_ok _).1 (opC_ok _).2) cv_Judge_judgeStack ml_Judge_91 ob6 rfl rfl (Nat.le_of_ble_eq_true rfl) ⟨Nat.le_of_ble_eq_true rfl, Nat.le_of_ble_eq_true rfl⟩ ⟨Nat.zero_le _, Nat.zero_le _⟩ d_Judge_judgeOp_133 ?_
                refine ws_ist_6 X rfl d_Judge_judgeOp_136 (by decide) ?_
                refine ws_iload (i := 6) X d_Judge_judgeOp_138 rfl ?_
                refine ws_if_ne X d_Judge_judgeOp_140 (fun h140 => ?_) (fun h140 => ?_)
                · refine ws_aload_n (i := 0) X d_Judge_judgeOp_164 rfl rfl ?_
                  refine ws_iload_n (i := 3) X d_Judge_judgeOp_165 rfl rfl ?_
                  refine ws_callS1 X (m_Ops_goesOn _ _) cs_Ops_goesOn ml_Judge_80 rfl rfl (Nat.le_of_ble_eq_true rfl) ⟨Nat.le_of_ble_eq_true rfl, Nat.le_of_ble_eq_true rfl⟩ ⟨Nat.zero_le _, Nat.zero_le _⟩ d_Judge_judgeOp_166 ?_
                  refine ws_putZ X (⟨nbI _, fbI _⟩) fl_Judge_29 ob6 d_Judge_judgeOp_169 ?_
                  refine ws_iload (i := 6) X d_Judge_judgeOp_172 rfl ?_
                  refine ws_iret X d_Judge_judgeOp_174 ?_
                  exact ⟨by simp [jopV, joV, joS, joO, joF, joShort, eq_false h5, h36, eq_false h59, eq_true h68, h75, h102, eq_false h111, eq_false h140], by simp [jopS, joV, joS, joO, joF, joShort, eq_false h5, h36, eq_false h59, eq_true h68, h75, h102, eq_false h111, eq_false h140]⟩
                · refine ws_iload_n (i := 3) X d_Judge_judgeOp_143 rfl rfl ?_
                  refine ws_callS1 X (m_Ops_jumps _ _) cs_Ops_jumps ml_Judge_95 rfl rfl (Nat.le_of_ble_eq_true rfl) ⟨Nat.le_of_ble_eq_true rfl, Nat.le_of_ble_eq_true rfl⟩ ⟨Nat.zero_le _, Nat.zero_le _⟩ d_Judge_judgeOp_144 ?_
                  refine ws_ifB_eq X d_Judge_judgeOp_147 (fun h147 => ?_) (fun h147 => ?_)
                  · refine ws_aload_n (i := 0) X d_Judge_judgeOp_164 rfl rfl ?_
                    refine ws_iload_n (i := 3) X d_Judge_judgeOp_165 rfl rfl ?_
                    refine ws_callS1 X (m_Ops_goesOn _ _) cs_Ops_goesOn ml_Judge_80 rfl rfl (Nat.le_of_ble_eq_true rfl) ⟨Nat.le_of_ble_eq_true rfl, Nat.le_of_ble_eq_true rfl⟩ ⟨Nat.zero_le _, Nat.zero_le _⟩ d_Judge_judgeOp_166 ?_
                    refine ws_putZ X (⟨nbI _, fbI _⟩) fl_Judge_29 ob6 d_Judge_judgeOp_169 ?_
                    refine ws_iload (i := 6) X d_Judge_judgeOp_172 rfl ?_
                    refine ws_iret X d_Judge_judgeOp_174 ?_
                    exact ⟨by simp [jopV, joV, joS, joO, joF, joShort, eq_false h5, h36, eq_false h59, eq_true h68, h75, h102, eq_false h111, eq_true h140, h147], by simp [jopS, joV, joS, joO, joF, joShort, eq_false h5, h36, eq_false h59, eq_true h68, h75, h102, eq_false h111, eq_true h140, h147]⟩
                  · refine ws_aload_n (i := 0) X d_Judge_judgeOp_150 rfl rfl ?_
                    refine ws_aload_n (i := 2) X d_Judge_judgeOp_151 rfl rfl ?_
                    refine ws_iload (i := 5) X d_Judge_judgeOp_152 rfl ?_
                    refine ws_callV1 X (m_Judge_reaches _ _ (by assumption) _) cv_Judge_reaches ml_Judge_98 ob6 rfl rfl (Nat.le_of_ble_eq_true rfl) ⟨Nat.le_of_ble_eq_true rfl, Nat.le_of_ble_eq_true rfl⟩ ⟨Nat.zero_le _, Nat.zero_le _⟩ d_Judge_judgeOp_154 ?_
                    refine ws_ifB_ne X d_Judge_judgeOp_157 (fun h157 => ?_) (fun h157 => ?_)
                    · refine ws_aload_n (i := 0) X d_Judge_judgeOp_164 rfl rfl ?_
                      refine ws_iload_n (i := 3) X d_Judge_judgeOp_165 rfl rfl ?_
                      refine ws_callS1 X (m_Ops_goesOn _ _) cs_Ops_goesOn ml_Judge_80 rfl rfl (Nat.le_of_ble_eq_true rfl) ⟨Nat.le_of_ble_eq_true rfl, Nat.le_of_ble_eq_true rfl⟩ ⟨Nat.zero_le _, Nat.zero_le _⟩ d_Judge_judgeOp_166 ?_
                      refine ws_putZ X (⟨nbI _, fbI _⟩) fl_Judge_29 ob6 d_Judge_judgeOp_169 ?_
                      refine ws_iload (i := 6) X d_Judge_judgeOp_172 rfl ?_
                      refine ws_iret X d_Judge_judgeOp_174 ?_
                      exact ⟨by simp [jopV, joV, joS, joO, joF, joShort, eq_false h5, h36, eq_false h59, eq_true h68, h75, h102, eq_false h111, eq_true h140, h147, h157], by simp [jopS, joV, joS, joO, joF, joShort, eq_false h5, h36, eq_false h59, eq_true h68, h75, h102, eq_false h111, eq_true h140, h147, h157]⟩
                    · refine ws_bipush (v := 18) X d_Judge_judgeOp_160 rfl ?_
                      refine ws_ist_6 X rfl d_Judge_judgeOp_162 (by decide) ?_
                      refine ws_aload_n (i := 0) X d_Judge_judgeOp_164 rfl rfl ?_
                      refine ws_iload_n (i := 3) X d_Judge_judgeOp_165 rfl rfl ?_
                      refine ws_callS1 X (m_Ops_goesOn _ _) cs_Ops_goesOn ml_Judge_80 rfl rfl (Nat.le_of_ble_eq_true rfl) ⟨Nat.le_of_ble_eq_true rfl, Nat.le_of_ble_eq_true rfl⟩ ⟨Nat.zero_le _, Nat.zero_le _⟩ d_Judge_judgeOp_166 ?_
                      refine ws_putZ X (⟨nbI _, fbI _⟩) fl_Judge_29 ob6 d_Judge_judgeOp_169 ?_
                      refine ws_iload (i := 6) X d_Judge_judgeOp_172 rfl ?_
                      refine ws_iret X d_Judge_judgeOp_174 ?_
                      exact ⟨by simp [jopV, joV, joS, joO, joF, joShort, eq_false h5, h36, eq_false h59, eq_true h68, h75, h102, eq_false h111, eq_true h140, h147, h157], by simp [jopS, joV, joS, joO, joF, joShort, eq_false h5, h36, eq_false h59, eq_true h68, h75, h102, eq_false h111, eq_true h140, h147, h157]⟩
              · have hok := entJ_21 (by have h := h102; rw [h111] at h; exact h)
                have hF5 := okG_lt hok
                refine ws_aload_n (i := 0) X d_Judge_judgeOp_114 rfl rfl ?_
                refine ws_aload_n (i := 2) X d_Judge_judgeOp_115 rfl rfl ?_
                refine ws_aload_n (i := 1) X d_Judge_judgeOp_116 rfl rfl ?_
                refine ws_iload (i := 5) X d_Judge_judgeOp_117 rfl ?_
                refine ws_callV1 X (m_Prog_methodAt_y _ _ hok) cv_Prog_methodAt ml_Judge_9 ob2 rfl rfl (Nat.le_of_ble_eq_true rfl) ⟨Nat.le_of_ble_eq_true rfl, Nat.le_of_ble_eq_true rfl⟩ ⟨Nat.zero_le _, Nat.zero_le _⟩ d_Judge_judgeOp_119 ?_
                refine ws_callV1 X (m_Judge_judgeCall _ _ _ (tk _) hq hF5 (by rw [jo2_o S q 4 _ 1 (fun z => absurd z.1 (by decide)) (by decide)]; exact (hT _ hF5).1) (hT _ hF5).2) cv_Judge_judgeCall ml_Judge_87 ob6 rfl rfl (Nat.le_of_ble_eq_true rfl) ⟨Nat.le_of_ble_eq_true rfl, Nat.le_of_ble_eq_true rfl⟩ ⟨Nat.zero_le _, Nat.zero_le _⟩ d_Judge_judgeOp_122 ?_
                refine ws_goto X d_Judge_judgeOp_125 ?_
                refine ws_ist_6 X rfl d_Judge_judgeOp_136 (by decide) ?_
                refine ws_iload (i := 6) X d_Judge_judgeOp_138 rfl ?_
                refine ws_if_ne X d_Judge_judgeOp_140 (fun h140 => ?_) (fun h140 => ?_)
                · refine ws_aload_n (i := 0) X d_Judge_judgeOp_164 rfl rfl ?_
                  refine ws_iload_n (i := 3) X d_Judge_judgeOp_165 rfl rfl ?_
                  refine ws_callS1 X (m_Ops_goesOn _ _) cs_Ops_goesOn ml_Judge_80 rfl rfl (Nat.le_of_ble_eq_true rfl) ⟨Nat.le_of_ble_eq_true rfl, Nat.le_of_ble_eq_true rfl⟩ ⟨Nat.zero_le _, Nat.zero_le _⟩ d_Judge_judgeOp_166 ?_
                  refine ws_putZ X (⟨nbI _, fbI _⟩) fl_Judge_29 ob6 d_Judge_judgeOp_169 ?_
                  refine ws_iload (i := 6) X d_Judge_judgeOp_172 rfl ?_
                  refine ws_iret X d_Judge_judgeOp_174 ?_
                  exact ⟨by simp [jopV, joV, joS, joO, joF, joShort, eq_false h5, h36, eq_false h59, eq_true h68, h75, h102, eq_true h111, eq_false h140], by simp [jopS, joV, joS, joO, joF, joShort, eq_false h5, h36, eq_false h59, eq_true h68, h75, h102, eq_true h111, eq_false h140]⟩
                · refine ws_iload_n (i := 3) X d_Judge_judgeOp_143 rfl rfl ?_
                  refine ws_callS1 X (m_Ops_jumps _ _) cs_Ops_jumps ml_Judge_95 rfl rfl (Nat.le_of_ble_eq_true rfl) ⟨Nat.le_of_ble_eq_true rfl, Nat.le_of_ble_eq_true rfl⟩ ⟨Nat.zero_le _, Nat.zero_le _⟩ d_Judge_judgeOp_144 ?_
                  refine ws_ifB_eq X d_Judge_judgeOp_147 (fun h147 => ?_) (fun h147 => ?_)
                  · refine ws_aload_n (i := 0) X d_Judge_judgeOp_164 rfl rfl ?_
                    refine ws_iload_n (i := 3) X d_Judge_judgeOp_165 rfl rfl ?_
                    refine ws_callS1 X (m_Ops_goesOn _ _) cs_Ops_goesOn ml_Judge_80 rfl rfl (Nat.le_of_ble_eq_true rfl) ⟨Nat.le_of_ble_eq_true rfl, Nat.le_of_ble_eq_true rfl⟩ ⟨Nat.zero_le _, Nat.zero_le _⟩ d_Judge_judgeOp_166 ?_
                    refine ws_putZ X (⟨nbI _, fbI _⟩) fl_Judge_29 ob6 d_Judge_judgeOp_169 ?_
                    refine ws_iload (i := 6) X d_Judge_judgeOp_172 rfl ?_
                    refine ws_iret X d_Judge_judgeOp_174 ?_
                    exact ⟨by simp [jopV, joV, joS, joO, joF, joShort, eq_false h5, h36, eq_false h59, eq_true h68, h75, h102, eq_true h111, eq_true h140, h147], by simp [jopS, joV, joS, joO, joF, joShort, eq_false h5, h36, eq_false h59, eq_true h68, h75, h102, eq_true h111, eq_true h140, h147]⟩
                  · refine ws_aload_n (i := 0) X d_Judge_judgeOp_150 rfl rfl ?_
                    refine ws_aload_n (i := 2) X d_Judge_judgeOp_151 rfl rfl ?_
                    refine ws_iload (i := 5) X d_Judge_judgeOp_152 rfl ?_
                    refine ws_callV1 X (m_Judge_reaches _ _ (by assumption) _) cv_Judge_reaches ml_Judge_98 ob6 rfl rfl (Nat.le_of_ble_eq_true rfl) ⟨Nat.le_of_ble_eq_true rfl, Nat.le_of_ble_eq_true rfl⟩ ⟨Nat.zero_le _, Nat.zero_le _⟩ d_Judge_judgeOp_154 ?_
                    refine ws_ifB_ne X d_Judge_judgeOp_157 (fun h157 => ?_) (fun h157 => ?_)
                    · refine ws_aload_n (i := 0) X d_Judge_judgeOp_164 rfl rfl ?_
                      refine ws_iload_n (i := 3) X d_Judge_judgeOp_165 rfl rfl ?_
                      refine ws_callS1 X (m_Ops_goesOn _ _) cs_Ops_goesOn ml_Judge_80 rfl rfl (Nat.le_of_ble_eq_true rfl) ⟨Nat.le_of_ble_eq_true rfl, Nat.le_of_ble_eq_true rfl⟩ ⟨Nat.zero_le _, Nat.zero_le _⟩ d_Judge_judgeOp_166 ?_
                      refine ws_putZ X (⟨nbI _, fbI _⟩) fl_Judge_29 ob6 d_Judge_judgeOp_169 ?_
                      refine ws_iload (i := 6) X d_Judge_judgeOp_172 rfl ?_
                      refine ws_iret X d_Judge_judgeOp_174 ?_
                      exact ⟨by simp [jopV, joV, joS, joO, joF, joShort, eq_false h5, h36, eq_false h59, eq_true h68, h75, h102, eq_true h111, eq_true h140, h147, h157], by simp [jopS, joV, joS, joO, joF, joShort, eq_false h5, h36, eq_false h59, eq_true h68, h75, h102, eq_true h111, eq_true h140, h147, h157]⟩
                    · refine ws_bipush (v := 18) X d_Judge_judgeOp_160 rfl ?_
                      refine ws_ist_6 X rfl d_Judge_judgeOp_162 (by decide) ?_
                      refine ws_aload_n (i := 0) X d_Judge_judgeOp_164 rfl rfl ?_
                      refine ws_iload_n (i := 3) X d_Judge_judgeOp_165 rfl rfl ?_
                      refine ws_callS1 X (m_Ops_goesOn _ _) cs_Ops_goesOn ml_Judge_80 rfl rfl (Nat.le_of_ble_eq_true rfl) ⟨Nat.le_of_ble_eq_true rfl, Nat.le_of_ble_eq_true rfl⟩ ⟨Nat.zero_le _, Nat.zero_le _⟩ d_Judge_judgeOp_166 ?_
                      refine ws_putZ X (⟨nbI _, fbI _⟩) fl_Judge_29 ob6 d_Judge_judgeOp_169 ?_
                      refine ws_iload (i := 6) X d_Judge_judgeOp_172 rfl ?_
                      refine ws_iret X d_Judge_judgeOp_174 ?_
                      exact ⟨by simp [jopV, joV, joS, joO, joF, joShort, eq_false h5, h36, eq_false h59, eq_true h68, h75, h102, eq_true h111, eq_true h140, h147, h157], by simp [jopS, joV, joS, joO, joF, joShort, eq_false h5, h36, eq_false h59, eq_true h68, h75, h102, eq_true h111, eq_true h140, h147, h157]⟩
            · refine ws_bipush (v := 14) X d_Judge_judgeOp_105 rfl ?_
              refine ws_iret X d_Judge_judgeOp_107 ?_
              exact ⟨by simp [jopV, joV, joS, joO, joF, joShort, eq_false h5, h36, eq_false h59, eq_true h68, h75, h102], by simp [jopS, joV, joS, joO, joF, joShort, eq_false h5, h36, eq_false h59, eq_true h68, h75, h102]⟩
          · refine ws_bipush (v := 13) X d_Judge_judgeOp_78 rfl ?_
            refine ws_iret X d_Judge_judgeOp_80 ?_
            exact ⟨by simp [jopV, joV, joS, joO, joF, joShort, eq_false h5, h36, eq_false h59, eq_true h68, h75], by simp [jopS, joV, joS, joO, joF, joShort, eq_false h5, h36, eq_false h59, eq_true h68, h75]⟩
    · refine ws_bipush (v := 12) X d_Judge_judgeOp_39 rfl ?_
      refine ws_iret X d_Judge_judgeOp_41 ?_
      exact ⟨by simp [jopV, joV, joS, joO, joF, joShort, eq_false h5, h36], by simp [jopS, joV, joS, joO, joF, joShort, eq_false h5, h36]⟩
  · refine ws_bipush (v := 11) X d_Judge_judgeOp_8 rfl ?_
    refine ws_iret X d_Judge_judgeOp_10 ?_
    exact ⟨by simp [jopV, joV, joS, joO, joF, joShort, eq_true h5], by simp [jopS, joV, joS, joO, joF, joShort, eq_true h5]⟩

def mpGo (S : MS) (q : Nat) : Nat → Nat → Int32 × MS
  | 0, _ => (0, S)
  | n + 1, i => if S.1 4 q 6 ≤ nI i then (0, S) else if kindsAtM S q (mapPlaceM S q (nI i)) = -1 then (11, wI S 6 0 0 (mapPlaceM S q (nI i))) else mpGo (wI S 6 0 0 (mapPlaceM S q (nI i))) q n (i + 1)
theorem kindsAt_p (S : MS) (q : Nat) (v p : Int32) : kindsAtM (wI S 6 0 0 v) q p = kindsAtM S q p := by simp [kindsAtM, wI]
section L6
variable {p : Program} {l : Launch} {e0 : Env} {s : State} {m0 : MethodId} {args : Array Value} {below : List Frame} {meth : Method} {c0 : Code} {G : GG} {A : Nat → Prop} {Q : State → Prop}
theorem l_mp (X : CX p s m0 args meth c0 G A c_Judge_judgeMapPlaces y_Judge_judgeMapPlaces.cls 3 ((some .int))) {q : Nat} (hq : q < 5) {r : Int32 × MS} (Kr : ∀ (j : Int32) (pc : Nat) (nx : Nat), DC c_Judge_judgeMapPlaces pc .ireturn 1 nx → WS p l e0 (rmS 1 21) s m0 args below meth c0 G A 3 0 0 Q pc [some (.inr (6, 0)), some (.inr (4, q)), some (.inl (.int j))] [.inl (.int r.1)] (r.2)) : ∀ (n i : Nat) (S : MS), i + n = 9 → S.1 4 q 6 ≤ 8 → mpGo S q n i = r → WS p l e0 (rmS 1 21) s m0 args below meth c0 G A 3 0 0 Q 2 [some (.inr (6, 0)), some (.inr (4, q)), some (.inl (.int (nI i)))] [] (S) := by
  intro n
  induction n with
  | zero =>
    intro i S hi h8 hr
    have e : i = 9 := by omega
    subst e; subst hr
    have hh : S.1 4 q 6 ≤ nI 9 := Int32.le_trans h8 (by decide)
    refine ws_iload_n (i := 2) X d_Judge_judgeMapPlaces_2 rfl rfl ?_
    refine ws_aload_n (i := 1) X d_Judge_judgeMapPlaces_3 rfl rfl ?_
    refine ws_getI X fl_Judge_57 (ob4 (by assumption)) d_Judge_judgeMapPlaces_4 ?_
    refine ws_icmp_ge X d_Judge_judgeMapPlaces_7 (fun h7 => ?_) (fun h7 => ?_)
    · refine ws_iconst (v := 0) X d_Judge_judgeMapPlaces_40 rfl ?_
      exact Kr _ _ _ d_Judge_judgeMapPlaces_41
    · exact absurd hh h7
  | succ n ih =>
    intro i S hi h8 hr
    rw [mpGo] at hr
    refine ws_iload_n (i := 2) X d_Judge_judgeMapPlaces_2 rfl rfl ?_
    refine ws_aload_n (i := 1) X d_Judge_judgeMapPlaces_3 rfl rfl ?_
    refine ws_getI X fl_Judge_57 (ob4 (by assumption)) d_Judge_judgeMapPlaces_4 ?_
    refine ws_icmp_ge X d_Judge_judgeMapPlaces_7 (fun h7 => ?_) (fun h7 => ?_)
    · refine ws_iconst (v := 0) X d_Judge_judgeMapPlaces_40 rfl ?_
      simp only [eq_true h7, if_true, if_false] at hr; subst hr; exact Kr _ _ _ d_Judge_judgeMapPlaces_41
    · refine ws_aload_n (i := 0) X d_Judge_judgeMapPlaces_10 rfl rfl ?_
      refine ws_aload_n (i := 1) X d_Judge_judgeMapPlaces_11 rfl rfl ?_
      refine ws_iload_n (i := 2) X d_Judge_judgeMapPlaces_12 rfl rfl ?_
      refine ws_callV1 X (m_Meth_mapPlace _ _ (by assumption) _) cv_Meth_mapPlace ml_Judge_60 (ob4 (by assumption)) rfl rfl (Nat.le_of_ble_eq_true rfl) ⟨Nat.le_of_ble_eq_true rfl, Nat.le_of_ble_eq_true rfl⟩ ⟨Nat.zero_le _, Nat.zero_le _⟩ d_Judge_judgeMapPlaces_13 ?_
      refine ws_putI X fl_Judge_36 ob6 d_Judge_judgeMapPlaces_16 ?_
      refine ws_aload_n (i := 1) X d_Judge_judgeMapPlaces_19 rfl rfl ?_
      refine ws_aload_n (i := 0) X d_Judge_judgeMapPlaces_20 rfl rfl ?_
      refine ws_getI X fl_Judge_36 ob6 d_Judge_judgeMapPlaces_21 ?_
      rw [wI_rd]
      refine ws_callV1 X (m_Meth_kindsAt _ _ (by assumption) _) cv_Meth_kindsAt ml_Judge_63 (ob4 (by assumption)) rfl rfl (Nat.le_of_ble_eq_true rfl) ⟨Nat.le_of_ble_eq_true rfl, Nat.le_of_ble_eq_true rfl⟩ ⟨Nat.zero_le _, Nat.zero_le _⟩ d_Judge_judgeMapPlaces_24 ?_
      rw [kindsAt_p]
      refine ws_iconst (v := (-1)) X d_Judge_judgeMapPlaces_27 rfl ?_
      refine ws_icmp_ne X d_Judge_judgeMapPlaces_28 (fun h28 => ?_) (fun h28 => ?_)
      · refine ws_iinc_2 X rfl d_Judge_judgeMapPlaces_34 rfl (by decide) ?_
        refine ws_goto X d_Judge_judgeMapPlaces_37 ?_
        rw [nI_inc]; simp only [eq_false h7, eq_false h28, if_true, if_false] at hr; exact ih (i + 1) _ (by omega) (by simpa [wI] using h8) hr
      · refine ws_bipush (v := 11) X d_Judge_judgeMapPlaces_31 rfl ?_
        simp only [eq_false h7, eq_true h28, if_true, if_false] at hr; subst hr; exact Kr _ _ _ d_Judge_judgeMapPlaces_33
end L6
theorem m_Judge_judgeMapPlaces (S : MS) (q : Nat) (hq : q < 5) (h8 : S.1 4 q 6 ≤ 8) : MetE y_Judge_judgeMapPlaces c_Judge_judgeMapPlaces 3 ((some .int)) 1 21 [.inr (6, 0), .inr (4, q)] S (some (.inl (.int (mpGo S q 9 0).1))) ((mpGo S q 9 0).2) := by
  refine MetS.of (lv0 := [some (.inr (6, 0)), some (.inr (4, q)), none]) pn_Judge rfl (Nat.le_of_ble_eq_true rfl) (fun p0 l0 e0 s0 m0 args below meth c0 G X => ?_)
  refine ws_iconst (v := 0) X d_Judge_judgeMapPlaces_0 rfl ?_
  refine ws_istn_2 X rfl d_Judge_judgeMapPlaces_1 (by decide) ?_
  exact l_mp X hq (fun j pc nx d => ws_iret X d ⟨rfl, rfl⟩) 9 0 S (by omega) h8 rfl


