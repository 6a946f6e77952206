/-! the model's machine: a STEP -/
def StpOk (S : MS) (F dd : Nat) (o : Int32) (g : Nat) : Prop :=
  (o = 1 → g < 16 ∧ dd < 6) ∧ (o = 2 → g < 16 ∧ dd < 6) ∧ (o = 3 → g < 6 ∧ dd < 6) ∧ (o = 4 → g < 6 ∧ 0 < dd) ∧ (o = 5 → 0 < dd ∧ dd < 6) ∧ (o = 6 → 0 < dd) ∧
  (mIn o 7 10 = true ∨ o = 17 ∨ mIn o 11 14 = true ∨ o = 18 → 2 ≤ dd) ∧ (o = 20 ∨ o = 22 → 0 < dd) ∧ (o = 15 ∨ o = 16 ∨ o = 23 → 0 < dd) ∧ (o = 24 → 0 < dd ∧ g < 16) ∧
  (o = 21 → g < 5 ∧ ∃ t, t ≤ dd ∧ S.1 31 0 g = nI t) ∧ (o = 22 → ∀ f, F = f + 1 → ∃ d2, d2 < 6 ∧ S.1 52 0 f = nI d2) ∧ ¬ o < 0 ∧ o ≤ 24
def mSt1 (S : MS) (F dd : Nat) (o : Int32) (g : Nat) : MS :=
  if o = 19 then S else if o = 20 then mPopS S F (dd - 1)
  else if 7 ≤ o then (if (mIn o 7 10 || decide (o = 17)) = true then mJIS S F (dd - 2) o
  else if (mIn o 11 14 || decide (o = 18)) = true then mJDS S F (dd - 2) o
  else mTrnS S F (dd - 1) o g) else mMovS S F dd o g
def mNx0 (p : Nat) (o : Int32) : Int32 := if mHas o = true then nI (p + 2) else nI (p + 1)
def mNxt (S : MS) (F p dd : Nat) (o : Int32) (g : Nat) : Int32 := if o = 19 then nI g else if o = 20 then (if S.1 53 0 (12 * F + 6 + (dd - 1)) = 0 then nI g else mNx0 p o) else mNx0 p o
def mSt2 (S S1 : MS) (F p dd : Nat) (o : Int32) (g : Nat) : MS := if S1.1 8 0 44 = 0 then wI S1 51 0 F (mNxt S F p dd o g) else S1
def mStpS (S : MS) (F q p dd : Nat) (o : Int32) (g : Nat) : MS :=
  if o = 21 then (if F = 7 then mFailS S 4 7 else mClS S F (dd - (S.1 31 0 g).toNatClampNeg) (S.1 31 0 g).toNatClampNeg g)
  else if o = 22 then (if F = 0 then mGv0 S (dd - 1) q else mGvN S (F - 1) (dd - 1) (S.1 52 0 (F - 1)).toNatClampNeg)
  else mSt2 S (mSt1 S F dd o g) F p dd o g
theorem op_big {o : Int32} (h0 : o ≤ 24) (h7 : 7 ≤ o) (hi : mIn o 7 10 = false) (h17 : ¬ o = 17) (hd : mIn o 11 14 = false) (h18 : ¬ o = 18) (h19 : ¬ o = 19) (h20 : ¬ o = 20) (h21 : ¬ o = 21) (h22 : ¬ o = 22) : o = 15 ∨ o = 16 ∨ o = 23 ∨ o = 24 := by
  obtain ⟨j, hj, rfl⟩ := nI_of2 (M := 24) (n := 24) rfl (fun z => absurd (Int32.lt_of_le_of_lt h7 z) (by decide)) h0
  have key : ∀ j, j < 25 → (!(decide (7 ≤ nI j) && !mIn (nI j) 7 10 && !decide (nI j = 17) && !mIn (nI j) 11 14 && !decide (nI j = 18) && !decide (nI j = 19) && !decide (nI j = 20) && !decide (nI j = 21) && !decide (nI j = 22)) || (decide (nI j = 15) || decide (nI j = 16) || decide (nI j = 23) || decide (nI j = 24))) = true := by decide +kernel
  have h := key j (by omega)
  rw [decide_eq_true h7, hi, decide_eq_false h17, hd, decide_eq_false h18, decide_eq_false h19, decide_eq_false h20, decide_eq_false h21, decide_eq_false h22] at h
  simp only [Bool.or_eq_true, decide_eq_true_eq, Bool.not_false, Bool.and_self, Bool.not_true, Bool.false_or] at h
  rcases h with ((h | h) | h) | h
  · exact Or.inl h
  · exact Or.inr (Or.inl h)
  · exact Or.inr (Or.inr (Or.inl h))
  · exact Or.inr (Or.inr (Or.inr h))
theorem m_M_step (S : MS) (F q p dd g : Nat) (o : Int32) (hF : S.1 8 0 36 = nI (F + 1)) (hF8 : F < 8) (hD : S.1 52 0 F = nI dd) (hd : dd ≤ 6) (hM : S.1 50 0 F = nI q) (hq : q < 5) (hP : S.1 51 0 F = nI p) (hp : p < 48) (hO : S.1 37 0 (48 * q + p) = o) (hg : g < 256) (hG1 : mHas o = true → p + 1 < 48 ∧ S.1 37 0 (48 * q + p + 1) = nI g) (hG0 : mHas o = false → g = 0) (hok : StpOk S F dd o g) : MetE y_M_step c_M_step 7 (none) 5 126 [.inr (8, 0)] S (none) (mStpS S F q p dd o g) := by
  refine MetS.of (lv0 := [some (.inr (8, 0)), none, none, none, none, none, none]) pn_M rfl (Nat.le_of_ble_eq_true rfl) (fun p0 l0 e0 s0 m0 args below meth c0 G X => ?_)
  obtain ⟨k1, k2, k3, k4, k5, k6, k7, k8, k9, k10, k11, k12, k13, k14⟩ := hok
  have hcF := nI_c (i := F) (by omega)
  have hinF : vp_in (nI F) 8 := vp_in_nI hF8 (by omega)
  have hx : (48 : Int32) * nI q + nI p = nI (48 * q + p) := by rw [show (48 : Int32) = nI 48 from rfl, ixN]
  have hin : vp_in (nI (48 * q + p)) 240 := vp_in_nI (by omega) (by omega)
  have hc := nI_c (i := 48 * q + p) (by omega)
  refine ws_aload_n (i := 0) X d_M_step_0 rfl rfl ?_
  refine ws_getI X fl_M_243 ob8 d_M_step_1 ?_
  refine ws_iconst (v := 1) X d_M_step_4 rfl ?_
  refine ws_isub X d_M_step_5 ?_
  rw [hF, nI_m1]
  refine ws_istn_1 X rfl d_M_step_6 (by decide) ?_
  refine ws_aload_n (i := 0) X d_M_step_7 rfl rfl ?_
  refine ws_getR X fl_M_91 ob8 d_M_step_8 ?_
  refine ws_iload_n (i := 1) X d_M_step_11 rfl rfl ?_
  refine ws_iald X ak50 ob50 (hinF) d_M_step_12 ?_
  rw [hcF, hM]
  refine ws_istn_2 X rfl d_M_step_13 (by decide) ?_
  refine ws_aload_n (i := 0) X d_M_step_14 rfl rfl ?_
  refine ws_getR X fl_M_94 ob8 d_M_step_15 ?_
  refine ws_iload_n (i := 1) X d_M_step_18 rfl rfl ?_
  refine ws_iald X ak51 ob51 (hinF) d_M_step_19 ?_
  rw [hcF, hP]
  refine ws_istn_3 X rfl d_M_step_20 (by decide) ?_
  refine ws_aload_n (i := 0) X d_M_step_21 rfl rfl ?_
  refine ws_getR X fl_M_51 ob8 d_M_step_22 ?_
  refine ws_bipush (v := 48) X d_M_step_25 rfl ?_
  refine ws_iload_n (i := 2) X d_M_step_27 rfl rfl ?_
  refine ws_imul X d_M_step_28 ?_
  refine ws_iload_n (i := 3) X d_M_step_29 rfl rfl ?_
  refine ws_iadd X d_M_step_30 ?_
  rw [hx]
  refine ws_iald X ak37 ob37 (hin) d_M_step_31 ?_
  rw [hc, hO]
  refine ws_ist_4 X rfl d_M_step_32 (by decide) ?_
  cases hb : mHas o
  · refine ws_iload (i := 4) X d_M_step_34 rfl ?_
    refine ws_callS1 X (m_M_hasByte _ _) cs_M_hasByte ml_M_188 rfl rfl (Nat.le_of_ble_eq_true rfl) ⟨Nat.le_of_ble_eq_true rfl, Nat.le_of_ble_eq_true rfl⟩ ⟨Nat.zero_le _, Nat.zero_le _⟩ d_M_step_36 ?_
    refine ws_ifB_eq X d_M_step_39 (fun h39 => ?_) (fun h39 => ?_)
    · refine ws_iconst (v := 0) X d_M_step_58 rfl ?_
      have g0 := hG0 hb; rw [show (0 : Int32) = nI g from by rw [g0]; rfl]
      refine ws_ist_5 X rfl d_M_step_59 (by decide) ?_
      refine ws_iload (i := 4) X d_M_step_61 rfl ?_
      refine ws_bipush (v := 21) X d_M_step_63 rfl ?_
      refine ws_icmp_ne X d_M_step_65 (fun h65 => ?_) (fun h65 => ?_)
      · refine ws_iload (i := 4) X d_M_step_76 rfl ?_
        refine ws_bipush (v := 22) X d_M_step_78 rfl ?_
        refine ws_icmp_ne X d_M_step_80 (fun h80 => ?_) (fun h80 => ?_)
        · refine ws_iload_n (i := 3) X d_M_step_90 rfl rfl ?_
          refine ws_iload (i := 4) X d_M_step_91 rfl ?_
          refine ws_callS1 X (m_M_hasByte _ _) cs_M_hasByte ml_M_188 rfl rfl (Nat.le_of_ble_eq_true rfl) ⟨Nat.le_of_ble_eq_true rfl, Nat.le_of_ble_eq_true rfl⟩ ⟨Nat.zero_le _, Nat.zero_le _⟩ d_M_step_93 ?_
          refine ws_ifB_eq X d_M_step_96 (fun h96 => ?_) (fun h96 => ?_)
          · refine ws_iconst (v := 1) X d_M_step_103 rfl ?_
            refine ws_iadd X d_M_step_104 ?_
            have hN : nI p + 1 = mNx0 p o := (by rw [mNx0, hb]; exact nI_1 p); rw [hN]
            refine ws_ist_6 X rfl d_M_step_105 (by decide) ?_
            refine ws_iload (i := 4) X d_M_step_107 rfl ?_
            refine ws_bipush (v := 19) X d_M_step_109 rfl ?_
            refine ws_icmp_ne X d_M_step_111 (fun h111 => ?_) (fun h111 => ?_)
            · refine ws_iload (i := 4) X d_M_step_121 rfl ?_
              refine ws_bipush (v := 20) X d_M_step_123 rfl ?_
              refine ws_icmp_ne X d_M_step_125 (fun h125 => ?_) (fun h125 => ?_)
              · refine ws_iload (i := 4) X d_M_step_152 rfl ?_
                refine ws_bipush (v := 7) X d_M_step_154 rfl ?_
                refine ws_icmp_ge X d_M_step_156 (fun h156 => ?_) (fun h156 => ?_)
                · refine ws_iload (i := 4) X d_M_step_171 rfl ?_
                  refine ws_bipush (v := 7) X d_M_step_173 rfl ?_
                  refine ws_bipush (v := 10) X d_M_step_175 rfl ?_
                  refine ws_callS1 X (m_M_in _ _ _ _) cs_M_in ml_M_106 rfl rfl (Nat.le_of_ble_eq_true rfl) ⟨Nat.le_of_ble_eq_true rfl, Nat.le_of_ble_eq_true rfl⟩ ⟨Nat.zero_le _, Nat.zero_le _⟩ d_M_step_177 ?_
                  refine ws_ifB_ne X d_M_step_180 (fun h180 => ?_) (fun h180 => ?_)
                  · obtain ⟨d', rfl⟩ : ∃ d', dd = d' + 2 := ⟨dd - 2, by have := k7 (by first | exact Or.inl (by assumption) | exact Or.inr (Or.inl (by assumption))); omega⟩
                    refine ws_aload_n (i := 0) X d_M_step_190 rfl rfl ?_
                    refine ws_iload (i := 4) X d_M_step_191 rfl ?_
                    refine ws_callV0 X (m_M_joinsInts S F d' o hF hF8 hD hd) cv_M_joinsInts ml_M_291 ob8 rfl rfl (Nat.le_of_ble_eq_true rfl) ⟨Nat.le_of_ble_eq_true rfl, Nat.le_of_ble_eq_true rfl⟩ ⟨Nat.zero_le _, Nat.zero_le _⟩ d_M_step_193 ?_
                    refine ws_goto X d_M_step_196 ?_
                    refine ws_aload_n (i := 0) X d_M_step_235 rfl rfl ?_
                    refine ws_getI X fl_M_249 ob8 d_M_step_236 ?_
                    refine ws_if_ne X d_M_step_239 (fun h239 => ?_) (fun h239 => ?_)
                    · first | rw [hcF] | skip
                      refine ws_vret X d_M_step_250 ?_
                      exact ⟨rfl, by rw [mStpS, if_neg h65, if_neg h80]; simp [mSt2, mSt1, mNxt, hb, h39, eq_false h65, eq_false h80, h96, eq_false h111, eq_false h125, eq_true h156, h180, eq_false h239]⟩
                    · refine ws_aload_n (i := 0) X d_M_step_242 rfl rfl ?_
                      refine ws_getR X fl_M_94 ob8 d_M_step_243 ?_
                      refine ws_iload_n (i := 1) X d_M_step_246 rfl rfl ?_
                      refine ws_iload (i := 6) X d_M_step_247 rfl ?_
                      refine ws_iast X ak51 ob51 (hinF) d_M_step_249 ?_
                      first | rw [hcF] | skip
                      refine ws_vret X d_M_step_250 ?_
                      exact ⟨rfl, by rw [mStpS, if_neg h65, if_neg h80]; simp [mSt2, mSt1, mNxt, hb, h39, eq_false h65, eq_false h80, h96, eq_false h111, eq_false h125, eq_true h156, h180, eq_true h239]⟩
                  · refine ws_iload (i := 4) X d_M_step_183 rfl ?_
                    refine ws_bipush (v := 17) X d_M_step_185 rfl ?_
                    refine ws_icmp_ne X d_M_step_187 (fun h187 => ?_) (fun h187 => ?_)
                    · refine ws_iload (i := 4) X d_M_step_199 rfl ?_
                      refine ws_bipush (v := 11) X d_M_step_201 rfl ?_
                      refine ws_bipush (v := 14) X d_M_step_203 rfl ?_
                      refine ws_callS1 X (m_M_in _ _ _ _) cs_M_in ml_M_106 rfl rfl (Nat.le_of_ble_eq_true rfl) ⟨Nat.le_of_ble_eq_true rfl, Nat.le_of_ble_eq_true rfl⟩ ⟨Nat.zero_le _, Nat.zero_le _⟩ d_M_step_205 ?_
                      refine ws_ifB_ne X d_M_step_208 (fun h208 => ?_) (fun h208 => ?_)
                      · obtain ⟨d', rfl⟩ : ∃ d', dd = d' + 2 := ⟨dd - 2, by have := k7 (by first | exact Or.inr (Or.inr (Or.inl (by assumption))) | exact Or.inr (Or.inr (Or.inr (by assumption)))); omega⟩
                        refine ws_aload_n (i := 0) X d_M_step_218 rfl rfl ?_
                        refine ws_iload (i := 4) X d_M_step_219 rfl ?_
                        refine ws_callV0 X (m_M_joinsDoubles S F d' o hF hF8 hD hd) cv_M_joinsDoubles ml_M_294 ob8 rfl rfl (Nat.le_of_ble_eq_true rfl) ⟨Nat.le_of_ble_eq_true rfl, Nat.le_of_ble_eq_true rfl⟩ ⟨Nat.zero_le _, Nat.zero_le _⟩ d_M_step_221 ?_
                        refine ws_goto X d_M_step_224 ?_
                        refine ws_aload_n (i := 0) X d_M_step_235 rfl rfl ?_
                        refine ws_getI X fl_M_249 ob8 d_M_step_236 ?_
                        refine ws_if_ne X d_M_step_239 (fun h239 => ?_) (fun h239 => ?_)
                        · first | rw [hcF] | skip
                          refine ws_vret X d_M_step_250 ?_
                          exact ⟨rfl, by rw [mStpS, if_neg h65, if_neg h80]; simp [mSt2, mSt1, mNxt, hb, h39, eq_false h65, eq_false h80, h96, eq_false h111, eq_false h125, eq_true h156, h180, eq_false h187, h208, eq_false h239]⟩
                        · refine ws_aload_n (i := 0) X d_M_step_242 rfl rfl ?_
                          refine ws_getR X fl_M_94 ob8 d_M_step_243 ?_
                          refine ws_iload_n (i := 1) X d_M_step_246 rfl rfl ?_
                          refine ws_iload (i := 6) X d_M_step_247 rfl ?_
                          refine ws_iast X ak51 ob51 (hinF) d_M_step_249 ?_
                          first | rw [hcF] | skip
                          refine ws_vret X d_M_step_250 ?_
                          exact ⟨rfl, by rw [mStpS, if_neg h65, if_neg h80]; simp [mSt2, mSt1, mNxt, hb, h39, eq_false h65, eq_false h80, h96, eq_false h111, eq_false h125, eq_true h156, h180, eq_false h187, h208, eq_true h239]⟩
                      · refine ws_iload (i := 4) X d_M_step_211 rfl ?_
                        refine ws_bipush (v := 18) X d_M_step_213 rfl ?_
                        refine ws_icmp_ne X d_M_step_215 (fun h215 => ?_) (fun h215 => ?_)
                        · have hbig := op_big k14 h156 h180 h187 h208 h215 h111 h125 h65 h80
                          obtain ⟨d', rfl⟩ : ∃ d', dd = d' + 1 := ⟨dd - 1, by rcases hbig with z | z | z | z; exact Nat.le_antisymm (by have := k9 (Or.inl z); omega) (by have := k9 (Or.inl z); omega); exact Nat.le_antisymm (by have := k9 (Or.inr (Or.inl z)); omega) (by have := k9 (Or.inr (Or.inl z)); omega); exact Nat.le_antisymm (by have := k9 (Or.inr (Or.inr z)); omega) (by have := k9 (Or.inr (Or.inr z)); omega); exact Nat.le_antisymm (by have := (k10 z).1; omega) (by have := (k10 z).1; omega)⟩
                          refine ws_aload_n (i := 0) X d_M_step_227 rfl rfl ?_
                          refine ws_iload (i := 4) X d_M_step_228 rfl ?_
                          refine ws_iload (i := 5) X d_M_step_230 rfl ?_
                          refine ws_callV0 X (m_M_turns S F d' g o hF hF8 hD (by omega) (fun z1 z2 z3 => by rcases hbig with z | z | z | z; exact absurd z z1; exact absurd z z2; exact absurd z z3; exact (k10 z).2)) cv_M_turns ml_M_297 ob8 rfl rfl (Nat.le_of_ble_eq_true rfl) ⟨Nat.le_of_ble_eq_true rfl, Nat.le_of_ble_eq_true rfl⟩ ⟨Nat.zero_le _, Nat.zero_le _⟩ d_M_step_232 ?_
                          refine ws_aload_n (i := 0) X d_M_step_235 rfl rfl ?_
                          refine ws_getI X fl_M_249 ob8 d_M_step_236 ?_
                          refine ws_if_ne X d_M_step_239 (fun h239 => ?_) (fun h239 => ?_)
                          · first | rw [hcF] | skip
                            refine ws_vret X d_M_step_250 ?_
                            exact ⟨rfl, by rw [mStpS, if_neg h65, if_neg h80]; simp [mSt2, mSt1, mNxt, hb, h39, eq_false h65, eq_false h80, h96, eq_false h111, eq_false h125, eq_true h156, h180, eq_false h187, h208, eq_false h215, eq_false h239]⟩
                          · refine ws_aload_n (i := 0) X d_M_step_242 rfl rfl ?_
                            refine ws_getR X fl_M_94 ob8 d_M_step_243 ?_
                            refine ws_iload_n (i := 1) X d_M_step_246 rfl rfl ?_
                            refine ws_iload (i := 6) X d_M_step_247 rfl ?_
                            refine ws_iast X ak51 ob51 (hinF) d_M_step_249 ?_
                            first | rw [hcF] | skip
                            refine ws_vret X d_M_step_250 ?_
                            exact ⟨rfl, by rw [mStpS, if_neg h65, if_neg h80]; simp [mSt2, mSt1, mNxt, hb, h39, eq_false h65, eq_false h80, h96, eq_false h111, eq_false h125, eq_true h156, h180, eq_false h187, h208, eq_false h215, eq_true h239]⟩
                        · obtain ⟨d', rfl⟩ : ∃ d', dd = d' + 2 := ⟨dd - 2, by have := k7 (by first | exact Or.inr (Or.inr (Or.inl (by assumption))) | exact Or.inr (Or.inr (Or.inr (by assumption)))); omega⟩
                          refine ws_aload_n (i := 0) X d_M_step_218 rfl rfl ?_
                          refine ws_iload (i := 4) X d_M_step_219 rfl ?_
                          refine ws_callV0 X (m_M_joinsDoubles S F d' o hF hF8 hD hd) cv_M_joinsDoubles ml_M_294 ob8 rfl rfl (Nat.le_of_ble_eq_true rfl) ⟨Nat.le_of_ble_eq_true rfl, Nat.le_of_ble_eq_true rfl⟩ ⟨Nat.zero_le _, Nat.zero_le _⟩ d_M_step_221 ?_
                          refine ws_goto X d_M_step_224 ?_
                          refine ws_aload_n (i := 0) X d_M_step_235 rfl rfl ?_
                          refine ws_getI X fl_M_249 ob8 d_M_step_236 ?_
                          refine ws_if_ne X d_M_step_239 (fun h239 => ?_) (fun h239 => ?_)
                          · first | rw [hcF] | skip
                            refine ws_vret X d_M_step_250 ?_
                            exact ⟨rfl, by rw [mStpS, if_neg h65, if_neg h80]; simp [mSt2, mSt1, mNxt, hb, h39, eq_false h65, eq_false h80, h96, eq_false h111, eq_false h125, eq_true h156, h180, eq_false h187, h208, eq_true h215, eq_false h239]⟩
                          · refine ws_aload_n (i := 0) X d_M_step_242 rfl rfl ?_
                            refine ws_getR X fl_M_94 ob8 d_M_step_243 ?_
                            refine ws_iload_n (i := 1) X d_M_step_246 rfl rfl ?_
                            refine ws_iload (i := 6) X d_M_step_247 rfl ?_
                            refine ws_iast X ak51 ob51 (hinF) d_M_step_249 ?_
                            first | rw [hcF] | skip
                            refine ws_vret X d_M_step_250 ?_
                            exact ⟨rfl, by rw [mStpS, if_neg h65, if_neg h80]; simp [mSt2, mSt1, mNxt, hb, h39, eq_false h65, eq_false h80, h96, eq_false h111, eq_false h125, eq_true h156, h180, eq_false h187, h208, eq_true h215, eq_true h239]⟩
                    · obtain ⟨d', rfl⟩ : ∃ d', dd = d' + 2 := ⟨dd - 2, by have := k7 (by first | exact Or.inl (by assumption) | exact Or.inr (Or.inl (by assumption))); omega⟩
                      refine ws_aload_n (i := 0) X d_M_step_190 rfl rfl ?_
                      refine ws_iload (i := 4) X d_M_step_191 rfl ?_
                      refine ws_callV0 X (m_M_joinsInts S F d' o hF hF8 hD hd) cv_M_joinsInts ml_M_291 ob8 rfl rfl (Nat.le_of_ble_eq_true rfl) ⟨Nat.le_of_ble_eq_true rfl, Nat.le_of_ble_eq_true rfl⟩ ⟨Nat.zero_le _, Nat.zero_le _⟩ d_M_step_193 ?_
                      refine ws_goto X d_M_step_196 ?_
                      refine ws_aload_n (i := 0) X d_M_step_235 rfl rfl ?_
                      refine ws_getI X fl_M_249 ob8 d_M_step_236 ?_
                      refine ws_if_ne X d_M_step_239 (fun h239 => ?_) (fun h239 => ?_)
                      · first | rw [hcF] | skip
                        refine ws_vret X d_M_step_250 ?_
                        exact ⟨rfl, by rw [mStpS, if_neg h65, if_neg h80]; simp [mSt2, mSt1, mNxt, hb, h39, eq_false h65, eq_false h80, h96, eq_false h111, eq_false h125, eq_true h156, h180, eq_true h187, eq_false h239]⟩
                      · refine ws_aload_n (i := 0) X d_M_step_242 rfl rfl ?_
                        refine ws_getR X fl_M_94 ob8 d_M_step_243 ?_
                        refine ws_iload_n (i := 1) X d_M_step_246 rfl rfl ?_
                        refine ws_iload (i := 6) X d_M_step_247 rfl ?_
                        refine ws_iast X ak51 ob51 (hinF) d_M_step_249 ?_
                        first | rw [hcF] | skip
                        refine ws_vret X d_M_step_250 ?_
                        exact ⟨rfl, by rw [mStpS, if_neg h65, if_neg h80]; simp [mSt2, mSt1, mNxt, hb, h39, eq_false h65, eq_false h80, h96, eq_false h111, eq_false h125, eq_true h156, h180, eq_true h187, eq_true h239]⟩
                · refine ws_aload_n (i := 0) X d_M_step_159 rfl rfl ?_
                  refine ws_iload_n (i := 1) X d_M_step_160 rfl rfl ?_
                  refine ws_iload (i := 4) X d_M_step_161 rfl ?_
                  refine ws_iload (i := 5) X d_M_step_163 rfl ?_
                  refine ws_callV0 X (m_M_moves S F dd g o hF hF8 hD hd hg k1 k2 k3 k4 k5 k6) cv_M_moves ml_M_288 ob8 rfl rfl (Nat.le_of_ble_eq_true rfl) ⟨Nat.le_of_ble_eq_true rfl, Nat.le_of_ble_eq_true rfl⟩ ⟨Nat.zero_le _, Nat.zero_le _⟩ d_M_step_165 ?_
                  refine ws_goto X d_M_step_168 ?_
                  refine ws_aload_n (i := 0) X d_M_step_235 rfl rfl ?_
                  refine ws_getI X fl_M_249 ob8 d_M_step_236 ?_
                  refine ws_if_ne X d_M_step_239 (fun h239 => ?_) (fun h239 => ?_)
                  · first | rw [hcF] | skip
                    refine ws_vret X d_M_step_250 ?_
                    exact ⟨rfl, by rw [mStpS, if_neg h65, if_neg h80]; simp [mSt2, mSt1, mNxt, hb, h39, eq_false h65, eq_false h80, h96, eq_false h111, eq_false h125, eq_false h156, eq_false h239]⟩
                  · refine ws_aload_n (i := 0) X d_M_step_242 rfl rfl ?_
                    refine ws_getR X fl_M_94 ob8 d_M_step_243 ?_
                    refine ws_iload_n (i := 1) X d_M_step_246 rfl rfl ?_
                    refine ws_iload (i := 6) X d_M_step_247 rfl ?_
                    refine ws_iast X ak51 ob51 (hinF) d_M_step_249 ?_
                    first | rw [hcF] | skip
                    refine ws_vret X d_M_step_250 ?_
                    exact ⟨rfl, by rw [mStpS, if_neg h65, if_neg h80]; simp [mSt2, mSt1, mNxt, hb, h39, eq_false h65, eq_false h80, h96, eq_false h111, eq_false h125, eq_false h156, eq_true h239]⟩
              · have kd := k8 (Or.inl h125)
                obtain ⟨d', rfl⟩ : ∃ d', dd = d' + 1 := ⟨dd - 1, by omega⟩
                have hin0 : vp_in (nI (12 * F + 6 + d')) 96 := vp_in_nI (by omega) (by omega)
                have hc0 := nI_c (i := 12 * F + 6 + d') (by omega)
                refine ws_aload_n (i := 0) X d_M_step_128 rfl rfl ?_
                refine ws_getR X fl_M_100 ob8 d_M_step_129 ?_
                refine ws_aload_n (i := 0) X d_M_step_132 rfl rfl ?_
                refine ws_callV1 X (m_M_pop S F d' hF hF8 hD (by omega)) cv_M_pop ml_M_285 ob8 rfl rfl (Nat.le_of_ble_eq_true rfl) ⟨Nat.le_of_ble_eq_true rfl, Nat.le_of_ble_eq_true rfl⟩ ⟨Nat.zero_le _, Nat.zero_le _⟩ d_M_step_133 ?_
                refine ws_iald X ak53 ob53 (hin0) d_M_step_136 ?_
                rw [hc0, mPop_o _ _ _ _ _ _ (by decide)]
                refine ws_if_ne X d_M_step_137 (fun h137 => ?_) (fun h137 => ?_)
                · refine ws_iload (i := 6) X d_M_step_145 rfl ?_
                  refine ws_ist_6 X rfl d_M_step_147 (by decide) ?_
                  refine ws_goto X d_M_step_149 ?_
                  refine ws_aload_n (i := 0) X d_M_step_235 rfl rfl ?_
                  refine ws_getI X fl_M_249 ob8 d_M_step_236 ?_
                  refine ws_if_ne X d_M_step_239 (fun h239 => ?_) (fun h239 => ?_)
                  · first | rw [hcF] | skip
                    refine ws_vret X d_M_step_250 ?_
                    exact ⟨rfl, by rw [mStpS, if_neg h65, if_neg h80]; simp [mSt2, mSt1, mNxt, hb, h39, eq_false h65, eq_false h80, h96, eq_false h111, eq_true h125, eq_false h137, eq_false h239]⟩
                  · refine ws_aload_n (i := 0) X d_M_step_242 rfl rfl ?_
                    refine ws_getR X fl_M_94 ob8 d_M_step_243 ?_
                    refine ws_iload_n (i := 1) X d_M_step_246 rfl rfl ?_
                    refine ws_iload (i := 6) X d_M_step_247 rfl ?_
                    refine ws_iast X ak51 ob51 (hinF) d_M_step_249 ?_
                    first | rw [hcF] | skip
                    refine ws_vret X d_M_step_250 ?_
                    exact ⟨rfl, by rw [mStpS, if_neg h65, if_neg h80]; simp [mSt2, mSt1, mNxt, hb, h39, eq_false h65, eq_false h80, h96, eq_false h111, eq_true h125, eq_false h137, eq_true h239]⟩
                · refine ws_iload (i := 5) X d_M_step_140 rfl ?_
                  refine ws_goto X d_M_step_142 ?_
                  refine ws_ist_6 X rfl d_M_step_147 (by decide) ?_
                  refine ws_goto X d_M_step_149 ?_
                  refine ws_aload_n (i := 0) X d_M_step_235 rfl rfl ?_
                  refine ws_getI X fl_M_249 ob8 d_M_step_236 ?_
                  refine ws_if_ne X d_M_step_239 (fun h239 => ?_) (fun h239 => ?_)
                  · first | rw [hcF] | skip
                    refine ws_vret X d_M_step_250 ?_
                    exact ⟨rfl, by rw [mStpS, if_neg h65, if_neg h80]; simp [mSt2, mSt1, mNxt, hb, h39, eq_false h65, eq_false h80, h96, eq_false h111, eq_true h125, eq_true h137, eq_false h239]⟩
                  · refine ws_aload_n (i := 0) X d_M_step_242 rfl rfl ?_
                    refine ws_getR X fl_M_94 ob8 d_M_step_243 ?_
                    refine ws_iload_n (i := 1) X d_M_step_246 rfl rfl ?_
                    refine ws_iload (i := 6) X d_M_step_247 rfl ?_
                    refine ws_iast X ak51 ob51 (hinF) d_M_step_249 ?_
                    first | rw [hcF] | skip
                    refine ws_vret X d_M_step_250 ?_
                    exact ⟨rfl, by rw [mStpS, if_neg h65, if_neg h80]; simp [mSt2, mSt1, mNxt, hb, h39, eq_false h65, eq_false h80, h96, eq_false h111, eq_true h125, eq_true h137, eq_true h239]⟩
            · refine ws_iload (i := 5) X d_M_step_114 rfl ?_
              refine ws_ist_6 X rfl d_M_step_116 (by decide) ?_
              refine ws_goto X d_M_step_118 ?_
              refine ws_aload_n (i := 0) X d_M_step_235 rfl rfl ?_
              refine ws_getI X fl_M_249 ob8 d_M_step_236 ?_
              refine ws_if_ne X d_M_step_239 (fun h239 => ?_) (fun h239 => ?_)
              · first | rw [hcF] | skip
                refine ws_vret X d_M_step_250 ?_
                exact ⟨rfl, by rw [mStpS, if_neg h65, if_neg h80]; simp [mSt2, mSt1, mNxt, hb, h39, eq_false h65, eq_false h80, h96, eq_true h111, eq_false h239]⟩
              · refine ws_aload_n (i := 0) X d_M_step_242 rfl rfl ?_
                refine ws_getR X fl_M_94 ob8 d_M_step_243 ?_
                refine ws_iload_n (i := 1) X d_M_step_246 rfl rfl ?_
                refine ws_iload (i := 6) X d_M_step_247 rfl ?_
                refine ws_iast X ak51 ob51 (hinF) d_M_step_249 ?_
                first | rw [hcF] | skip
                refine ws_vret X d_M_step_250 ?_
                exact ⟨rfl, by rw [mStpS, if_neg h65, if_neg h80]; simp [mSt2, mSt1, mNxt, hb, h39, eq_false h65, eq_false h80, h96, eq_true h111, eq_true h239]⟩
          · exact absurd (hb.symm.trans h96) (by decide)
        · have kd := k8 (Or.inr h80)
          obtain ⟨d', rfl⟩ : ∃ d', dd = d' + 1 := ⟨dd - 1, by omega⟩
          rcases F with _ | F
          · refine ws_aload_n (i := 0) X d_M_step_83 rfl rfl ?_
            refine ws_iload_n (i := 1) X d_M_step_84 rfl rfl ?_
            refine ws_iload_n (i := 2) X d_M_step_85 rfl rfl ?_
            refine ws_callV0 X (m_M_gives_0 S d' q hF hD (by omega) hq) cv_M_gives ml_M_283 ob8 rfl rfl (Nat.le_of_ble_eq_true rfl) ⟨Nat.le_of_ble_eq_true rfl, Nat.le_of_ble_eq_true rfl⟩ ⟨Nat.zero_le _, Nat.zero_le _⟩ d_M_step_86 ?_
            refine ws_vret X d_M_step_89 ?_
            exact ⟨rfl, by rw [mStpS, if_neg h65, if_pos h80, if_pos rfl, Nat.add_sub_cancel]⟩
          · refine ws_aload_n (i := 0) X d_M_step_83 rfl rfl ?_
            obtain ⟨d2, e1, e2⟩ := k12 h80 F rfl
            refine ws_iload_n (i := 1) X d_M_step_84 rfl rfl ?_
            refine ws_iload_n (i := 2) X d_M_step_85 rfl rfl ?_
            refine ws_callV0 X (m_M_gives_n S F d' d2 q hF hF8 hD (by omega) hq e2 e1) cv_M_gives ml_M_283 ob8 rfl rfl (Nat.le_of_ble_eq_true rfl) ⟨Nat.le_of_ble_eq_true rfl, Nat.le_of_ble_eq_true rfl⟩ ⟨Nat.zero_le _, Nat.zero_le _⟩ d_M_step_86 ?_
            refine ws_vret X d_M_step_89 ?_
            exact ⟨rfl, by rw [mStpS, if_neg h65, if_pos h80, if_neg (by omega), Nat.add_sub_cancel, Nat.add_sub_cancel, e2, nI_c (by omega)]⟩
      · obtain ⟨g5, t, ht, hT⟩ := k11 h65
        obtain ⟨d', rfl⟩ : ∃ d', dd = d' + t := ⟨dd - t, by omega⟩
        have hTc : (S.1 31 0 g).toNatClampNeg = t := by rw [hT, nI_c (by omega)]
        by_cases h7 : F = 7
        · refine ws_aload_n (i := 0) X d_M_step_68 rfl rfl ?_
          refine ws_iload_n (i := 1) X d_M_step_69 rfl rfl ?_
          subst h7
          refine ws_iload (i := 5) X d_M_step_70 rfl ?_
          refine ws_callV0 X (m_M_calls_8 S g hF) cv_M_calls ml_M_281 ob8 rfl rfl (Nat.le_of_ble_eq_true rfl) ⟨Nat.le_of_ble_eq_true rfl, Nat.le_of_ble_eq_true rfl⟩ ⟨Nat.zero_le _, Nat.zero_le _⟩ d_M_step_72 ?_
          refine ws_vret X d_M_step_75 ?_
          first | exact ⟨rfl, by rw [mStpS, if_pos h65, if_pos rfl]⟩ | exact ⟨rfl, by rw [mStpS, if_pos h65, if_neg h7, hTc, Nat.add_sub_cancel]⟩
        · refine ws_aload_n (i := 0) X d_M_step_68 rfl rfl ?_
          refine ws_iload_n (i := 1) X d_M_step_69 rfl rfl ?_
          refine ws_iload (i := 5) X d_M_step_70 rfl ?_
          refine ws_callV0 X (m_M_calls_n S F d' t g hF (by omega) hD hd g5 hT) cv_M_calls ml_M_281 ob8 rfl rfl (Nat.le_of_ble_eq_true rfl) ⟨Nat.le_of_ble_eq_true rfl, Nat.le_of_ble_eq_true rfl⟩ ⟨Nat.zero_le _, Nat.zero_le _⟩ d_M_step_72 ?_
          refine ws_vret X d_M_step_75 ?_
          first | exact ⟨rfl, by rw [mStpS, if_pos h65, if_pos rfl]⟩ | exact ⟨rfl, by rw [mStpS, if_pos h65, if_neg h7, hTc, Nat.add_sub_cancel]⟩
    · exact absurd (hb.symm.trans h39) (by decide)
  · refine ws_iload (i := 4) X d_M_step_34 rfl ?_
    refine ws_callS1 X (m_M_hasByte _ _) cs_M_hasByte ml_M_188 rfl rfl (Nat.le_of_ble_eq_true rfl) ⟨Nat.le_of_ble_eq_true rfl, Nat.le_of_ble_eq_true rfl⟩ ⟨Nat.zero_le _, Nat.zero_le _⟩ d_M_step_36 ?_
    refine ws_ifB_eq X d_M_step_39 (fun h39 => ?_) (fun h39 => ?_)
    · exact absurd (hb.symm.trans h39) (by decide)
    · obtain ⟨p1, p2⟩ := hG1 hb; have hinx : vp_in (nI (48 * q + p + 1)) 240 := vp_in_nI (by omega) (by omega); have hcx := nI_c (i := 48 * q + p + 1) (by omega)
      refine ws_aload_n (i := 0) X d_M_step_42 rfl rfl ?_
      refine ws_getR X fl_M_51 ob8 d_M_step_43 ?_
      refine ws_bipush (v := 48) X d_M_step_46 rfl ?_
      refine ws_iload_n (i := 2) X d_M_step_48 rfl rfl ?_
      refine ws_imul X d_M_step_49 ?_
      refine ws_iload_n (i := 3) X d_M_step_50 rfl rfl ?_
      refine ws_iadd X d_M_step_51 ?_
      rw [hx]
      refine ws_iconst (v := 1) X d_M_step_52 rfl ?_
      refine ws_iadd X d_M_step_53 ?_
      rw [nI_1]
      refine ws_iald X ak37 ob37 (hinx) d_M_step_54 ?_
      rw [hcx, p2]
      refine ws_goto X d_M_step_55 ?_
      refine ws_ist_5 X rfl d_M_step_59 (by decide) ?_
      refine ws_iload (i := 4) X d_M_step_61 rfl ?_
      refine ws_bipush (v := 21) X d_M_step_63 rfl ?_
      refine ws_icmp_ne X d_M_step_65 (fun h65 => ?_) (fun h65 => ?_)
      · refine ws_iload (i := 4) X d_M_step_76 rfl ?_
        refine ws_bipush (v := 22) X d_M_step_78 rfl ?_
        refine ws_icmp_ne X d_M_step_80 (fun h80 => ?_) (fun h80 => ?_)
        · refine ws_iload_n (i := 3) X d_M_step_90 rfl rfl ?_
          refine ws_iload (i := 4) X d_M_step_91 rfl ?_
          refine ws_callS1 X (m_M_hasByte _ _) cs_M_hasByte ml_M_188 rfl rfl (Nat.le_of_ble_eq_true rfl) ⟨Nat.le_of_ble_eq_true rfl, Nat.le_of_ble_eq_true rfl⟩ ⟨Nat.zero_le _, Nat.zero_le _⟩ d_M_step_93 ?_
          refine ws_ifB_eq X d_M_step_96 (fun h96 => ?_) (fun h96 => ?_)
          · exact absurd (hb.symm.trans h96) (by decide)
          · refine ws_iconst (v := 2) X d_M_step_99 rfl ?_
            refine ws_goto X d_M_step_100 ?_
            refine ws_iadd X d_M_step_104 ?_
            have hN : nI p + 2 = mNx0 p o := (by rw [mNx0, if_pos hb, show (2 : Int32) = nI 2 from rfl, nI_add]); rw [hN]
            refine ws_ist_6 X rfl d_M_step_105 (by decide) ?_
            refine ws_iload (i := 4) X d_M_step_107 rfl ?_
            refine ws_bipush (v := 19) X d_M_step_109 rfl ?_
            refine ws_icmp_ne X d_M_step_111 (fun h111 => ?_) (fun h111 => ?_)
            · refine ws_iload (i := 4) X d_M_step_121 rfl ?_
              refine ws_bipush (v := 20) X d_M_step_123 rfl ?_
              refine ws_icmp_ne X d_M_step_125 (fun h125 => ?_) (fun h125 => ?_)
              · refine ws_iload (i := 4) X d_M_step_152 rfl ?_
                refine ws_bipush (v := 7) X d_M_step_154 rfl ?_
                refine ws_icmp_ge X d_M_step_156 (fun h156 => ?_) (fun h156 => ?_)
                · refine ws_iload (i := 4) X d_M_step_171 rfl ?_
                  refine ws_bipush (v := 7) X d_M_step_173 rfl ?_
                  refine ws_bipush (v := 10) X d_M_step_175 rfl ?_
                  refine ws_callS1 X (m_M_in _ _ _ _) cs_M_in ml_M_106 rfl rfl (Nat.le_of_ble_eq_true rfl) ⟨Nat.le_of_ble_eq_true rfl, Nat.le_of_ble_eq_true rfl⟩ ⟨Nat.zero_le _, Nat.zero_le _⟩ d_M_step_177 ?_
                  refine ws_ifB_ne X d_M_step_180 (fun h180 => ?_) (fun h180 => ?_)
                  · obtain ⟨d', rfl⟩ : ∃ d', dd = d' + 2 := ⟨dd - 2, by have := k7 (by first | exact Or.inl (by assumption) | exact Or.inr (Or.inl (by assumption))); omega⟩
                    refine ws_aload_n (i := 0) X d_M_step_190 rfl rfl ?_
                    refine ws_iload (i := 4) X d_M_step_191 rfl ?_
                    refine ws_callV0 X (m_M_joinsInts S F d' o hF hF8 hD hd) cv_M_joinsInts ml_M_291 ob8 rfl rfl (Nat.le_of_ble_eq_true rfl) ⟨Nat.le_of_ble_eq_true rfl, Nat.le_of_ble_eq_true rfl⟩ ⟨Nat.zero_le _, Nat.zero_le _⟩ d_M_step_193 ?_
                    refine ws_goto X d_M_step_196 ?_
                    refine ws_aload_n (i := 0) X d_M_step_235 rfl rfl ?_
                    refine ws_getI X fl_M_249 ob8 d_M_step_236 ?_
                    refine ws_if_ne X d_M_step_239 (fun h239 => ?_) (fun h239 => ?_)
                    · first | rw [hcF] | skip
                      refine ws_vret X d_M_step_250 ?_
                      exact ⟨rfl, by rw [mStpS, if_neg h65, if_neg h80]; simp [mSt2, mSt1, mNxt, hb, h39, eq_false h65, eq_false h80, h96, eq_false h111, eq_false h125, eq_true h156, h180, eq_false h239]⟩
                    · refine ws_aload_n (i := 0) X d_M_step_242 rfl rfl ?_
                      refine ws_getR X fl_M_94 ob8 d_M_step_243 ?_
                      refine ws_iload_n (i := 1) X d_M_step_246 rfl rfl ?_
                      refine ws_iload (i := 6) X d_M_step_247 rfl ?_
                      refine ws_iast X ak51 ob51 (hinF) d_M_step_249 ?_
                      first | rw [hcF] | skip
                      refine ws_vret X d_M_step_250 ?_
                      exact ⟨rfl, by rw [mStpS, if_neg h65, if_neg h80]; simp [mSt2, mSt1, mNxt, hb, h39, eq_false h65, eq_false h80, h96, eq_false h111, eq_false h125, eq_true h156, h180, eq_true h239]⟩
                  · refine ws_iload (i := 4) X d_M_step_183 rfl ?_
                    refine ws_bipush (v := 17) X d_M_step_185 rfl ?_
                    refine ws_icmp_ne X d_M_step_187 (fun h187 => ?_) (fun h187 => ?_)
                    · refine ws_iload (i := 4) X d_M_step_199 rfl ?_
                      refine ws_bipush (v := 11) X d_M_step_201 rfl ?_
                      refine ws_bipush (v := 14) X d_M_step_203 rfl ?_
                      refine ws_callS1 X (m_M_in _ _ _ _) cs_M_in ml_M_106 rfl rfl (Nat.le_of_ble_eq_true rfl) ⟨Nat.le_of_ble_eq_true rfl, Nat.le_of_ble_eq_true rfl⟩ ⟨Nat.zero_le _, Nat.zero_le _⟩ d_M_step_205 ?_
                      refine ws_ifB_ne X d_M_step_208 (fun h208 => ?_) (fun h208 => ?_)
                      · obtain ⟨d', rfl⟩ : ∃ d', dd = d' + 2 := ⟨dd - 2, by have := k7 (by first | exact Or.inr (Or.inr (Or.inl (by assumption))) | exact Or.inr (Or.inr (Or.inr (by assumption)))); omega⟩
                        refine ws_aload_n (i := 0) X d_M_step_218 rfl rfl ?_
                        refine ws_iload (i := 4) X d_M_step_219 rfl ?_
                        refine ws_callV0 X (m_M_joinsDoubles S F d' o hF hF8 hD hd) cv_M_joinsDoubles ml_M_294 ob8 rfl rfl (Nat.le_of_ble_eq_true rfl) ⟨Nat.le_of_ble_eq_true rfl, Nat.le_of_ble_eq_true rfl⟩ ⟨Nat.zero_le _, Nat.zero_le _⟩ d_M_step_221 ?_
                        refine ws_goto X d_M_step_224 ?_
                        refine ws_aload_n (i := 0) X d_M_step_235 rfl rfl ?_
                        refine ws_getI X fl_M_249 ob8 d_M_step_236 ?_
                        refine ws_if_ne X d_M_step_239 (fun h239 => ?_) (fun h239 => ?_)
                        · first | rw [hcF] | skip
                          refine ws_vret X d_M_step_250 ?_
                          exact ⟨rfl, by rw [mStpS, if_neg h65, if_neg h80]; simp [mSt2, mSt1, mNxt, hb, h39, eq_false h65, eq_false h80, h96, eq_false h111, eq_false h125, eq_true h156, h180, eq_false h187, h208, eq_false h239]⟩
                        · refine ws_aload_n (i := 0) X d_M_step_242 rfl rfl ?_
                          refine ws_getR X fl_M_94 ob8 d_M_step_243 ?_
                          refine ws_iload_n (i := 1) X d_M_step_246 rfl rfl ?_
                          refine ws_iload (i := 6) X d_M_step_247 rfl ?_
                          refine ws_iast X ak51 ob51 (hinF) d_M_step_249 ?_
                          first | rw [hcF] | skip
                          refine ws_vret X d_M_step_250 ?_
                          exact ⟨rfl, by rw [mStpS, if_neg h65, if_neg h80]; simp [mSt2, mSt1, mNxt, hb, h39, eq_false h65, eq_false h80, h96, eq_false h111, eq_false h125, eq_true h156, h180, eq_false h187, h208, eq_true h239]⟩
                      · refine ws_iload (i := 4) X d_M_step_211 rfl ?_
                        refine ws_bipush (v := 18) X d_M_step_213 rfl ?_
                        refine ws_icmp_ne X d_M_step_215 (fun h215 => ?_) (fun h215 => ?_)
                        · have hbig := op_big k14 h156 h180 h187 h208 h215 h111 h125 h65 h80
                          obtain ⟨d', rfl⟩ : ∃ d', dd = d' + 1 := ⟨dd - 1, by rcases hbig with z | z | z | z; exact Nat.le_antisymm (by have := k9 (Or.inl z); omega) (by have := k9 (Or.inl z); omega); exact Nat.le_antisymm (by have := k9 (Or.inr (Or.inl z)); omega) (by have := k9 (Or.inr (Or.inl z)); omega); exact Nat.le_antisymm (by have := k9 (Or.inr (Or.inr z)); omega) (by have := k9 (Or.inr (Or.inr z)); omega); exact Nat.le_antisymm (by have := (k10 z).1; omega) (by have := (k10 z).1; omega)⟩
                          refine ws_aload_n (i := 0) X d_M_step_227 rfl rfl ?_
                          refine ws_iload (i := 4) X d_M_step_228 rfl ?_
                          refine ws_iload (i := 5) X d_M_step_230 rfl ?_
                          refine ws_callV0 X (m_M_turns S F d' g o hF hF8 hD (by omega) (fun z1 z2 z3 => by rcases hbig with z | z | z | z; exact absurd z z1; exact absurd z z2; exact absurd z z3; exact (k10 z).2)) cv_M_turns ml_M_297 ob8 rfl rfl (Nat.le_of_ble_eq_true rfl) ⟨Nat.le_of_ble_eq_true rfl, Nat.le_of_ble_eq_true rfl⟩ ⟨Nat.zero_le _, Nat.zero_le _⟩ d_M_step_232 ?_
                          refine ws_aload_n (i := 0) X d_M_step_235 rfl rfl ?_
                          refine ws_getI X fl_M_249 ob8 d_M_step_236 ?_
                          refine ws_if_ne X d_M_step_239 (fun h239 => ?_) (fun h239 => ?_)
                          · first | rw [hcF] | skip
                            refine ws_vret X d_M_step_250 ?_
                            exact ⟨rfl, by rw [mStpS, if_neg h65, if_neg h80]; simp [mSt2, mSt1, mNxt, hb, h39, eq_false h65, eq_false h80, h96, eq_false h111, eq_false h125, eq_true h156, h180, eq_false h187, h208, eq_false h215, eq_false h239]⟩
                          · refine ws_aload_n (i := 0) X d_M_step_242 rfl rfl ?_
                            refine ws_getR X fl_M_94 ob8 d_M_step_243 ?_
                            refine ws_iload_n (i := 1) X d_M_step_246 rfl rfl ?_
                            refine ws_iload (i := 6) X d_M_step_247 rfl ?_
                            refine ws_iast X ak51 ob51 (hinF) d_M_step_249 ?_
                            first | rw [hcF] | skip
                            refine ws_vret X d_M_step_250 ?_
                            exact ⟨rfl, by rw [mStpS, if_neg h65, if_neg h80]; simp [mSt2, mSt1, mNxt, hb, h39, eq_false h65, eq_false h80, h96, eq_false h111, eq_false h125, eq_true h156, h180, eq_false h187, h208, eq_false h215, eq_true h239]⟩
                        · obtain ⟨d', rfl⟩ : ∃ d', dd = d' + 2 := ⟨dd - 2, by have := k7 (by first | exact Or.inr (Or.inr (Or.inl (by assumption))) | exact Or.inr (Or.inr (Or.inr (by assumption)))); omega⟩
                          refine ws_aload_n (i := 0) X d_M_step_218 rfl rfl ?_
                          refine ws_iload (i := 4) X d_M_step_219 rfl ?_
                          refine ws_callV0 X (m_M_joinsDoubles S F d' o hF hF8 hD hd) cv_M_joinsDoubles ml_M_294 ob8 rfl rfl (Nat.le_of_ble_eq_true rfl) ⟨Nat.le_of_ble_eq_true rfl, Nat.le_of_ble_eq_true rfl⟩ ⟨Nat.zero_le _, Nat.zero_le _⟩ d_M_step_221 ?_
                          refine ws_goto X d_M_step_224 ?_
                          refine ws_aload_n (i := 0) X d_M_step_235 rfl rfl ?_
                          refine ws_getI X fl_M_249 ob8 d_M_step_236 ?_
                          refine ws_if_ne X d_M_step_239 (fun h239 => ?_) (fun h239 => ?_)
                          · first | rw [hcF] | skip
                            refine ws_vret X d_M_step_250 ?_
                            exact ⟨rfl, by rw [mStpS, if_neg h65, if_neg h80]; simp [mSt2, mSt1, mNxt, hb, h39, eq_false h65, eq_false h80, h96, eq_false h111, eq_false h125, eq_true h156, h180, eq_false h187, h208, eq_true h215, eq_false h239]⟩
                          · refine ws_aload_n (i := 0) X d_M_step_242 rfl rfl ?_
                            refine ws_getR X fl_M_94 ob8 d_M_step_243 ?_
                            refine ws_iload_n (i := 1) X d_M_step_246 rfl rfl ?_
                            refine ws_iload (i := 6) X d_M_step_247 rfl ?_
                            refine ws_iast X ak51 ob51 (hinF) d_M_step_249 ?_
                            first | rw [hcF] | skip
                            refine ws_vret X d_M_step_250 ?_
                            exact ⟨rfl, by rw [mStpS, if_neg h65, if_neg h80]; simp [mSt2, mSt1, mNxt, hb, h39, eq_false h65, eq_false h80, h96, eq_false h111, eq_false h125, eq_true h156, h180, eq_false h187, h208, eq_true h215, eq_true h239]⟩
                    · obtain ⟨d', rfl⟩ : ∃ d', dd = d' + 2 := ⟨dd - 2, by have := k7 (by first | exact Or.inl (by assumption) | exact Or.inr (Or.inl (by assumption))); omega⟩
                      refine ws_aload_n (i := 0) X d_M_step_190 rfl rfl ?_
                      refine ws_iload (i := 4) X d_M_step_191 rfl ?_
                      refine ws_callV0 X (m_M_joinsInts S F d' o hF hF8 hD hd) cv_M_joinsInts ml_M_291 ob8 rfl rfl (Nat.le_of_ble_eq_true rfl) ⟨Nat.le_of_ble_eq_true rfl, Nat.le_of_ble_eq_true rfl⟩ ⟨Nat.zero_le _, Nat.zero_le _⟩ d_M_step_193 ?_
                      refine ws_goto X d_M_step_196 ?_
                      refine ws_aload_n (i := 0) X d_M_step_235 rfl rfl ?_
                      refine ws_getI X fl_M_249 ob8 d_M_step_236 ?_
                      refine ws_if_ne X d_M_step_239 (fun h239 => ?_) (fun h239 => ?_)
                      · first | rw [hcF] | skip
                        refine ws_vret X d_M_step_250 ?_
                        exact ⟨rfl, by rw [mStpS, if_neg h65, if_neg h80]; simp [mSt2, mSt1, mNxt, hb, h39, eq_false h65, eq_false h80, h96, eq_false h111, eq_false h125, eq_true h156, h180, eq_true h187, eq_false h239]⟩
                      · refine ws_aload_n (i := 0) X d_M_step_242 rfl rfl ?_
                        refine ws_getR X fl_M_94 ob8 d_M_step_243 ?_
                        refine ws_iload_n (i := 1) X d_M_step_246 rfl rfl ?_
                        refine ws_iload (i := 6) X d_M_step_247 rfl ?_
                        refine ws_iast X ak51 ob51 (hinF) d_M_step_249 ?_
                        first | rw [hcF] | skip
                        refine ws_vret X d_M_step_250 ?_
                        exact ⟨rfl, by rw [mStpS, if_neg h65, if_neg h80]; simp [mSt2, mSt1, mNxt, hb, h39, eq_false h65, eq_false h80, h96, eq_false h111, eq_false h125, eq_true h156, h180, eq_true h187, eq_true h239]⟩
                · refine ws_aload_n (i := 0) X d_M_step_159 rfl rfl ?_
                  refine ws_iload_n (i := 1) X d_M_step_160 rfl rfl ?_
                  refine ws_iload (i := 4) X d_M_step_161 rfl ?_
                  refine ws_iload (i := 5) X d_M_step_163 rfl ?_
                  refine ws_callV0 X (m_M_moves S F dd g o hF hF8 hD hd hg k1 k2 k3 k4 k5 k6) cv_M_moves ml_M_288 ob8 rfl rfl (Nat.le_of_ble_eq_true rfl) ⟨Nat.le_of_ble_eq_true rfl, Nat.le_of_ble_eq_true rfl⟩ ⟨Nat.zero_le _, Nat.zero_le _⟩ d_M_step_165 ?_
                  refine ws_goto X d_M_step_168 ?_
                  refine ws_aload_n (i := 0) X d_M_step_235 rfl rfl ?_
                  refine ws_getI X fl_M_249 ob8 d_M_step_236 ?_
                  refine ws_if_ne X d_M_step_239 (fun h239 => ?_) (fun h239 => ?_)
                  · first | rw [hcF] | skip
                    refine ws_vret X d_M_step_250 ?_
                    exact ⟨rfl, by rw [mStpS, if_neg h65, if_neg h80]; simp [mSt2, mSt1, mNxt, hb, h39, eq_false h65, eq_false h80, h96, eq_false h111, eq_false h125, eq_false h156, eq_false h239]⟩
                  · refine ws_aload_n (i := 0) X d_M_step_242 rfl rfl ?_
                    refine ws_getR X fl_M_94 ob8 d_M_step_243 ?_
                    refine ws_iload_n (i := 1) X d_M_step_246 rfl rfl ?_
                    refine ws_iload (i := 6) X d_M_step_247 rfl ?_
                    refine ws_iast X ak51 ob51 (hinF) d_M_step_249 ?_
                    first | rw [hcF] | skip
                    refine ws_vret X d_M_step_250 ?_
                    exact ⟨rfl, by rw [mStpS, if_neg h65, if_neg h80]; simp [mSt2, mSt1, mNxt, hb, h39, eq_false h65, eq_false h80, h96, eq_false h111, eq_false h125, eq_false h156, eq_true h239]⟩
              · have kd := k8 (Or.inl h125)
                obtain ⟨d', rfl⟩ : ∃ d', dd = d' + 1 := ⟨dd - 1, by omega⟩
                have hin0 : vp_in (nI (12 * F + 6 + d')) 96 := vp_in_nI (by omega) (by omega)
                have hc0 := nI_c (i := 12 * F + 6 + d') (by omega)
                refine ws_aload_n (i := 0) X d_M_step_128 rfl rfl ?_
                refine ws_getR X fl_M_100 ob8 d_M_step_129 ?_
                refine ws_aload_n (i := 0) X d_M_step_132 rfl rfl ?_
                refine ws_callV1 X (m_M_pop S F d' hF hF8 hD (by omega)) cv_M_pop ml_M_285 ob8 rfl rfl (Nat.le_of_ble_eq_true rfl) ⟨Nat.le_of_ble_eq_true rfl, Nat.le_of_ble_eq_true rfl⟩ ⟨Nat.zero_le _, Nat.zero_le _⟩ d_M_step_133 ?_
                refine ws_iald X ak53 ob53 (hin0) d_M_step_136 ?_
                rw [hc0, mPop_o _ _ _ _ _ _ (by decide)]
                refine ws_if_ne X d_M_step_137 (fun h137 => ?_) (fun h137 => ?_)
                · refine ws_iload (i := 6) X d_M_step_145 rfl ?_
                  refine ws_ist_6 X rfl d_M_step_147 (by decide) ?_
                  refine ws_goto X d_M_step_149 ?_
                  refine ws_aload_n (i := 0) X d_M_step_235 rfl rfl ?_
                  refine ws_getI X fl_M_249 ob8 d_M_step_236 ?_
                  refine ws_if_ne X d_M_step_239 (fun h239 => ?_) (fun h239 => ?_)
                  · first | rw [hcF] | skip
                    refine ws_vret X d_M_step_250 ?_
                    exact ⟨rfl, by rw [mStpS, if_neg h65, if_neg h80]; simp [mSt2, mSt1, mNxt, hb, h39, eq_false h65, eq_false h80, h96, eq_false h111, eq_true h125, eq_false h137, eq_false h239]⟩
                  · refine ws_aload_n (i := 0) X d_M_step_242 rfl rfl ?_
                    refine ws_getR X fl_M_94 ob8 d_M_step_243 ?_
                    refine ws_iload_n (i := 1) X d_M_step_246 rfl rfl ?_
                    refine ws_iload (i := 6) X d_M_step_247 rfl ?_
                    refine ws_iast X ak51 ob51 (hinF) d_M_step_249 ?_
                    first | rw [hcF] | skip
                    refine ws_vret X d_M_step_250 ?_
                    exact ⟨rfl, by rw [mStpS, if_neg h65, if_neg h80]; simp [mSt2, mSt1, mNxt, hb, h39, eq_false h65, eq_false h80, h96, eq_false h111, eq_true h125, eq_false h137, eq_true h239]⟩
                · refine ws_iload (i := 5) X d_M_step_140 rfl ?_
                  refine ws_goto X d_M_step_142 ?_
                  refine ws_ist_6 X rfl d_M_step_147 (by decide) ?_
                  refine ws_goto X d_M_step_149 ?_
                  refine ws_aload_n (i := 0) X d_M_step_235 rfl rfl ?_
                  refine ws_getI X fl_M_249 ob8 d_M_step_236 ?_
                  refine ws_if_ne X d_M_step_239 (fun h239 => ?_) (fun h239 => ?_)
                  · first | rw [hcF] | skip
                    refine ws_vret X d_M_step_250 ?_
                    exact ⟨rfl, by rw [mStpS, if_neg h65, if_neg h80]; simp [mSt2, mSt1, mNxt, hb, h39, eq_false h65, eq_false h80, h96, eq_false h111, eq_true h125, eq_true h137, eq_false h239]⟩
                  · refine ws_aload_n (i := 0) X d_M_step_242 rfl rfl ?_
                    refine ws_getR X fl_M_94 ob8 d_M_step_243 ?_
                    refine ws_iload_n (i := 1) X d_M_step_246 rfl rfl ?_
                    refine ws_iload (i := 6) X d_M_step_247 rfl ?_
                    refine ws_iast X ak51 ob51 (hinF) d_M_step_249 ?_
                    first | rw [hcF] | skip
                    refine ws_vret X d_M_step_250 ?_
                    exact ⟨rfl, by rw [mStpS, if_neg h65, if_neg h80]; simp [mSt2, mSt1, mNxt, hb, h39, eq_false h65, eq_false h80, h96, eq_false h111, eq_true h125, eq_true h137, eq_true h239]⟩
            · refine ws_iload (i := 5) X d_M_step_114 rfl ?_
              refine ws_ist_6 X rfl d_M_step_116 (by decide) ?_
              refine ws_goto X d_M_step_118 ?_
              refine ws_aload_n (i := 0) X d_M_step_235 rfl rfl ?_
              refine ws_getI X fl_M_249 ob8 d_M_step_236 ?_
              refine ws_if_ne X d_M_step_239 (fun h239 => ?_) (fun h239 => ?_)
              · first | rw [hcF] | skip
                refine ws_vret X d_M_step_250 ?_
                exact ⟨rfl, by rw [mStpS, if_neg h65, if_neg h80]; simp [mSt2, mSt1, mNxt, hb, h39, eq_false h65, eq_false h80, h96, eq_true h111, eq_false h239]⟩
              · refine ws_aload_n (i := 0) X d_M_step_242 rfl rfl ?_
                refine ws_getR X fl_M_94 ob8 d_M_step_243 ?_
                refine ws_iload_n (i := 1) X d_M_step_246 rfl rfl ?_
                refine ws_iload (i := 6) X d_M_step_247 rfl ?_
                refine ws_iast X ak51 ob51 (hinF) d_M_step_249 ?_
                first | rw [hcF] | skip
                refine ws_vret X d_M_step_250 ?_
                exact ⟨rfl, by rw [mStpS, if_neg h65, if_neg h80]; simp [mSt2, mSt1, mNxt, hb, h39, eq_false h65, eq_false h80, h96, eq_true h111, eq_true h239]⟩
        · have kd := k8 (Or.inr h80)
          obtain ⟨d', rfl⟩ : ∃ d', dd = d' + 1 := ⟨dd - 1, by omega⟩
          rcases F with _ | F
          · refine ws_aload_n (i := 0) X d_M_step_83 rfl rfl ?_
            refine ws_iload_n (i := 1) X d_M_step_84 rfl rfl ?_
            refine ws_iload_n (i := 2) X d_M_step_85 rfl rfl ?_
            refine ws_callV0 X (m_M_gives_0 S d' q hF hD (by omega) hq) cv_M_gives ml_M_283 ob8 rfl rfl (Nat.le_of_ble_eq_true rfl) ⟨Nat.le_of_ble_eq_true rfl, Nat.le_of_ble_eq_true rfl⟩ ⟨Nat.zero_le _, Nat.zero_le _⟩ d_M_step_86 ?_
            refine ws_vret X d_M_step_89 ?_
            exact ⟨rfl, by rw [mStpS, if_neg h65, if_pos h80, if_pos rfl, Nat.add_sub_cancel]⟩
          · refine ws_aload_n (i := 0) X d_M_step_83 rfl rfl ?_
            obtain ⟨d2, e1, e2⟩ := k12 h80 F rfl
            refine ws_iload_n (i := 1) X d_M_step_84 rfl rfl ?_
            refine ws_iload_n (i := 2) X d_M_step_85 rfl rfl ?_
            refine ws_callV0 X (m_M_gives_n S F d' d2 q hF hF8 hD (by omega) hq e2 e1) cv_M_gives ml_M_283 ob8 rfl rfl (Nat.le_of_ble_eq_true rfl) ⟨Nat.le_of_ble_eq_true rfl, Nat.le_of_ble_eq_true rfl⟩ ⟨Nat.zero_le _, Nat.zero_le _⟩ d_M_step_86 ?_
            refine ws_vret X d_M_step_89 ?_
            exact ⟨rfl, by rw [mStpS, if_neg h65, if_pos h80, if_neg (by omega), Nat.add_sub_cancel, Nat.add_sub_cancel, e2, nI_c (by omega)]⟩
      · obtain ⟨g5, t, ht, hT⟩ := k11 h65
        obtain ⟨d', rfl⟩ : ∃ d', dd = d' + t := ⟨dd - t, by omega⟩
        have hTc : (S.1 31 0 g).toNatClampNeg = t := by rw [hT, nI_c (by omega)]
        by_cases h7 : F = 7
        · refine ws_aload_n (i := 0) X d_M_step_68 rfl rfl ?_
          refine ws_iload_n (i := 1) X d_M_step_69 rfl rfl ?_
          subst h7
          refine ws_iload (i := 5) X d_M_step_70 rfl ?_
          refine ws_callV0 X (m_M_calls_8 S g hF) cv_M_calls ml_M_281 ob8 rfl rfl (Nat.le_of_ble_eq_true rfl) ⟨Nat.le_of_ble_eq_true rfl, Nat.le_of_ble_eq_true rfl⟩ ⟨Nat.zero_le _, Nat.zero_le _⟩ d_M_step_72 ?_
          refine ws_vret X d_M_step_75 ?_
          first | exact ⟨rfl, by rw [mStpS, if_pos h65, if_pos rfl]⟩ | exact ⟨rfl, by rw [mStpS, if_pos h65, if_neg h7, hTc, Nat.add_sub_cancel]⟩
        · refine ws_aload_n (i := 0) X d_M_step_68 rfl rfl ?_
          refine ws_iload_n (i := 1) X d_M_step_69 rfl rfl ?_
          refine ws_iload (i := 5) X d_M_step_70 rfl ?_
          refine ws_callV0 X (m_M_calls_n S F d' t g hF (by omega) hD hd g5 hT) cv_M_calls ml_M_281 ob8 rfl rfl (Nat.le_of_ble_eq_true rfl) ⟨Nat.le_of_ble_eq_true rfl, Nat.le_of_ble_eq_true rfl⟩ ⟨Nat.zero_le _, Nat.zero_le _⟩ d_M_step_72 ?_
          refine ws_vret X d_M_step_75 ?_
          first | exact ⟨rfl, by rw [mStpS, if_pos h65, if_pos rfl]⟩ | exact ⟨rfl, by rw [mStpS, if_pos h65, if_neg h7, hTc, Nat.add_sub_cancel]⟩


