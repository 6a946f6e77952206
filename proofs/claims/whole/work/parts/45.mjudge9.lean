/-! the model judges: what judgeKinds pushes -/
def jk1 (S : MS) (o : Int32) (g : Nat) : MS := wI S 8 0 33 (S.1 8 0 33 - (if o = 5 then 0 else mPops S o g))
def jk2 (S : MS) (o : Int32) (g : Nat) (top : Int32) : MS := if o = 4 then wI (jk1 S o g) 49 0 g top else jk1 S o g
def jk3 (S : MS) (o : Int32) (g : Nat) (top : Int32) : MS := wI (wI (jk2 S o g top) 48 0 ((jk2 S o g top).1 8 0 33).toNatClampNeg (mPsh S o g top)) 8 0 33 ((jk2 S o g top).1 8 0 33 + 1)
def jkP (S : MS) (m : Nat) (o : Int32) (g : Nat) (pl top : Int32) : MS :=
  if mPsh S o g top = 0 then jkE (jk2 S o g top) m o g pl
  else if (jk2 S o g top).1 8 0 33 = (jk2 S o g top).1 35 0 m then mFaultS (jk2 S o g top) 17 pl
  else jkE (jk3 S o g top) m o g pl
theorem jk2_o (S : MS) (o : Int32) (g : Nat) (top : Int32) (b c d : Nat) (h1 : ¬ (b = 8 ∧ c = 0 ∧ d = 33)) (h2 : b ≠ 49) : (jk2 S o g top).1 b c d = S.1 b c d := by
  unfold jk2
  by_cases h : o = 4
  · rw [if_pos h, wI_o _ _ _ _ _ _ _ _ (fun z => h2 z.1), jk1, wI_o _ _ _ _ _ _ _ _ h1]
  · rw [if_neg h, jk1, wI_o _ _ _ _ _ _ _ _ h1]
theorem jk3_o (S : MS) (o : Int32) (g : Nat) (top : Int32) (b c d : Nat) (h1 : ¬ (b = 8 ∧ c = 0 ∧ d = 33)) (h2 : b ≠ 49) (h3 : b ≠ 48) : (jk3 S o g top).1 b c d = S.1 b c d := by
  rw [jk3, wI_o _ _ _ _ _ _ _ _ h1, wI_o _ _ _ _ _ _ _ _ (fun z => h3 z.1), jk2_o _ _ _ _ _ _ _ h1 h2]
theorem jk2_d {S : MS} {o : Int32} {g c d : Nat} (top : Int32) (hD : S.1 8 0 33 = nI d) (hpc : mPops S o g = nI c) (hc : c ≤ d) : ∃ e, e ≤ d ∧ (jk2 S o g top).1 8 0 33 = nI e := by
  have h1 : ∃ e, e ≤ d ∧ (jk1 S o g).1 8 0 33 = nI e := by
    rw [jk1, wI_rd, hD, hpc]
    by_cases h5 : o = 5
    · rw [if_pos h5]; exact ⟨d, Nat.le_refl _, Int32.sub_zero _⟩
    · rw [if_neg h5]
      obtain ⟨q, rfl⟩ : ∃ q, d = q + c := ⟨d - c, by omega⟩
      exact ⟨q, by omega, by rw [← nI_add, Int32.add_sub_cancel]⟩
  unfold jk2
  by_cases h : o = 4
  · rw [if_pos h, wI_o _ _ _ _ _ _ _ _ (fun z => absurd z.1 (by decide))]; exact h1
  · rw [if_neg h]; exact h1
section L44
variable {p : Program} {l : Launch} {e0 : Env} {s : State} {m0 : MethodId} {args : Array Value} {below : List Frame} {meth : Method} {c0 : Code} {G : GG} {A : Nat → Prop} {Q : State → Prop}
theorem l_jkP (X : CX p s m0 args meth c0 G A c_M_judgeKinds y_M_judgeKinds.cls 10 (none)) {S : MS} {m g c d lc st mp : Nat} {o pl x6 top : Int32} {x8 : Option MV} (hm : m < 5) (hg : g < 256) (hpc : mPops S o g = nI c) (hc : c ≤ d) (hd : d ≤ st) (hst : st ≤ 6) (hD : S.1 8 0 33 = nI d) (hT : S.1 35 0 m = nI st) (hlc : lc ≤ 6) (hL : S.1 34 0 m = nI lc) (hmp : mp ≤ 8) (hM : S.1 38 0 m = nI mp) (hg3 : o = 3 → g < 6) (hg4 : o = 4 → g < 6) (hg21 : o = 21 → g < 5) (K2 : ∀ x9 : Option MV, WS p l e0 (rmS 2 46) s m0 args below meth c0 G A 10 0 0 Q 219 [some (.inr (8, 0)), some (.inl (.int (nI m))), some (.inl (.int pl)), some (.inl (.int o)), some (.inl (.int (nI g))), some (.inl (.int (nI c))), some (.inl (.int x6)), some (.inl (.int top)), some (.inl (.int (mPsh S o g top))), x9] [] (jkP S m o g pl top)) (K5 : ∀ x9 : Option MV, WS p l e0 (rmS 2 46) s m0 args below meth c0 G A 10 0 0 Q 285 [some (.inr (8, 0)), some (.inl (.int (nI m))), some (.inl (.int pl)), some (.inl (.int o)), some (.inl (.int (nI g))), some (.inl (.int (nI c))), some (.inl (.int x6)), some (.inl (.int top)), some (.inl (.int (mPsh S o g top))), x9] [] (jkP S m o g pl top)) (K7 : ∀ x9 : Option MV, WS p l e0 (rmS 2 46) s m0 args below meth c0 G A 10 0 0 Q 307 [some (.inr (8, 0)), some (.inl (.int (nI m))), some (.inl (.int pl)), some (.inl (.int o)), some (.inl (.int (nI g))), some (.inl (.int (nI c))), some (.inl (.int x6)), some (.inl (.int top)), some (.inl (.int (mPsh S o g top))), x9] [] (jkP S m o g pl top)) : WS p l e0 (rmS 2 46) s m0 args below meth c0 G A 10 0 0 Q 149 [some (.inr (8, 0)), some (.inl (.int (nI m))), some (.inl (.int pl)), some (.inl (.int o)), some (.inl (.int (nI g))), some (.inl (.int (nI c))), some (.inl (.int x6)), some (.inl (.int top)), x8, none] [] (S) := by
  have hcm := nI_c (i := m) (by omega)
  have hcg := nI_c (i := g) (by omega)
  have hinm : vp_in (nI m) 5 := vp_in_nI hm (by omega)
  have hi4 : ∀ h : o = 4, vp_in (nI g) 6 := fun h => vp_in_nI (hg4 h) (by omega)
  obtain ⟨e, he, hE⟩ := jk2_d top hD hpc hc
  have hine : vp_in ((jk2 S o g top).1 8 0 33) 8 := by rw [hE]; exact vp_in_nI (by omega) (by omega)
  have hT2 : (jk2 S o g top).1 35 0 m = nI st := (jk2_o _ _ _ _ _ _ _ (fun z => absurd z.1 (by decide)) (by decide)).trans hT
  have hL2 : (jk2 S o g top).1 34 0 m = nI lc := (jk2_o _ _ _ _ _ _ _ (fun z => absurd z.1 (by decide)) (by decide)).trans hL
  have hM2 : (jk2 S o g top).1 38 0 m = nI mp := (jk2_o _ _ _ _ _ _ _ (fun z => absurd z.1 (by decide)) (by decide)).trans hM
  have hL3 : (jk3 S o g top).1 34 0 m = nI lc := (jk3_o _ _ _ _ _ _ _ (fun z => absurd z.1 (by decide)) (by decide) (by decide)).trans hL
  have hM3 : (jk3 S o g top).1 38 0 m = nI mp := (jk3_o _ _ _ _ _ _ _ (fun z => absurd z.1 (by decide)) (by decide) (by decide)).trans hM
  refine ws_aload_n (i := 0) X d_M_judgeKinds_149 rfl rfl ?_
  refine ws_iload_n (i := 3) X d_M_judgeKinds_150 rfl rfl ?_
  refine ws_iload (i := 4) X d_M_judgeKinds_151 rfl ?_
  refine ws_iload (i := 7) X d_M_judgeKinds_153 rfl ?_
  refine ws_callV1 X (m_M_pushes S o (nI g) top (fun z => vp_in_nI (hg3 z) (by omega)) (fun z => vp_in_nI (hg21 z) (by omega))) cv_M_pushes ml_M_223 ob8 rfl rfl (Nat.le_of_ble_eq_true rfl) ⟨Nat.le_of_ble_eq_true rfl, Nat.le_of_ble_eq_true rfl⟩ ⟨Nat.zero_le _, Nat.zero_le _⟩ d_M_judgeKinds_155 ?_
  rw [hcg]
  refine ws_ist_8 X rfl d_M_judgeKinds_158 (by decide) ?_
  refine ws_aload_n (i := 0) X d_M_judgeKinds_160 rfl rfl ?_
  refine ws_dup X d_M_judgeKinds_161 rfl ?_
  refine ws_getI X fl_M_177 ob8 d_M_judgeKinds_162 ?_
  refine ws_iload_n (i := 3) X d_M_judgeKinds_165 rfl rfl ?_
  refine ws_iconst (v := 5) X d_M_judgeKinds_166 rfl ?_
  refine ws_icmp_ne X d_M_judgeKinds_167 (fun h167 => ?_) (fun h167 => ?_)
  · refine ws_iload (i := 5) X d_M_judgeKinds_174 rfl ?_
    refine ws_isub X d_M_judgeKinds_176 ?_
    refine ws_putI X fl_M_177 ob8 d_M_judgeKinds_177 ?_
    refine WS_is (jk1 S o g) (by simp [jk1, hpc, eq_false h167]) ?_
    refine ws_iload_n (i := 3) X d_M_judgeKinds_180 rfl rfl ?_
    refine ws_iconst (v := 4) X d_M_judgeKinds_181 rfl ?_
    refine ws_icmp_ne X d_M_judgeKinds_182 (fun h182 => ?_) (fun h182 => ?_)
    · refine WS_is (jk2 S o g top) (by simp [jk2, hcg, eq_false h167, eq_false h182]) ?_
      by_cases hz : mPsh S o g top = 0
      · refine ws_iload (i := 8) X d_M_judgeKinds_194 rfl ?_
        refine ws_if_eq X d_M_judgeKinds_196 (fun h196 => ?_) (fun h196 => ?_)
        · exact l_jkE X hm (by omega) hE hlc hL2 hmp hM2 (fun x9 => WS_is (jkP S m o g pl top) (by rw [jkP, if_pos hz]) (K5 x9)) (fun x9 => WS_is (jkP S m o g pl top) (by rw [jkP, if_pos hz]) (K7 x9))
        · exact absurd hz h196
      · refine ws_iload (i := 8) X d_M_judgeKinds_194 rfl ?_
        refine ws_if_eq X d_M_judgeKinds_196 (fun h196 => ?_) (fun h196 => ?_)
        · exact absurd h196 hz
        · refine ws_aload_n (i := 0) X d_M_judgeKinds_199 rfl rfl ?_
          refine ws_getI X fl_M_177 ob8 d_M_judgeKinds_200 ?_
          refine ws_aload_n (i := 0) X d_M_judgeKinds_203 rfl rfl ?_
          refine ws_getR X fl_M_45 ob8 d_M_judgeKinds_204 ?_
          refine ws_iload_n (i := 1) X d_M_judgeKinds_207 rfl rfl ?_
          refine ws_iald X ak35 ob35 (by assumption) d_M_judgeKinds_208 ?_
          rw [hcm]
          refine ws_icmp_ne X d_M_judgeKinds_209 (fun h209 => ?_) (fun h209 => ?_)
          · refine ws_aload_n (i := 0) X d_M_judgeKinds_220 rfl rfl ?_
            refine ws_getR X fl_M_85 ob8 d_M_judgeKinds_221 ?_
            refine ws_aload_n (i := 0) X d_M_judgeKinds_224 rfl rfl ?_
            refine ws_getI X fl_M_177 ob8 d_M_judgeKinds_225 ?_
            refine ws_iload (i := 8) X d_M_judgeKinds_228 rfl ?_
            skip
            refine ws_iast X ak48 ob48 (hine) d_M_judgeKinds_230 ?_
            refine ws_aload_n (i := 0) X d_M_judgeKinds_231 rfl rfl ?_
            refine ws_dup X d_M_judgeKinds_232 rfl ?_
            refine ws_getI X fl_M_177 ob8 d_M_judgeKinds_233 ?_
            refine ws_iconst (v := 1) X d_M_judgeKinds_236 rfl ?_
            refine ws_iadd X d_M_judgeKinds_237 ?_
            rw [wI_o _ _ _ _ _ _ _ _ (fun z => absurd z.1 (by decide))]
            refine ws_putI X fl_M_177 ob8 d_M_judgeKinds_238 ?_
            have hne : e ≠ st := fun z => h209 (by rw [hE, hT2, z]); exact WS_is (jk3 S o g top) rfl (l_jkE X hm (d := e + 1) (by omega) (by rw [jk3, wI_rd, hE, nI_1]) hlc hL3 hmp hM3 (fun x9 => WS_is (jkP S m o g pl top) (by rw [jkP, if_neg hz, if_neg h209]) (K5 x9)) (fun x9 => WS_is (jkP S m o g pl top) (by rw [jkP, if_neg hz, if_neg h209]) (K7 x9)))
          · refine ws_aload_n (i := 0) X d_M_judgeKinds_212 rfl rfl ?_
            refine ws_bipush (v := 17) X d_M_judgeKinds_213 rfl ?_
            refine ws_iload_n (i := 2) X d_M_judgeKinds_215 rfl rfl ?_
            refine ws_callV0 X (m_M_faults _ _ _) cv_M_faults ml_M_127 ob8 rfl rfl (Nat.le_of_ble_eq_true rfl) ⟨Nat.le_of_ble_eq_true rfl, Nat.le_of_ble_eq_true rfl⟩ ⟨Nat.zero_le _, Nat.zero_le _⟩ d_M_judgeKinds_216 ?_
            exact WS_is (jkP S m o g pl top) (by rw [jkP, if_neg hz, if_pos h209]) (K2 none)
    · refine ws_aload_n (i := 0) X d_M_judgeKinds_185 rfl rfl ?_
      refine ws_getR X fl_M_88 ob8 d_M_judgeKinds_186 ?_
      refine ws_iload (i := 4) X d_M_judgeKinds_189 rfl ?_
      refine ws_iload (i := 7) X d_M_judgeKinds_191 rfl ?_
      refine ws_iast X ak49 ob49 (hi4 (by assumption)) d_M_judgeKinds_193 ?_
      refine WS_is (jk2 S o g top) (by simp [jk2, hcg, eq_false h167, eq_true h182]) ?_
      by_cases hz : mPsh S o g top = 0
      · refine ws_iload (i := 8) X d_M_judgeKinds_194 rfl ?_
        refine ws_if_eq X d_M_judgeKinds_196 (fun h196 => ?_) (fun h196 => ?_)
        · exact l_jkE X hm (by omega) hE hlc hL2 hmp hM2 (fun x9 => WS_is (jkP S m o g pl top) (by rw [jkP, if_pos hz]) (K5 x9)) (fun x9 => WS_is (jkP S m o g pl top) (by rw [jkP, if_pos hz]) (K7 x9))
        · exact absurd hz h196
      · refine ws_iload (i := 8) X d_M_judgeKinds_194 rfl ?_
        refine ws_if_eq X d_M_judgeKinds_196 (fun h196 => ?_) (fun h196 => ?_)
        · exact absurd h196 hz
        · refine ws_aload_n (i := 0) X d_M_judgeKinds_199 rfl rfl ?_
          refine ws_getI X fl_M_177 ob8 d_M_judgeKinds_200 ?_
          refine ws_aload_n (i := 0) X d_M_judgeKinds_203 rfl rfl ?_
          refine ws_getR X fl_M_45 ob8 d_M_judgeKinds_204 ?_
          refine ws_iload_n (i := 1) X d_M_judgeKinds_207 rfl rfl ?_
          refine ws_iald X ak35 ob35 (by assumption) d_M_judgeKinds_208 ?_
          rw [hcm]
          refine ws_icmp_ne X d_M_judgeKinds_209 (fun h209 => ?_) (fun h209 => ?_)
          · refine ws_aload_n (i := 0) X d_M_judgeKinds_220 rfl rfl ?_
            refine ws_getR X fl_M_85 ob8 d_M_judgeKinds_221 ?_
            refine ws_aload_n (i := 0) X d_M_judgeKinds_224 rfl rfl ?_
            refine ws_getI X fl_M_177 ob8 d_M_judgeKinds_225 ?_
            refine ws_iload (i := 8) X d_M_judgeKinds_228 rfl ?_
            skip
            refine ws_iast X ak48 ob48 (hine) d_M_judgeKinds_230 ?_
            refine ws_aload_n (i := 0) X d_M_judgeKinds_231 rfl rfl ?_
            refine ws_dup X d_M_judgeKinds_232 rfl ?_
            refine ws_getI X fl_M_177 ob8 d_M_judgeKinds_233 ?_
            refine ws_iconst (v := 1) X d_M_judgeKinds_236 rfl ?_
            refine ws_iadd X d_M_judgeKinds_237 ?_
            rw [wI_o _ _ _ _ _ _ _ _ (fun z => absurd z.1 (by decide))]
            refine ws_putI X fl_M_177 ob8 d_M_judgeKinds_238 ?_
            have hne : e ≠ st := fun z => h209 (by rw [hE, hT2, z]); exact WS_is (jk3 S o g top) rfl (l_jkE X hm (d := e + 1) (by omega) (by rw [jk3, wI_rd, hE, nI_1]) hlc hL3 hmp hM3 (fun x9 => WS_is (jkP S m o g pl top) (by rw [jkP, if_neg hz, if_neg h209]) (K5 x9)) (fun x9 => WS_is (jkP S m o g pl top) (by rw [jkP, if_neg hz, if_neg h209]) (K7 x9)))
          · refine ws_aload_n (i := 0) X d_M_judgeKinds_212 rfl rfl ?_
            refine ws_bipush (v := 17) X d_M_judgeKinds_213 rfl ?_
            refine ws_iload_n (i := 2) X d_M_judgeKinds_215 rfl rfl ?_
            refine ws_callV0 X (m_M_faults _ _ _) cv_M_faults ml_M_127 ob8 rfl rfl (Nat.le_of_ble_eq_true rfl) ⟨Nat.le_of_ble_eq_true rfl, Nat.le_of_ble_eq_true rfl⟩ ⟨Nat.zero_le _, Nat.zero_le _⟩ d_M_judgeKinds_216 ?_
            exact WS_is (jkP S m o g pl top) (by rw [jkP, if_neg hz, if_pos h209]) (K2 none)
  · refine ws_iconst (v := 0) X d_M_judgeKinds_170 rfl ?_
    refine ws_goto X d_M_judgeKinds_171 ?_
    refine ws_isub X d_M_judgeKinds_176 ?_
    refine ws_putI X fl_M_177 ob8 d_M_judgeKinds_177 ?_
    refine WS_is (jk1 S o g) (by simp [jk1, hpc, eq_true h167]) ?_
    refine ws_iload_n (i := 3) X d_M_judgeKinds_180 rfl rfl ?_
    refine ws_iconst (v := 4) X d_M_judgeKinds_181 rfl ?_
    refine ws_icmp_ne X d_M_judgeKinds_182 (fun h182 => ?_) (fun h182 => ?_)
    · refine WS_is (jk2 S o g top) (by simp [jk2, hcg, eq_true h167, eq_false h182]) ?_
      by_cases hz : mPsh S o g top = 0
      · refine ws_iload (i := 8) X d_M_judgeKinds_194 rfl ?_
        refine ws_if_eq X d_M_judgeKinds_196 (fun h196 => ?_) (fun h196 => ?_)
        · exact l_jkE X hm (by omega) hE hlc hL2 hmp hM2 (fun x9 => WS_is (jkP S m o g pl top) (by rw [jkP, if_pos hz]) (K5 x9)) (fun x9 => WS_is (jkP S m o g pl top) (by rw [jkP, if_pos hz]) (K7 x9))
        · exact absurd hz h196
      · refine ws_iload (i := 8) X d_M_judgeKinds_194 rfl ?_
        refine ws_if_eq X d_M_judgeKinds_196 (fun h196 => ?_) (fun h196 => ?_)
        · exact absurd h196 hz
        · refine ws_aload_n (i := 0) X d_M_judgeKinds_199 rfl rfl ?_
          refine ws_getI X fl_M_177 ob8 d_M_judgeKinds_200 ?_
          refine ws_aload_n (i := 0) X d_M_judgeKinds_203 rfl rfl ?_
          refine ws_getR X fl_M_45 ob8 d_M_judgeKinds_204 ?_
          refine ws_iload_n (i := 1) X d_M_judgeKinds_207 rfl rfl ?_
          refine ws_iald X ak35 ob35 (by assumption) d_M_judgeKinds_208 ?_
          rw [hcm]
          refine ws_icmp_ne X d_M_judgeKinds_209 (fun h209 => ?_) (fun h209 => ?_)
          · refine ws_aload_n (i := 0) X d_M_judgeKinds_220 rfl rfl ?_
            refine ws_getR X fl_M_85 ob8 d_M_judgeKinds_221 ?_
            refine ws_aload_n (i := 0) X d_M_judgeKinds_224 rfl rfl ?_
            refine ws_getI X fl_M_177 ob8 d_M_judgeKinds_225 ?_
            refine ws_iload (i := 8) X d_M_judgeKinds_228 rfl ?_
            skip
            refine ws_iast X ak48 ob48 (hine) d_M_judgeKinds_230 ?_
            refine ws_aload_n (i := 0) X d_M_judgeKinds_231 rfl rfl ?_
            refine ws_dup X d_M_judgeKinds_232 rfl ?_
            refine ws_getI X fl_M_177 ob8 d_M_judgeKinds_233 ?_
            refine ws_iconst (v := 1) X d_M_judgeKinds_236 rfl ?_
            refine ws_iadd X d_M_judgeKinds_237 ?_
            rw [wI_o _ _ _ _ _ _ _ _ (fun z => absurd z.1 (by decide))]
            refine ws_putI X fl_M_177 ob8 d_M_judgeKinds_238 ?_
            have hne : e ≠ st := fun z => h209 (by rw [hE, hT2, z]); exact WS_is (jk3 S o g top) rfl (l_jkE X hm (d := e + 1) (by omega) (by rw [jk3, wI_rd, hE, nI_1]) hlc hL3 hmp hM3 (fun x9 => WS_is (jkP S m o g pl top) (by rw [jkP, if_neg hz, if_neg h209]) (K5 x9)) (fun x9 => WS_is (jkP S m o g pl top) (by rw [jkP, if_neg hz, if_neg h209]) (K7 x9)))
          · refine ws_aload_n (i := 0) X d_M_judgeKinds_212 rfl rfl ?_
            refine ws_bipush (v := 17) X d_M_judgeKinds_213 rfl ?_
            refine ws_iload_n (i := 2) X d_M_judgeKinds_215 rfl rfl ?_
            refine ws_callV0 X (m_M_faults _ _ _) cv_M_faults ml_M_127 ob8 rfl rfl (Nat.le_of_ble_eq_true rfl) ⟨Nat.le_of_ble_eq_true rfl, Nat.le_of_ble_eq_true rfl⟩ ⟨Nat.zero_le _, Nat.zero_le _⟩ d_M_judgeKinds_216 ?_
            exact WS_is (jkP S m o g pl top) (by rw [jkP, if_neg hz, if_pos h209]) (K2 none)
    · refine ws_aload_n (i := 0) X d_M_judgeKinds_185 rfl rfl ?_
      refine ws_getR X fl_M_88 ob8 d_M_judgeKinds_186 ?_
      refine ws_iload (i := 4) X d_M_judgeKinds_189 rfl ?_
      refine ws_iload (i := 7) X d_M_judgeKinds_191 rfl ?_
      refine ws_iast X ak49 ob49 (hi4 (by assumption)) d_M_judgeKinds_193 ?_
      refine WS_is (jk2 S o g top) (by simp [jk2, hcg, eq_true h167, eq_true h182]) ?_
      by_cases hz : mPsh S o g top = 0
      · refine ws_iload (i := 8) X d_M_judgeKinds_194 rfl ?_
        refine ws_if_eq X d_M_judgeKinds_196 (fun h196 => ?_) (fun h196 => ?_)
        · exact l_jkE X hm (by omega) hE hlc hL2 hmp hM2 (fun x9 => WS_is (jkP S m o g pl top) (by rw [jkP, if_pos hz]) (K5 x9)) (fun x9 => WS_is (jkP S m o g pl top) (by rw [jkP, if_pos hz]) (K7 x9))
        · exact absurd hz h196
      · refine ws_iload (i := 8) X d_M_judgeKinds_194 rfl ?_
        refine ws_if_eq X d_M_judgeKinds_196 (fun h196 => ?_) (fun h196 => ?_)
        · exact absurd h196 hz
        · refine ws_aload_n (i := 0) X d_M_judgeKinds_199 rfl rfl ?_
          refine ws_getI X fl_M_177 ob8 d_M_judgeKinds_200 ?_
          refine ws_aload_n (i := 0) X d_M_judgeKinds_203 rfl rfl ?_
          refine ws_getR X fl_M_45 ob8 d_M_judgeKinds_204 ?_
          refine ws_iload_n (i := 1) X d_M_judgeKinds_207 rfl rfl ?_
          refine ws_iald X ak35 ob35 (by assumption) d_M_judgeKinds_208 ?_
          rw [hcm]
          refine ws_icmp_ne X d_M_judgeKinds_209 (fun h209 => ?_) (fun h209 => ?_)
          · refine ws_aload_n (i := 0) X d_M_judgeKinds_220 rfl rfl ?_
            refine ws_getR X fl_M_85 ob8 d_M_judgeKinds_221 ?_
            refine ws_aload_n (i := 0) X d_M_judgeKinds_224 rfl rfl ?_
            refine ws_getI X fl_M_177 ob8 d_M_judgeKinds_225 ?_
            refine ws_iload (i := 8) X d_M_judgeKinds_228 rfl ?_
            skip
            refine ws_iast X ak48 ob48 (hine) d_M_judgeKinds_230 ?_
            refine ws_aload_n (i := 0) X d_M_judgeKinds_231 rfl rfl ?_
            refine ws_dup X d_M_judgeKinds_232 rfl ?_
            refine ws_getI X fl_M_177 ob8 d_M_judgeKinds_233 ?_
            refine ws_iconst (v := 1) X d_M_judgeKinds_236 rfl ?_
            refine ws_iadd X d_M_judgeKinds_237 ?_
            rw [wI_o _ _ _ _ _ _ _ _ (fun z => absurd z.1 (by decide))]
            refine ws_putI X fl_M_177 ob8 d_M_judgeKinds_238 ?_
            have hne : e ≠ st := fun z => h209 (by rw [hE, hT2, z]); exact WS_is (jk3 S o g top) rfl (l_jkE X hm (d := e + 1) (by omega) (by rw [jk3, wI_rd, hE, nI_1]) hlc hL3 hmp hM3 (fun x9 => WS_is (jkP S m o g pl top) (by rw [jkP, if_neg hz, if_neg h209]) (K5 x9)) (fun x9 => WS_is (jkP S m o g pl top) (by rw [jkP, if_neg hz, if_neg h209]) (K7 x9)))
          · refine ws_aload_n (i := 0) X d_M_judgeKinds_212 rfl rfl ?_
            refine ws_bipush (v := 17) X d_M_judgeKinds_213 rfl ?_
            refine ws_iload_n (i := 2) X d_M_judgeKinds_215 rfl rfl ?_
            refine ws_callV0 X (m_M_faults _ _ _) cv_M_faults ml_M_127 ob8 rfl rfl (Nat.le_of_ble_eq_true rfl) ⟨Nat.le_of_ble_eq_true rfl, Nat.le_of_ble_eq_true rfl⟩ ⟨Nat.zero_le _, Nat.zero_le _⟩ d_M_judgeKinds_216 ?_
            exact WS_is (jkP S m o g pl top) (by rw [jkP, if_neg hz, if_pos h209]) (K2 none)
end L44

