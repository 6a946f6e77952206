/-! the model judges: the end of judgeKinds -/
theorem nI_nm1 {a : Nat} (h : a < 2 ^ 31) : ¬ nI a = -1 := fun z => absurd (show (-1 : Int32) < 0 by decide) (z ▸ nI_pos h)
theorem mpfGo_rng (S : MS) (m : Nat) (x : Int32) : ∀ (n k : Nat) (f : Int32), (f = -1 ∨ ∃ q, q < k ∧ f = nI (8 * m + q)) → (mpfGo S m x n k f = -1 ∨ ∃ q, q < k + n ∧ mpfGo S m x n k f = nI (8 * m + q))
  | 0, _, _, h => h
  | n + 1, k, f, h => by
    rw [mpfGo, show k + (n + 1) = k + 1 + n from by omega]
    refine mpfGo_rng S m x n (k + 1) _ ?_
    by_cases h1 : S.1 39 0 (8 * m + k) = x
    · rw [if_pos h1]; exact Or.inr ⟨k, by omega, rfl⟩
    · rw [if_neg h1]
      rcases h with h | ⟨q, hq, hQ⟩
      · exact Or.inl h
      · exact Or.inr ⟨q, by omega, hQ⟩
theorem mpfV_rng {S : MS} {m mp : Nat} (x : Int32) (hS : S.1 38 0 m = nI mp) (ht : mp ≤ 8) : mpfV S m x = -1 ∨ ∃ q, q < mp ∧ mpfV S m x = nI (8 * m + q) := by
  have := mpfGo_rng S m x mp 0 (-1) (Or.inl rfl)
  rw [mpfV, hS, nI_c (by omega)]
  rw [Nat.zero_add] at this
  exact this
def jkE (S : MS) (m : Nat) (o : Int32) (g : Nat) (pl : Int32) : MS :=
  if ((decide (o = 19) || decide (o = 20)) && (decide (mpfV S m (nI g) = -1) || !fitV S m (mpfV S m (nI g)).toNatClampNeg)) = true then mFaultS S 18 pl else wI S 8 0 32 (bI (decide (¬ o = 19) && decide (¬ o = 22)))
section L43
variable {p : Program} {l : Launch} {e0 : Env} {s : State} {m0 : MethodId} {args : Array Value} {below : List Frame} {meth : Method} {c0 : Code} {G : GG} {A : Nat → Prop} {Q : State → Prop}
theorem l_jkE (X : CX p s m0 args meth c0 G A c_M_judgeKinds y_M_judgeKinds.cls 10 (none)) {S : MS} {m g d lc mp : Nat} {o pl x5 x6 x7 x8 : Int32} (hm : m < 5) (hd : d ≤ 6) (hD : S.1 8 0 33 = nI d) (hlc : lc ≤ 6) (hL : S.1 34 0 m = nI lc) (hmp : mp ≤ 8) (hM : S.1 38 0 m = nI mp) (K5 : ∀ x9 : Option MV, WS p l e0 (rmS 2 46) s m0 args below meth c0 G A 10 0 0 Q 285 [some (.inr (8, 0)), some (.inl (.int (nI m))), some (.inl (.int pl)), some (.inl (.int o)), some (.inl (.int (nI g))), some (.inl (.int x5)), some (.inl (.int x6)), some (.inl (.int x7)), some (.inl (.int x8)), x9] [] (jkE S m o g pl)) (K7 : ∀ x9 : Option MV, WS p l e0 (rmS 2 46) s m0 args below meth c0 G A 10 0 0 Q 307 [some (.inr (8, 0)), some (.inl (.int (nI m))), some (.inl (.int pl)), some (.inl (.int o)), some (.inl (.int (nI g))), some (.inl (.int x5)), some (.inl (.int x6)), some (.inl (.int x7)), some (.inl (.int x8)), x9] [] (jkE S m o g pl)) : WS p l e0 (rmS 2 46) s m0 args below meth c0 G A 10 0 0 Q 241 [some (.inr (8, 0)), some (.inl (.int (nI m))), some (.inl (.int pl)), some (.inl (.int o)), some (.inl (.int (nI g))), some (.inl (.int x5)), some (.inl (.int x6)), some (.inl (.int x7)), some (.inl (.int x8)), none] [] (S) := by
  refine ws_iload_n (i := 3) X d_M_judgeKinds_241 rfl rfl ?_
  refine ws_bipush (v := 19) X d_M_judgeKinds_242 rfl ?_
  refine ws_icmp_eq X d_M_judgeKinds_244 (fun h244 => ?_) (fun h244 => ?_)
  · refine ws_aload_n (i := 0) X d_M_judgeKinds_253 rfl rfl ?_
    refine ws_iload_n (i := 1) X d_M_judgeKinds_254 rfl rfl ?_
    refine ws_iload (i := 4) X d_M_judgeKinds_255 rfl ?_
    refine ws_callV1 X (m_M_mapAt S m mp (nI g) hm hmp hM) cv_M_mapAt ml_M_192 ob8 rfl rfl (Nat.le_of_ble_eq_true rfl) ⟨Nat.le_of_ble_eq_true rfl, Nat.le_of_ble_eq_true rfl⟩ ⟨Nat.zero_le _, Nat.zero_le _⟩ d_M_judgeKinds_257 ?_
    rcases mpfV_rng (nI g) hM hmp with hQ | ⟨q, hq, hQ⟩
    · refine ws_ist_9 X rfl d_M_judgeKinds_260 (by decide) ?_
      refine ws_iload (i := 9) X d_M_judgeKinds_262 rfl ?_
      refine ws_iconst (v := (-1)) X d_M_judgeKinds_264 rfl ?_
      refine ws_icmp_eq X d_M_judgeKinds_265 (fun h265 => ?_) (fun h265 => ?_)
      · refine ws_aload_n (i := 0) X d_M_judgeKinds_278 rfl rfl ?_
        refine ws_bipush (v := 18) X d_M_judgeKinds_279 rfl ?_
        refine ws_iload_n (i := 2) X d_M_judgeKinds_281 rfl rfl ?_
        refine ws_callV0 X (m_M_faults _ _ _) cv_M_faults ml_M_127 ob8 rfl rfl (Nat.le_of_ble_eq_true rfl) ⟨Nat.le_of_ble_eq_true rfl, Nat.le_of_ble_eq_true rfl⟩ ⟨Nat.zero_le _, Nat.zero_le _⟩ d_M_judgeKinds_282 ?_
        refine WS_is (jkE S m o g pl) (by simp [jkE, eq_true h244, hQ, eq_true h265]) ?_
        exact K5 _
      · exact absurd hQ h265
    · refine ws_ist_9 X rfl d_M_judgeKinds_260 (by decide) ?_
      have hcq := nI_c (i := 8 * m + q) (by omega); rw [hQ]
      refine ws_iload (i := 9) X d_M_judgeKinds_262 rfl ?_
      refine ws_iconst (v := (-1)) X d_M_judgeKinds_264 rfl ?_
      refine ws_icmp_eq X d_M_judgeKinds_265 (fun h265 => ?_) (fun h265 => ?_)
      · exact absurd h265 (nI_nm1 (by omega))
      · refine ws_aload_n (i := 0) X d_M_judgeKinds_268 rfl rfl ?_
        refine ws_iload_n (i := 1) X d_M_judgeKinds_269 rfl rfl ?_
        refine ws_iload (i := 9) X d_M_judgeKinds_270 rfl ?_
        refine ws_callV1 X (m_M_fits S m (8 * m + q) d lc hm (by omega) hd hD hlc hL) cv_M_fits ml_M_196 ob8 rfl rfl (Nat.le_of_ble_eq_true rfl) ⟨Nat.le_of_ble_eq_true rfl, Nat.le_of_ble_eq_true rfl⟩ ⟨Nat.zero_le _, Nat.zero_le _⟩ d_M_judgeKinds_272 ?_
        refine ws_ifB_ne X d_M_judgeKinds_275 (fun h275 => ?_) (fun h275 => ?_)
        · refine ws_aload_n (i := 0) X d_M_judgeKinds_286 rfl rfl ?_
          refine ws_iload_n (i := 3) X d_M_judgeKinds_287 rfl rfl ?_
          refine ws_bipush (v := 19) X d_M_judgeKinds_288 rfl ?_
          refine ws_icmp_eq X d_M_judgeKinds_290 (fun h290 => ?_) (fun h290 => ?_)
          · refine ws_iconst (v := 0) X d_M_judgeKinds_303 rfl ?_
            refine ws_putZ X (⟨rfl, rfl⟩) fl_M_180 ob8 d_M_judgeKinds_304 ?_
            first | exact absurd h244 h290 | exact absurd h290 h244 | exact WS_is (jkE S m o g pl) (by simp [jkE, bI, eq_true h244, hQ, hcq, eq_false h265, h275, eq_true h290]) (K7 _)
          · refine ws_iload_n (i := 3) X d_M_judgeKinds_293 rfl rfl ?_
            refine ws_bipush (v := 22) X d_M_judgeKinds_294 rfl ?_
            refine ws_icmp_eq X d_M_judgeKinds_296 (fun h296 => ?_) (fun h296 => ?_)
            · refine ws_iconst (v := 0) X d_M_judgeKinds_303 rfl ?_
              refine ws_putZ X (⟨rfl, rfl⟩) fl_M_180 ob8 d_M_judgeKinds_304 ?_
              first | exact absurd h244 h290 | exact absurd h290 h244 | exact WS_is (jkE S m o g pl) (by simp [jkE, bI, eq_true h244, hQ, hcq, eq_false h265, h275, eq_false h290, eq_true h296]) (K7 _)
            · refine ws_iconst (v := 1) X d_M_judgeKinds_299 rfl ?_
              refine ws_goto X d_M_judgeKinds_300 ?_
              refine ws_putZ X (⟨rfl, rfl⟩) fl_M_180 ob8 d_M_judgeKinds_304 ?_
              first | exact absurd h244 h290 | exact absurd h290 h244 | exact WS_is (jkE S m o g pl) (by simp [jkE, bI, eq_true h244, hQ, hcq, eq_false h265, h275, eq_false h290, eq_false h296]) (K7 _)
        · refine ws_aload_n (i := 0) X d_M_judgeKinds_278 rfl rfl ?_
          refine ws_bipush (v := 18) X d_M_judgeKinds_279 rfl ?_
          refine ws_iload_n (i := 2) X d_M_judgeKinds_281 rfl rfl ?_
          refine ws_callV0 X (m_M_faults _ _ _) cv_M_faults ml_M_127 ob8 rfl rfl (Nat.le_of_ble_eq_true rfl) ⟨Nat.le_of_ble_eq_true rfl, Nat.le_of_ble_eq_true rfl⟩ ⟨Nat.zero_le _, Nat.zero_le _⟩ d_M_judgeKinds_282 ?_
          refine WS_is (jkE S m o g pl) (by simp [jkE, eq_true h244, hQ, hcq, eq_false h265, h275]) ?_
          exact K5 _
  · refine ws_iload_n (i := 3) X d_M_judgeKinds_247 rfl rfl ?_
    refine ws_bipush (v := 20) X d_M_judgeKinds_248 rfl ?_
    refine ws_icmp_ne X d_M_judgeKinds_250 (fun h250 => ?_) (fun h250 => ?_)
    · refine ws_aload_n (i := 0) X d_M_judgeKinds_286 rfl rfl ?_
      refine ws_iload_n (i := 3) X d_M_judgeKinds_287 rfl rfl ?_
      refine ws_bipush (v := 19) X d_M_judgeKinds_288 rfl ?_
      refine ws_icmp_eq X d_M_judgeKinds_290 (fun h290 => ?_) (fun h290 => ?_)
      · refine ws_iconst (v := 0) X d_M_judgeKinds_303 rfl ?_
        refine ws_putZ X (⟨rfl, rfl⟩) fl_M_180 ob8 d_M_judgeKinds_304 ?_
        first | exact absurd h244 h290 | exact absurd h290 h244 | exact WS_is (jkE S m o g pl) (by simp [jkE, bI, eq_false h244, eq_false h250, eq_true h290]) (K7 _)
      · refine ws_iload_n (i := 3) X d_M_judgeKinds_293 rfl rfl ?_
        refine ws_bipush (v := 22) X d_M_judgeKinds_294 rfl ?_
        refine ws_icmp_eq X d_M_judgeKinds_296 (fun h296 => ?_) (fun h296 => ?_)
        · refine ws_iconst (v := 0) X d_M_judgeKinds_303 rfl ?_
          refine ws_putZ X (⟨rfl, rfl⟩) fl_M_180 ob8 d_M_judgeKinds_304 ?_
          first | exact absurd h244 h290 | exact absurd h290 h244 | exact WS_is (jkE S m o g pl) (by simp [jkE, bI, eq_false h244, eq_false h250, eq_false h290, eq_true h296]) (K7 _)
        · refine ws_iconst (v := 1) X d_M_judgeKinds_299 rfl ?_
          refine ws_goto X d_M_judgeKinds_300 ?_
          refine ws_putZ X (⟨rfl, rfl⟩) fl_M_180 ob8 d_M_judgeKinds_304 ?_
          first | exact absurd h244 h290 | exact absurd h290 h244 | exact WS_is (jkE S m o g pl) (by simp [jkE, bI, eq_false h244, eq_false h250, eq_false h290, eq_false h296]) (K7 _)
    · refine ws_aload_n (i := 0) X d_M_judgeKinds_253 rfl rfl ?_
      refine ws_iload_n (i := 1) X d_M_judgeKinds_254 rfl rfl ?_
      refine ws_iload (i := 4) X d_M_judgeKinds_255 rfl ?_
      refine ws_callV1 X (m_M_mapAt S m mp (nI g) hm hmp hM) cv_M_mapAt ml_M_192 ob8 rfl rfl (Nat.le_of_ble_eq_true rfl) ⟨Nat.le_of_ble_eq_true rfl, Nat.le_of_ble_eq_true rfl⟩ ⟨Nat.zero_le _, Nat.zero_le _⟩ d_M_judgeKinds_257 ?_
      rcases mpfV_rng (nI g) hM hmp with hQ | ⟨q, hq, hQ⟩
      · refine ws_ist_9 X rfl d_M_judgeKinds_260 (by decide) ?_
        refine ws_iload (i := 9) X d_M_judgeKinds_262 rfl ?_
        refine ws_iconst (v := (-1)) X d_M_judgeKinds_264 rfl ?_
        refine ws_icmp_eq X d_M_judgeKinds_265 (fun h265 => ?_) (fun h265 => ?_)
        · refine ws_aload_n (i := 0) X d_M_judgeKinds_278 rfl rfl ?_
          refine ws_bipush (v := 18) X d_M_judgeKinds_279 rfl ?_
          refine ws_iload_n (i := 2) X d_M_judgeKinds_281 rfl rfl ?_
          refine ws_callV0 X (m_M_faults _ _ _) cv_M_faults ml_M_127 ob8 rfl rfl (Nat.le_of_ble_eq_true rfl) ⟨Nat.le_of_ble_eq_true rfl, Nat.le_of_ble_eq_true rfl⟩ ⟨Nat.zero_le _, Nat.zero_le _⟩ d_M_judgeKinds_282 ?_
          refine WS_is (jkE S m o g pl) (by simp [jkE, eq_false h244, eq_true h250, hQ, eq_true h265]) ?_
          exact K5 _
        · exact absurd hQ h265
      · refine ws_ist_9 X rfl d_M_judgeKinds_260 (by decide) ?_
        have hcq := nI_c (i := 8 * m + q) (by omega); rw [hQ]
        refine ws_iload (i := 9) X d_M_judgeKinds_262 rfl ?_
        refine ws_iconst (v := (-1)) X d_M_judgeKinds_264 rfl ?_
        refine ws_icmp_eq X d_M_judgeKinds_265 (fun h265 => ?_) (fun h265 => ?_)
        · exact absurd h265 (nI_nm1 (by omega))
        · refine ws_aload_n (i := 0) X d_M_judgeKinds_268 rfl rfl ?_
          refine ws_iload_n (i := 1) X d_M_judgeKinds_269 rfl rfl ?_
          refine ws_iload (i := 9) X d_M_judgeKinds_270 rfl ?_
          refine ws_callV1 X (m_M_fits S m (8 * m + q) d lc hm (by omega) hd hD hlc hL) cv_M_fits ml_M_196 ob8 rfl rfl (Nat.le_of_ble_eq_true rfl) ⟨Nat.le_of_ble_eq_true rfl, Nat.le_of_ble_eq_true rfl⟩ ⟨Nat.zero_le _, Nat.zero_le _⟩ d_M_judgeKinds_272 ?_
          refine ws_ifB_ne X d_M_judgeKinds_275 (fun h275 => ?_) (fun h275 => ?_)
          · refine ws_aload_n (i := 0) X d_M_judgeKinds_286 rfl rfl ?_
            refine ws_iload_n (i := 3) X d_M_judgeKinds_287 rfl rfl ?_
            refine ws_bipush (v := 19) X d_M_judgeKinds_288 rfl ?_
            refine ws_icmp_eq X d_M_judgeKinds_290 (fun h290 => ?_) (fun h290 => ?_)
            · refine ws_iconst (v := 0) X d_M_judgeKinds_303 rfl ?_
              refine ws_putZ X (⟨rfl, rfl⟩) fl_M_180 ob8 d_M_judgeKinds_304 ?_
              first | exact absurd h244 h290 | exact absurd h290 h244 | exact WS_is (jkE S m o g pl) (by simp [jkE, bI, eq_false h244, eq_true h250, hQ, hcq, eq_false h265, h275, eq_true h290]) (K7 _)
            · refine ws_iload_n (i := 3) X d_M_judgeKinds_293 rfl rfl ?_
              refine ws_bipush (v := 22) X d_M_judgeKinds_294 rfl ?_
              refine ws_icmp_eq X d_M_judgeKinds_296 (fun h296 => ?_) (fun h296 => ?_)
              · refine ws_iconst (v := 0) X d_M_judgeKinds_303 rfl ?_
                refine ws_putZ X (⟨rfl, rfl⟩) fl_M_180 ob8 d_M_judgeKinds_304 ?_
                first | exact absurd h244 h290 | exact absurd h290 h244 | exact WS_is (jkE S m o g pl) (by simp [jkE, bI, eq_false h244, eq_true h250, hQ, hcq, eq_false h265, h275, eq_false h290, eq_true h296]) (K7 _)
              · refine ws_iconst (v := 1) X d_M_judgeKinds_299 rfl ?_
                refine ws_goto X d_M_judgeKinds_300 ?_
                refine ws_putZ X (⟨rfl, rfl⟩) fl_M_180 ob8 d_M_judgeKinds_304 ?_
                first | exact absurd h244 h290 | exact absurd h290 h244 | exact WS_is (jkE S m o g pl) (by simp [jkE, bI, eq_false h244, eq_true h250, hQ, hcq, eq_false h265, h275, eq_false h290, eq_false h296]) (K7 _)
          · refine ws_aload_n (i := 0) X d_M_judgeKinds_278 rfl rfl ?_
            refine ws_bipush (v := 18) X d_M_judgeKinds_279 rfl ?_
            refine ws_iload_n (i := 2) X d_M_judgeKinds_281 rfl rfl ?_
            refine ws_callV0 X (m_M_faults _ _ _) cv_M_faults ml_M_127 ob8 rfl rfl (Nat.le_of_ble_eq_true rfl) ⟨Nat.le_of_ble_eq_true rfl, Nat.le_of_ble_eq_true rfl⟩ ⟨Nat.zero_le _, Nat.zero_le _⟩ d_M_judgeKinds_282 ?_
            refine WS_is (jkE S m o g pl) (by simp [jkE, eq_false h244, eq_true h250, hQ, hcq, eq_false h265, h275]) ?_
            exact K5 _
end L43

