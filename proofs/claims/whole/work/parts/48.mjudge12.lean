/-! the model judges: an OP; bounds of a FILE that was read -/
def MBx (S : MS) (m t lc st L mp : Nat) : Prop := S.1 31 0 m = nI t ∧ t ≤ 3 ∧ S.1 34 0 m = nI lc ∧ lc ≤ 6 ∧ S.1 35 0 m = nI st ∧ st ≤ 6 ∧ S.1 36 0 m = nI L ∧ L ≤ 48 ∧ S.1 38 0 m = nI mp ∧ mp ≤ 8 ∧ (∀ j, j < L → ∃ b, b < 256 ∧ S.1 37 0 (48 * m + j) = nI b) ∧ (∀ j, j < mp → ∃ q d, q < L ∧ d ≤ st ∧ S.1 39 0 (8 * m + j) = nI q ∧ S.1 41 0 (8 * m + j) = nI d)
def MB (S : MS) (k en : Nat) : Prop := S.1 8 0 9 = nI k ∧ k ≤ 5 ∧ S.1 8 0 4 = nI en ∧ en ≤ 16 ∧ ∀ m, m < k → ∃ t lc st L mp, MBx S m t lc st L mp
theorem MBx.same {S S' : MS} {m t lc st L mp : Nat} (h : MBx S m t lc st L mp) (hs : ∀ b d, 31 ≤ b → b ≤ 41 → S'.1 b 0 d = S.1 b 0 d) : MBx S' m t lc st L mp := by
  obtain ⟨h1, h2, h3, h4, h5, h6, h7, h8, h9, ha, hb, hc⟩ := h
  refine ⟨?_, h2, ?_, h4, ?_, h6, ?_, h8, ?_, ha, fun j hj => ?_, fun j hj => ?_⟩
  · rw [hs 31 m (by decide) (by decide)]; exact h1
  · rw [hs 34 m (by decide) (by decide)]; exact h3
  · rw [hs 35 m (by decide) (by decide)]; exact h5
  · rw [hs 36 m (by decide) (by decide)]; exact h7
  · rw [hs 38 m (by decide) (by decide)]; exact h9
  · rw [hs 37 _ (by decide) (by decide)]; exact hb j hj
  · rw [hs 39 _ (by decide) (by decide), hs 41 _ (by decide) (by decide)]; exact hc j hj
theorem MB.same {S S' : MS} {k en : Nat} (h : MB S k en) (h9 : S'.1 8 0 9 = S.1 8 0 9) (h4 : S'.1 8 0 4 = S.1 8 0 4) (hs : ∀ b d, 31 ≤ b → b ≤ 41 → S'.1 b 0 d = S.1 b 0 d) : MB S' k en := by
  obtain ⟨a1, a2, a3, a4, a5⟩ := h
  refine ⟨by rw [h9]; exact a1, a2, by rw [h4]; exact a3, a4, fun m hm => ?_⟩
  obtain ⟨t, lc, st, L, mp, hx⟩ := a5 m hm
  exact ⟨t, lc, st, L, mp, hx.same hs⟩
theorem mEny_g {S : MS} {m g lc k : Nat} {o : Int32} (hL : S.1 34 0 m = nI lc) (hlc : lc ≤ 6) (hK : S.1 8 0 9 = nI k) (hk : k ≤ 5) (hg : g < 256) (h : mEny S m o g = true) : (o = 3 → g < 6) ∧ (o = 4 → g < 6) ∧ (o = 21 → g < k) := by
  refine ⟨fun z => ?_, fun z => ?_, fun z => ?_⟩ <;> subst z
  · have h : decide (¬ S.1 34 0 m ≤ nI g) = true := by rw [mEny, if_neg (by decide), if_neg (by decide), if_pos rfl] at h; exact h
    rw [decide_eq_true_eq, hL, nI_leI (by omega) (by omega)] at h; omega
  · have h : decide (¬ S.1 34 0 m ≤ nI g) = true := by rw [mEny, if_neg (by decide), if_neg (by decide), if_neg (by decide), if_pos rfl] at h; exact h
    rw [decide_eq_true_eq, hL, nI_leI (by omega) (by omega)] at h; omega
  · have h : decide (¬ S.1 8 0 9 ≤ nI g) = true := by rw [mEny, if_neg (by decide), if_neg (by decide), if_neg (by decide), if_neg (by decide), if_pos rfl] at h; exact h
    rw [decide_eq_true_eq, hK, nI_leI (by omega) (by omega)] at h; omega
theorem mPops_c {S : MS} {o : Int32} {g : Nat} (h21 : o = 21 → ∃ t, t ≤ 3 ∧ S.1 31 0 g = nI t) : ∃ c, mPops S o g = nI c ∧ c < 2 ^ 31 ∧ (o = 21 → S.1 31 0 g = nI c ∧ c ≤ 3) := by
  unfold mPops
  by_cases h : o = 21
  · obtain ⟨t, ht, hT⟩ := h21 h
    rw [if_pos h]; exact ⟨t, hT, by omega, fun _ => ⟨hT, ht⟩⟩
  · rw [if_neg h]
    by_cases h2 : (mIn o 7 14 || decide (o = 17) || decide (o = 18)) = true
    · rw [if_pos h2]; exact ⟨2, rfl, by decide, fun z => absurd z h⟩
    · rw [if_neg h2]
      cases (mIn o 4 6 || decide (o = 15) || decide (o = 16) || decide (o = 20) || decide (21 < o)) with
      | true => exact ⟨1, rfl, by decide, fun z => absurd z h⟩
      | false => exact ⟨0, rfl, by decide, fun z => absurd z h⟩
def mjoN (S : MS) (m a : Nat) : MS := mjoGo m a 6 0 (wI (wI S 43 0 a 1) 44 0 a (S.1 8 0 33))
theorem mjoN_o (S : MS) (m a b c d : Nat) (h3 : b ≠ 43) (h4 : b ≠ 44) (h5 : b ≠ 45) (h6 : b ≠ 46) : (mjoN S m a).1 b c d = S.1 b c d := by
  rw [mjoN, mjoGo_o _ _ _ _ _ h5 h6, wI_o _ _ _ _ _ _ _ _ (fun z => h4 z.1), wI_o _ _ _ _ _ _ _ _ (fun z => h3 z.1)]
def mjArg (S : MS) (m pl o : Nat) : Nat := if mHas (nI o) = true then (S.1 37 0 (48 * m + pl + 1)).toNatClampNeg else 0
def mjEnd (pl o : Nat) : Nat := if mHas (nI o) = true then pl + 2 else pl + 1
def mjShort (S : MS) (m pl o : Nat) : Bool := decide (S.1 36 0 m < nI (mjEnd pl o)) || (decide (nI (mjEnd pl o) = S.1 36 0 m) && (!decide (nI o = 19) && !decide (nI o = 22)))
def mjT1 (S : MS) (m pl o : Nat) : MS := if nI o ≤ 24 then (if mjShort S m pl o = true then mFaultS S 13 (nI pl) else if mEny S m (nI o) (mjArg S m pl o) = true then jkS S m (nI o) (mjArg S m pl o) (nI pl) else mFaultS S 14 (nI pl)) else mFaultS S 12 (nI pl)
def mjT (S : MS) (m pl o : Nat) : MS := mjT1 (mjoN S m (48 * m + pl)) m pl o
section L46
variable {p : Program} {l : Launch} {e0 : Env} {s : State} {m0 : MethodId} {args : Array Value} {below : List Frame} {meth : Method} {c0 : Code} {G : GG} {A : Nat → Prop} {Q : State → Prop}
theorem l_mjT (X : CX p s m0 args meth c0 G A c_M_judgeOp y_M_judgeOp.cls 8 (none)) {S : MS} {m k en pl o t lc st L mp d : Nat} {x4 : Int32} (hm : m < k) (hB : MB S k en) (hX : MBx S m t lc st L mp) (hpl : pl < L) (ho : S.1 37 0 (48 * m + pl) = nI o) (ho2 : o < 256) (hD : S.1 8 0 33 = nI d) (hd : d ≤ st) (Kr : ∀ (lv : List (Option MV)) (pc nx : Nat), DC c_M_judgeOp pc .return_ 1 nx → WS p l e0 (rmS 3 75) s m0 args below meth c0 G A 8 0 0 Q pc lv [] (mjT S m pl o)) : WS p l e0 (rmS 3 75) s m0 args below meth c0 G A 8 0 0 Q 65 [some (.inr (8, 0)), some (.inl (.int (nI m))), some (.inl (.int (nI pl))), some (.inl (.int (nI o))), some (.inl (.int x4)), none, none, none] [] (S) := by
  obtain ⟨h1, h2, h3, h4, h5, h6, h7, h8, h9, h10, h11, h12⟩ := hX
  obtain ⟨b1, b2, b3, b4, b5⟩ := hB
  have hm5 : m < 5 := by omega
  have hcm := nI_c (i := m) (by omega)
  have hinm : vp_in (nI m) 5 := vp_in_nI hm5 (by omega)
  have ha : 48 * m + pl < 240 := by omega
  have hin : vp_in (nI (48 * m + pl)) 240 := vp_in_nI ha (by omega)
  have hca := nI_c (i := 48 * m + pl) (by omega)
  have h48 : (48 : Int32) * nI m + nI pl = nI (48 * m + pl) := by rw [show (48 : Int32) = nI 48 from rfl, ixN]
  have eo : ∀ b c q, b ≠ 43 → b ≠ 44 → b ≠ 45 → b ≠ 46 → (mjoN S m (48 * m + pl)).1 b c q = S.1 b c q := fun b c q => mjoN_o S m _ b c q
  have n9 : (mjoN S m (48 * m + pl)).1 8 0 9 = nI k := (eo _ _ _ (by decide) (by decide) (by decide) (by decide)).trans b1
  have n4 : (mjoN S m (48 * m + pl)).1 8 0 4 = nI en := (eo _ _ _ (by decide) (by decide) (by decide) (by decide)).trans b3
  have n33 : (mjoN S m (48 * m + pl)).1 8 0 33 = nI d := (eo _ _ _ (by decide) (by decide) (by decide) (by decide)).trans hD
  have n34 : (mjoN S m (48 * m + pl)).1 34 0 m = nI lc := (eo _ _ _ (by decide) (by decide) (by decide) (by decide)).trans h3
  have n35 : (mjoN S m (48 * m + pl)).1 35 0 m = nI st := (eo _ _ _ (by decide) (by decide) (by decide) (by decide)).trans h5
  have n36 : (mjoN S m (48 * m + pl)).1 36 0 m = nI L := (eo _ _ _ (by decide) (by decide) (by decide) (by decide)).trans h7
  have n38 : (mjoN S m (48 * m + pl)).1 38 0 m = nI mp := (eo _ _ _ (by decide) (by decide) (by decide) (by decide)).trans h9
  have n31 : ∀ g, g < k → ∃ t, t ≤ 3 ∧ (mjoN S m (48 * m + pl)).1 31 0 g = nI t := fun g hg => by
    obtain ⟨t, _, _, _, _, z1, z2, -⟩ := b5 g hg
    exact ⟨t, z2, (eo _ _ _ (by decide) (by decide) (by decide) (by decide)).trans z1⟩
  have hJK : ∀ g, g < 256 → mEny (mjoN S m (48 * m + pl)) m (nI o) g = true → MetE y_M_judgeKinds c_M_judgeKinds 10 none 2 46 [.inr (8, 0), .inl (.int (nI m)), .inl (.int (nI pl)), .inl (.int (nI o)), .inl (.int (nI g))] (mjoN S m (48 * m + pl)) none (jkS (mjoN S m (48 * m + pl)) m (nI o) g (nI pl)) := fun g hg hY => by
    obtain ⟨y1, y2, y3⟩ := mEny_g n34 h4 n9 b2 hg hY
    obtain ⟨c, c1, c2, c3⟩ := mPops_c (S := mjoN S m (48 * m + pl)) (o := nI o) (g := g) (fun z => n31 g (y3 z))
    exact m_M_judgeKinds _ m g c d lc st mp (nI o) (nI pl) hm5 hg c1 hd h6 n33 n35 h4 n34 h10 n38 y1 y2 (fun z => ⟨by have := y3 z; omega, c3 z⟩) c2
  refine ws_bipush (v := 48) X d_M_judgeOp_65 rfl ?_
  refine ws_iload_n (i := 1) X d_M_judgeOp_67 rfl rfl ?_
  refine ws_imul X d_M_judgeOp_68 ?_
  refine ws_iload_n (i := 2) X d_M_judgeOp_69 rfl rfl ?_
  refine ws_iadd X d_M_judgeOp_70 ?_
  rw [h48]
  refine ws_ist_5 X rfl d_M_judgeOp_71 (by decide) ?_
  refine ws_aload_n (i := 0) X d_M_judgeOp_73 rfl rfl ?_
  refine ws_getR X fl_M_69 ob8 d_M_judgeOp_74 ?_
  refine ws_iload (i := 5) X d_M_judgeOp_77 rfl ?_
  refine ws_iconst (v := 1) X d_M_judgeOp_79 rfl ?_
  refine ws_zast X (rfl) ak43 ob43 (by assumption) d_M_judgeOp_80 ?_
  rw [hca]
  refine ws_aload_n (i := 0) X d_M_judgeOp_81 rfl rfl ?_
  refine ws_getR X fl_M_73 ob8 d_M_judgeOp_82 ?_
  refine ws_iload (i := 5) X d_M_judgeOp_85 rfl ?_
  refine ws_aload_n (i := 0) X d_M_judgeOp_87 rfl rfl ?_
  refine ws_getI X fl_M_177 ob8 d_M_judgeOp_88 ?_
  refine ws_iast X ak44 ob44 (by assumption) d_M_judgeOp_91 ?_
  rw [hca]
  refine WS_is (wI (wI S 43 0 (48 * m + pl) 1) 44 0 (48 * m + pl) (S.1 8 0 33)) (by rw [wI_o _ _ _ _ _ _ _ _ (fun z => absurd z.1 (by decide))]) ?_
  refine ws_iconst (v := 0) X d_M_judgeOp_92 rfl ?_
  refine ws_ist_6 X rfl d_M_judgeOp_93 (by decide) ?_
  refine l_mjo X hm5 ha 6 0 _ rfl (fun j => ?_)
  refine WS_is (mjoN S m (48 * m + pl)) rfl ?_
  refine ws_iload_n (i := 3) X d_M_judgeOp_176 rfl rfl ?_
  refine ws_bipush (v := 24) X d_M_judgeOp_177 rfl ?_
  refine ws_icmp_le X d_M_judgeOp_179 (fun h179 => ?_) (fun h179 => ?_)
  · cases hb : mHas (nI o)
    · refine ws_iload_n (i := 2) X d_M_judgeOp_190 rfl rfl ?_
      have hE : mjEnd pl o = pl + 1 := if_neg (by rw [hb]; decide)
      refine ws_iload_n (i := 3) X d_M_judgeOp_191 rfl rfl ?_
      refine ws_callS1 X (m_M_hasByte _ _) cs_M_hasByte ml_M_188 rfl rfl (Nat.le_of_ble_eq_true rfl) ⟨Nat.le_of_ble_eq_true rfl, Nat.le_of_ble_eq_true rfl⟩ ⟨Nat.zero_le _, Nat.zero_le _⟩ d_M_judgeOp_192 ?_
      refine ws_ifB_eq X d_M_judgeOp_195 (fun h195 => ?_) (fun h195 => ?_)
      · refine ws_iconst (v := 1) X d_M_judgeOp_202 rfl ?_
        refine ws_iadd X d_M_judgeOp_203 ?_
        rw [nI_1, ← hE]
        refine ws_ist_6 X rfl d_M_judgeOp_204 (by decide) ?_
        refine ws_iload (i := 6) X d_M_judgeOp_206 rfl ?_
        refine ws_aload_n (i := 0) X d_M_judgeOp_208 rfl rfl ?_
        refine ws_getR X fl_M_48 ob8 d_M_judgeOp_209 ?_
        refine ws_iload_n (i := 1) X d_M_judgeOp_212 rfl rfl ?_
        refine ws_iald X ak36 ob36 (by assumption) d_M_judgeOp_213 ?_
        rw [hcm]
        refine ws_icmp_gt X d_M_judgeOp_214 (fun h214 => ?_) (fun h214 => ?_)
        · refine ws_aload_n (i := 0) X d_M_judgeOp_240 rfl rfl ?_
          refine ws_bipush (v := 13) X d_M_judgeOp_241 rfl ?_
          refine ws_iload_n (i := 2) X d_M_judgeOp_243 rfl rfl ?_
          refine ws_callV0 X (m_M_faults _ _ _) cv_M_faults ml_M_127 ob8 rfl rfl (Nat.le_of_ble_eq_true rfl) ⟨Nat.le_of_ble_eq_true rfl, Nat.le_of_ble_eq_true rfl⟩ ⟨Nat.zero_le _, Nat.zero_le _⟩ d_M_judgeOp_244 ?_
          refine WS_is (mjT S m pl o) (by simp [mjT, mjT1, mjShort, eq_true h179, hb, h195, eq_true h214]) ?_
          exact Kr _ _ _ d_M_judgeOp_247
        · refine ws_iload (i := 6) X d_M_judgeOp_217 rfl ?_
          refine ws_aload_n (i := 0) X d_M_judgeOp_219 rfl rfl ?_
          refine ws_getR X fl_M_48 ob8 d_M_judgeOp_220 ?_
          refine ws_iload_n (i := 1) X d_M_judgeOp_223 rfl rfl ?_
          refine ws_iald X ak36 ob36 (by assumption) d_M_judgeOp_224 ?_
          rw [hcm]
          refine ws_icmp_ne X d_M_judgeOp_225 (fun h225 => ?_) (fun h225 => ?_)
          · refine ws_iload_n (i := 3) X d_M_judgeOp_248 rfl rfl ?_
            refine ws_callS1 X (m_M_hasByte _ _) cs_M_hasByte ml_M_188 rfl rfl (Nat.le_of_ble_eq_true rfl) ⟨Nat.le_of_ble_eq_true rfl, Nat.le_of_ble_eq_true rfl⟩ ⟨Nat.zero_le _, Nat.zero_le _⟩ d_M_judgeOp_249 ?_
            refine ws_ifB_eq X d_M_judgeOp_252 (fun h252 => ?_) (fun h252 => ?_)
            · refine ws_iconst (v := 0) X d_M_judgeOp_267 rfl ?_
              obtain ⟨g, hg, hA⟩ : ∃ g, g < 256 ∧ mjArg (mjoN S m (48 * m + pl)) m pl o = g := ⟨0, by decide, if_neg (by rw [hb]; decide)⟩; rw [show (0 : Int32) = nI g from (by rw [← hA, mjArg, if_neg (by rw [hb]; decide)]; rfl)]
              refine ws_ist_7 X rfl d_M_judgeOp_268 (by decide) ?_
              refine ws_aload_n (i := 0) X d_M_judgeOp_270 rfl rfl ?_
              refine ws_iload_n (i := 1) X d_M_judgeOp_271 rfl rfl ?_
              refine ws_iload_n (i := 3) X d_M_judgeOp_272 rfl rfl ?_
              refine ws_iload (i := 7) X d_M_judgeOp_273 rfl ?_
              refine ws_callV1 X (m_M_isEntry _ m g en (nI o) hm5 hg n4 b4) cv_M_isEntry ml_M_202 ob8 rfl rfl (Nat.le_of_ble_eq_true rfl) ⟨Nat.le_of_ble_eq_true rfl, Nat.le_of_ble_eq_true rfl⟩ ⟨Nat.zero_le _, Nat.zero_le _⟩ d_M_judgeOp_275 ?_
              refine ws_ifB_ne X d_M_judgeOp_278 (fun h278 => ?_) (fun h278 => ?_)
              · refine ws_aload_n (i := 0) X d_M_judgeOp_289 rfl rfl ?_
                refine ws_iload_n (i := 1) X d_M_judgeOp_290 rfl rfl ?_
                refine ws_iload_n (i := 2) X d_M_judgeOp_291 rfl rfl ?_
                refine ws_iload_n (i := 3) X d_M_judgeOp_292 rfl rfl ?_
                refine ws_iload (i := 7) X d_M_judgeOp_293 rfl ?_
                refine ws_callV0 X (hJK g hg h278) cv_M_judgeKinds ml_M_205 ob8 rfl rfl (Nat.le_of_ble_eq_true rfl) ⟨Nat.le_of_ble_eq_true rfl, Nat.le_of_ble_eq_true rfl⟩ ⟨Nat.zero_le _, Nat.zero_le _⟩ d_M_judgeOp_295 ?_
                refine WS_is (mjT S m pl o) (by simp [mjT, mjT1, mjShort, hA, eq_true h179, hb, h195, eq_false h214, eq_false h225, h252, h278]) ?_
                exact Kr _ _ _ d_M_judgeOp_298
              · refine ws_aload_n (i := 0) X d_M_judgeOp_281 rfl rfl ?_
                refine ws_bipush (v := 14) X d_M_judgeOp_282 rfl ?_
                refine ws_iload_n (i := 2) X d_M_judgeOp_284 rfl rfl ?_
                refine ws_callV0 X (m_M_faults _ _ _) cv_M_faults ml_M_127 ob8 rfl rfl (Nat.le_of_ble_eq_true rfl) ⟨Nat.le_of_ble_eq_true rfl, Nat.le_of_ble_eq_true rfl⟩ ⟨Nat.zero_le _, Nat.zero_le _⟩ d_M_judgeOp_285 ?_
                refine WS_is (mjT S m pl o) (by simp [mjT, mjT1, mjShort, hA, eq_true h179, hb, h195, eq_false h214, eq_false h225, h252, h278]) ?_
                exact Kr _ _ _ d_M_judgeOp_288
            · exact absurd (hb.symm.trans h252) (by decide)
          · refine ws_iload_n (i := 3) X d_M_judgeOp_228 rfl rfl ?_
            refine ws_bipush (v := 19) X d_M_judgeOp_229 rfl ?_
            refine ws_icmp_eq X d_M_judgeOp_231 (fun h231 => ?_) (fun h231 => ?_)
            · refine ws_iload_n (i := 3) X d_M_judgeOp_248 rfl rfl ?_
              refine ws_callS1 X (m_M_hasByte _ _) cs_M_hasByte ml_M_188 rfl rfl (Nat.le_of_ble_eq_true rfl) ⟨Nat.le_of_ble_eq_true rfl, Nat.le_of_ble_eq_true rfl⟩ ⟨Nat.zero_le _, Nat.zero_le _⟩ d_M_judgeOp_249 ?_
              refine ws_ifB_eq X d_M_judgeOp_252 (fun h252 => ?_) (fun h252 => ?_)
              · refine ws_iconst (v := 0) X d_M_judgeOp_267 rfl ?_
                obtain ⟨g, hg, hA⟩ : ∃ g, g < 256 ∧ mjArg (mjoN S m (48 * m + pl)) m pl o = g := ⟨0, by decide, if_neg (by rw [hb]; decide)⟩; rw [show (0 : Int32) = nI g from (by rw [← hA, mjArg, if_neg (by rw [hb]; decide)]; rfl)]
                refine ws_ist_7 X rfl d_M_judgeOp_268 (by decide) ?_
                refine ws_aload_n (i := 0) X d_M_judgeOp_270 rfl rfl ?_
                refine ws_iload_n (i := 1) X d_M_judgeOp_271 rfl rfl ?_
                refine ws_iload_n (i := 3) X d_M_judgeOp_272 rfl rfl ?_
                refine ws_iload (i := 7) X d_M_judgeOp_273 rfl ?_
                refine ws_callV1 X (m_M_isEntry _ m g en (nI o) hm5 hg n4 b4) cv_M_isEntry ml_M_202 ob8 rfl rfl (Nat.le_of_ble_eq_true rfl) ⟨Nat.le_of_ble_eq_true rfl, Nat.le_of_ble_eq_true rfl⟩ ⟨Nat.zero_le _, Nat.zero_le _⟩ d_M_judgeOp_275 ?_
                refine ws_ifB_ne X d_M_judgeOp_278 (fun h278 => ?_) (fun h278 => ?_)
                · refine ws_aload_n (i := 0) X d_M_judgeOp_289 rfl rfl ?_
                  refine ws_iload_n (i := 1) X d_M_judgeOp_290 rfl rfl ?_
                  refine ws_iload_n (i := 2) X d_M_judgeOp_291 rfl rfl ?_
                  refine ws_iload_n (i := 3) X d_M_judgeOp_292 rfl rfl ?_
                  refine ws_iload (i := 7) X d_M_judgeOp_293 rfl ?_
                  refine ws_callV0 X (hJK g hg h278) cv_M_judgeKinds ml_M_205 ob8 rfl rfl (Nat.le_of_ble_eq_true rfl) ⟨Nat.le_of_ble_eq_true rfl, Nat.le_of_ble_eq_true rfl⟩ ⟨Nat.zero_le _, Nat.zero_le _⟩ d_M_judgeOp_295 ?_
                  refine WS_is (mjT S m pl o) (by simp [mjT, mjT1, mjShort, hA, eq_true h179, hb, h195, eq_false h214, eq_true h225, eq_true h231, h252, h278]) ?_
                  exact Kr _ _ _ d_M_judgeOp_298
                · refine ws_aload_n (i := 0) X d_M_judgeOp_281 rfl rfl ?_
                  refine ws_bipush (v := 14) X d_M_judgeOp_282 rfl ?_
                  refine ws_iload_n (i := 2) X d_M_judgeOp_284 rfl rfl ?_
                  refine ws_callV0 X (m_M_faults _ _ _) cv_M_faults ml_M_127 ob8 rfl rfl (Nat.le_of_ble_eq_true rfl) ⟨Nat.le_of_ble_eq_true rfl, Nat.le_of_ble_eq_true rfl⟩ ⟨Nat.zero_le _, Nat.zero_le _⟩ d_M_judgeOp_285 ?_
                  refine WS_is (mjT S m pl o) (by simp [mjT, mjT1, mjShort, hA, eq_true h179, hb, h195, eq_false h214, eq_true h225, eq_true h231, h252, h278]) ?_
                  exact Kr _ _ _ d_M_judgeOp_288
              · exact absurd (hb.symm.trans h252) (by decide)
            · refine ws_iload_n (i := 3) X d_M_judgeOp_234 rfl rfl ?_
              refine ws_bipush (v := 22) X d_M_judgeOp_235 rfl ?_
              refine ws_icmp_eq X d_M_judgeOp_237 (fun h237 => ?_) (fun h237 => ?_)
              · refine ws_iload_n (i := 3) X d_M_judgeOp_248 rfl rfl ?_
                refine ws_callS1 X (m_M_hasByte _ _) cs_M_hasByte ml_M_188 rfl rfl (Nat.le_of_ble_eq_true rfl) ⟨Nat.le_of_ble_eq_true rfl, Nat.le_of_ble_eq_true rfl⟩ ⟨Nat.zero_le _, Nat.zero_le _⟩ d_M_judgeOp_249 ?_
                refine ws_ifB_eq X d_M_judgeOp_252 (fun h252 => ?_) (fun h252 => ?_)
                · refine ws_iconst (v := 0) X d_M_judgeOp_267 rfl ?_
                  obtain ⟨g, hg, hA⟩ : ∃ g, g < 256 ∧ mjArg (mjoN S m (48 * m + pl)) m pl o = g := ⟨0, by decide, if_neg (by rw [hb]; decide)⟩; rw [show (0 : Int32) = nI g from (by rw [← hA, mjArg, if_neg (by rw [hb]; decide)]; rfl)]
                  refine ws_ist_7 X rfl d_M_judgeOp_268 (by decide) ?_
                  refine ws_aload_n (i := 0) X d_M_judgeOp_270 rfl rfl ?_
                  refine ws_iload_n (i := 1) X d_M_judgeOp_271 rfl rfl ?_
                  refine ws_iload_n (i := 3) X d_M_judgeOp_272 rfl rfl ?_
                  refine ws_iload (i := 7) X d_M_judgeOp_273 rfl ?_
                  refine ws_callV1 X (m_M_isEntry _ m g en (nI o) hm5 hg n4 b4) cv_M_isEntry ml_M_202 ob8 rfl rfl (Nat.le_of_ble_eq_true rfl) ⟨Nat.le_of_ble_eq_true rfl, Nat.le_of_ble_eq_true rfl⟩ ⟨Nat.zero_le _, Nat.zero_le _⟩ d_M_judgeOp_275 ?_
                  refine ws_ifB_ne X d_M_judgeOp_278 (fun h278 => ?_) (fun h278 => ?_)
                  · refine ws_aload_n (i := 0) X d_M_judgeOp_289 rfl rfl ?_
                    refine ws_iload_n (i := 1) X d_M_judgeOp_290 rfl rfl ?_
                    refine ws_iload_n (i := 2) X d_M_judgeOp_291 rfl rfl ?_
                    refine ws_iload_n (i := 3) X d_M_judgeOp_292 rfl rfl ?_
                    refine ws_iload (i := 7) X d_M_judgeOp_293 rfl ?_
                    refine ws_callV0 X (hJK g hg h278) cv_M_judgeKinds ml_M_205 ob8 rfl rfl (Nat.le_of_ble_eq_true rfl) ⟨Nat.le_of_ble_eq_true rfl, Nat.le_of_ble_eq_true rfl⟩ ⟨Nat.zero_le _, Nat.zero_le _⟩ d_M_judgeOp_295 ?_
                    refine WS_is (mjT S m pl o) (by simp [mjT, mjT1, mjShort, hA, eq_true h179, hb, h195, eq_false h214, eq_true h225, eq_false h231, eq_true h237, h252, h278]) ?_
                    exact Kr _ _ _ d_M_judgeOp_298
                  · refine ws_aload_n (i := 0) X d_M_judgeOp_281 rfl rfl ?_
                    refine ws_bipush (v := 14) X d_M_judgeOp_282 rfl ?_
                    refine ws_iload_n (i := 2) X d_M_judgeOp_284 rfl rfl ?_
                    refine ws_callV0 X (m_M_faults _ _ _) cv_M_faults ml_M_127 ob8 rfl rfl (Nat.le_of_ble_eq_true rfl) ⟨Nat.le_of_ble_eq_true rfl, Nat.le_of_ble_eq_true rfl⟩ ⟨Nat.zero_le _, Nat.zero_le _⟩ d_M_judgeOp_285 ?_
                    refine WS_is (mjT S m pl o) (by simp [mjT, mjT1, mjShort, hA, eq_true h179, hb, h195, eq_false h214, eq_true h225, eq_false h231, eq_true h237, h252, h278]) ?_
                    exact Kr _ _ _ d_M_judgeOp_288
                · exact absurd (hb.symm.trans h252) (by decide)
              · refine ws_aload_n (i := 0) X d_M_judgeOp_240 rfl rfl ?_
                refine ws_bipush (v := 13) X d_M_judgeOp_241 rfl ?_
                refine ws_iload_n (i := 2) X d_M_judgeOp_243 rfl rfl ?_
                refine ws_callV0 X (m_M_faults _ _ _) cv_M_faults ml_M_127 ob8 rfl rfl (Nat.le_of_ble_eq_true rfl) ⟨Nat.le_of_ble_eq_true rfl, Nat.le_of_ble_eq_true rfl⟩ ⟨Nat.zero_le _, Nat.zero_le _⟩ d_M_judgeOp_244 ?_
                refine WS_is (mjT S m pl o) (by simp [mjT, mjT1, mjShort, eq_true h179, hb, h195, eq_false h214, eq_true h225, eq_false h231, eq_false h237]) ?_
                exact Kr _ _ _ d_M_judgeOp_247
      · exact absurd (hb.symm.trans h195) (by decide)
    · refine ws_iload_n (i := 2) X d_M_judgeOp_190 rfl rfl ?_
      have hE : mjEnd pl o = pl + 2 := if_pos hb
      refine ws_iload_n (i := 3) X d_M_judgeOp_191 rfl rfl ?_
      refine ws_callS1 X (m_M_hasByte _ _) cs_M_hasByte ml_M_188 rfl rfl (Nat.le_of_ble_eq_true rfl) ⟨Nat.le_of_ble_eq_true rfl, Nat.le_of_ble_eq_true rfl⟩ ⟨Nat.zero_le _, Nat.zero_le _⟩ d_M_judgeOp_192 ?_
      refine ws_ifB_eq X d_M_judgeOp_195 (fun h195 => ?_) (fun h195 => ?_)
      · exact absurd (hb.symm.trans h195) (by decide)
      · refine ws_iconst (v := 2) X d_M_judgeOp_198 rfl ?_
        refine ws_goto X d_M_judgeOp_199 ?_
        refine ws_iadd X d_M_judgeOp_203 ?_
        rw [show (2 : Int32) = nI 2 from rfl, nI_add, ← hE]
        refine ws_ist_6 X rfl d_M_judgeOp_204 (by decide) ?_
        refine ws_iload (i := 6) X d_M_judgeOp_206 rfl ?_
        refine ws_aload_n (i := 0) X d_M_judgeOp_208 rfl rfl ?_
        refine ws_getR X fl_M_48 ob8 d_M_judgeOp_209 ?_
        refine ws_iload_n (i := 1) X d_M_judgeOp_212 rfl rfl ?_
        refine ws_iald X ak36 ob36 (by assumption) d_M_judgeOp_213 ?_
        rw [hcm]
        refine ws_icmp_gt X d_M_judgeOp_214 (fun h214 => ?_) (fun h214 => ?_)
        · refine ws_aload_n (i := 0) X d_M_judgeOp_240 rfl rfl ?_
          refine ws_bipush (v := 13) X d_M_judgeOp_241 rfl ?_
          refine ws_iload_n (i := 2) X d_M_judgeOp_243 rfl rfl ?_
          refine ws_callV0 X (m_M_faults _ _ _) cv_M_faults ml_M_127 ob8 rfl rfl (Nat.le_of_ble_eq_true rfl) ⟨Nat.le_of_ble_eq_true rfl, Nat.le_of_ble_eq_true rfl⟩ ⟨Nat.zero_le _, Nat.zero_le _⟩ d_M_judgeOp_244 ?_
          refine WS_is (mjT S m pl o) (by simp [mjT, mjT1, mjShort, eq_true h179, hb, h195, eq_true h214]) ?_
          exact Kr _ _ _ d_M_judgeOp_247
        · refine ws_iload (i := 6) X d_M_judgeOp_217 rfl ?_
          refine ws_aload_n (i := 0) X d_M_judgeOp_219 rfl rfl ?_
          refine ws_getR X fl_M_48 ob8 d_M_judgeOp_220 ?_
          refine ws_iload_n (i := 1) X d_M_judgeOp_223 rfl rfl ?_
          refine ws_iald X ak36 ob36 (by assumption) d_M_judgeOp_224 ?_
          rw [hcm]
          refine ws_icmp_ne X d_M_judgeOp_225 (fun h225 => ?_) (fun h225 => ?_)
          · refine ws_iload_n (i := 3) X d_M_judgeOp_248 rfl rfl ?_
            refine ws_callS1 X (m_M_hasByte _ _) cs_M_hasByte ml_M_188 rfl rfl (Nat.le_of_ble_eq_true rfl) ⟨Nat.le_of_ble_eq_true rfl, Nat.le_of_ble_eq_true rfl⟩ ⟨Nat.zero_le _, Nat.zero_le _⟩ d_M_judgeOp_249 ?_
            refine ws_ifB_eq X d_M_judgeOp_252 (fun h252 => ?_) (fun h252 => ?_)
            · exact absurd (hb.symm.trans h252) (by decide)
            · refine ws_aload_n (i := 0) X d_M_judgeOp_255 rfl rfl ?_
              refine ws_getR X fl_M_51 ob8 d_M_judgeOp_256 ?_
              refine ws_iload (i := 5) X d_M_judgeOp_259 rfl ?_
              refine ws_iconst (v := 1) X d_M_judgeOp_261 rfl ?_
              refine ws_iadd X d_M_judgeOp_262 ?_
              have hle : mjEnd pl o ≤ L := (by have q := h214; rw [n36, nI_ltI (by omega) (by omega)] at q; omega); have hca1 := nI_c (i := 48 * m + pl + 1) (by omega); have hin1 : vp_in (nI (48 * m + pl + 1)) 240 := vp_in_nI (by omega) (by omega); rw [nI_1]
              refine ws_iald X ak37 ob37 (hin1) d_M_judgeOp_263 ?_
              rw [hca1]
              refine ws_goto X d_M_judgeOp_264 ?_
              obtain ⟨g, hg, hG⟩ := h11 (pl + 1) (by omega); have hG2 := (eo 37 0 (48 * m + pl + 1) (by decide) (by decide) (by decide) (by decide)).trans hG; have hA : mjArg (mjoN S m (48 * m + pl)) m pl o = g := (by rw [mjArg, if_pos hb, hG2, nI_c (by omega)]); rw [hG2]
              refine ws_ist_7 X rfl d_M_judgeOp_268 (by decide) ?_
              refine ws_aload_n (i := 0) X d_M_judgeOp_270 rfl rfl ?_
              refine ws_iload_n (i := 1) X d_M_judgeOp_271 rfl rfl ?_
              refine ws_iload_n (i := 3) X d_M_judgeOp_272 rfl rfl ?_
              refine ws_iload (i := 7) X d_M_judgeOp_273 rfl ?_
              refine ws_callV1 X (m_M_isEntry _ m g en (nI o) hm5 hg n4 b4) cv_M_isEntry ml_M_202 ob8 rfl rfl (Nat.le_of_ble_eq_true rfl) ⟨Nat.le_of_ble_eq_true rfl, Nat.le_of_ble_eq_true rfl⟩ ⟨Nat.zero_le _, Nat.zero_le _⟩ d_M_judgeOp_275 ?_
              refine ws_ifB_ne X d_M_judgeOp_278 (fun h278 => ?_) (fun h278 => ?_)
              · refine ws_aload_n (i := 0) X d_M_judgeOp_289 rfl rfl ?_
                refine ws_iload_n (i := 1) X d_M_judgeOp_290 rfl rfl ?_
                refine ws_iload_n (i := 2) X d_M_judgeOp_291 rfl rfl ?_
                refine ws_iload_n (i := 3) X d_M_judgeOp_292 rfl rfl ?_
                refine ws_iload (i := 7) X d_M_judgeOp_293 rfl ?_
                refine ws_callV0 X (hJK g hg h278) cv_M_judgeKinds ml_M_205 ob8 rfl rfl (Nat.le_of_ble_eq_true rfl) ⟨Nat.le_of_ble_eq_true rfl, Nat.le_of_ble_eq_true rfl⟩ ⟨Nat.zero_le _, Nat.zero_le _⟩ d_M_judgeOp_295 ?_
                refine WS_is (mjT S m pl o) (by simp [mjT, mjT1, mjShort, hA, eq_true h179, hb, h195, eq_false h214, eq_false h225, h252, h278]) ?_
                exact Kr _ _ _ d_M_judgeOp_298
              · refine ws_aload_n (i := 0) X d_M_judgeOp_281 rfl rfl ?_
                refine ws_bipush (v := 14) X d_M_judgeOp_282 rfl ?_
                refine ws_iload_n (i := 2) X d_M_judgeOp_284 rfl rfl ?_
                refine ws_callV0 X (m_M_faults _ _ _) cv_M_faults ml_M_127 ob8 rfl rfl (Nat.le_of_ble_eq_true rfl) ⟨Nat.le_of_ble_eq_true rfl, Nat.le_of_ble_eq_true rfl⟩ ⟨Nat.zero_le _, Nat.zero_le _⟩ d_M_judgeOp_285 ?_
                refine WS_is (mjT S m pl o) (by simp [mjT, mjT1, mjShort, hA, eq_true h179, hb, h195, eq_false h214, eq_false h225, h252, h278]) ?_
                exact Kr _ _ _ d_M_judgeOp_288
          · refine ws_iload_n (i := 3) X d_M_judgeOp_228 rfl rfl ?_
            refine ws_bipush (v := 19) X d_M_judgeOp_229 rfl ?_
            refine ws_icmp_eq X d_M_judgeOp_231 (fun h231 => ?_) (fun h231 => ?_)
            · refine ws_iload_n (i := 3) X d_M_judgeOp_248 rfl rfl ?_
              refine ws_callS1 X (m_M_hasByte _ _) cs_M_hasByte ml_M_188 rfl rfl (Nat.le_of_ble_eq_true rfl) ⟨Nat.le_of_ble_eq_true rfl, Nat.le_of_ble_eq_true rfl⟩ ⟨Nat.zero_le _, Nat.zero_le _⟩ d_M_judgeOp_249 ?_
              refine ws_ifB_eq X d_M_judgeOp_252 (fun h252 => ?_) (fun h252 => ?_)
              · exact absurd (hb.symm.trans h252) (by decide)
              · refine ws_aload_n (i := 0) X d_M_judgeOp_255 rfl rfl ?_
                refine ws_getR X fl_M_51 ob8 d_M_judgeOp_256 ?_
                refine ws_iload (i := 5) X d_M_judgeOp_259 rfl ?_
                refine ws_iconst (v := 1) X d_M_judgeOp_261 rfl ?_
                refine ws_iadd X d_M_judgeOp_262 ?_
                have hle : mjEnd pl o ≤ L := (by have q := h214; rw [n36, nI_ltI (by omega) (by omega)] at q; omega); have hca1 := nI_c (i := 48 * m + pl + 1) (by omega); have hin1 : vp_in (nI (48 * m + pl + 1)) 240 := vp_in_nI (by omega) (by omega); rw [nI_1]
                refine ws_iald X ak37 ob37 (hin1) d_M_judgeOp_263 ?_
                rw [hca1]
                refine ws_goto X d_M_judgeOp_264 ?_
                obtain ⟨g, hg, hG⟩ := h11 (pl + 1) (by omega); have hG2 := (eo 37 0 (48 * m + pl + 1) (by decide) (by decide) (by decide) (by decide)).trans hG; have hA : mjArg (mjoN S m (48 * m + pl)) m pl o = g := (by rw [mjArg, if_pos hb, hG2, nI_c (by omega)]); rw [hG2]
                refine ws_ist_7 X rfl d_M_judgeOp_268 (by decide) ?_
                refine ws_aload_n (i := 0) X d_M_judgeOp_270 rfl rfl ?_
                refine ws_iload_n (i := 1) X d_M_judgeOp_271 rfl rfl ?_
                refine ws_iload_n (i := 3) X d_M_judgeOp_272 rfl rfl ?_
                refine ws_iload (i := 7) X d_M_judgeOp_273 rfl ?_
                refine ws_callV1 X (m_M_isEntry _ m g en (nI o) hm5 hg n4 b4) cv_M_isEntry ml_M_202 ob8 rfl rfl (Nat.le_of_ble_eq_true rfl) ⟨Nat.le_of_ble_eq_true rfl, Nat.le_of_ble_eq_true rfl⟩ ⟨Nat.zero_le _, Nat.zero_le _⟩ d_M_judgeOp_275 ?_
                refine ws_ifB_ne X d_M_judgeOp_278 (fun h278 => ?_) (fun h278 => ?_)
                · refine ws_aload_n (i := 0) X d_M_judgeOp_289 rfl rfl ?_
                  refine ws_iload_n (i := 1) X d_M_judgeOp_290 rfl rfl ?_
                  refine ws_iload_n (i := 2) X d_M_judgeOp_291 rfl rfl ?_
                  refine ws_iload_n (i := 3) X d_M_judgeOp_292 rfl rfl ?_
                  refine ws_iload (i := 7) X d_M_judgeOp_293 rfl ?_
                  refine ws_callV0 X (hJK g hg h278) cv_M_judgeKinds ml_M_205 ob8 rfl rfl (Nat.le_of_ble_eq_true rfl) ⟨Nat.le_of_ble_eq_true rfl, Nat.le_of_ble_eq_true rfl⟩ ⟨Nat.zero_le _, Nat.zero_le _⟩ d_M_judgeOp_295 ?_
                  refine WS_is (mjT S m pl o) (by simp [mjT, mjT1, mjShort, hA, eq_true h179, hb, h195, eq_false h214, eq_true h225, eq_true h231, h252, h278]) ?_
                  exact Kr _ _ _ d_M_judgeOp_298
                · refine ws_aload_n (i := 0) X d_M_judgeOp_281 rfl rfl ?_
                  refine ws_bipush (v := 14) X d_M_judgeOp_282 rfl ?_
                  refine ws_iload_n (i := 2) X d_M_judgeOp_284 rfl rfl ?_
                  refine ws_callV0 X (m_M_faults _ _ _) cv_M_faults ml_M_127 ob8 rfl rfl (Nat.le_of_ble_eq_true rfl) ⟨Nat.le_of_ble_eq_true rfl, Nat.le_of_ble_eq_true rfl⟩ ⟨Nat.zero_le _, Nat.zero_le _⟩ d_M_judgeOp_285 ?_
                  refine WS_is (mjT S m pl o) (by simp [mjT, mjT1, mjShort, hA, eq_true h179, hb, h195, eq_false h214, eq_true h225, eq_true h231, h252, h278]) ?_
                  exact Kr _ _ _ d_M_judgeOp_288
            · refine ws_iload_n (i := 3) X d_M_judgeOp_234 rfl rfl ?_
              refine ws_bipush (v := 22) X d_M_judgeOp_235 rfl ?_
              refine ws_icmp_eq X d_M_judgeOp_237 (fun h237 => ?_) (fun h237 => ?_)
              · refine ws_iload_n (i := 3) X d_M_judgeOp_248 rfl rfl ?_
                refine ws_callS1 X (m_M_hasByte _ _) cs_M_hasByte ml_M_188 rfl rfl (Nat.le_of_ble_eq_true rfl) ⟨Nat.le_of_ble_eq_true rfl, Nat.le_of_ble_eq_true rfl⟩ ⟨Nat.zero_le _, Nat.zero_le _⟩ d_M_judgeOp_249 ?_
                refine ws_ifB_eq X d_M_judgeOp_252 (fun h252 => ?_) (fun h252 => ?_)
                · exact absurd (hb.symm.trans h252) (by decide)
                · refine ws_aload_n (i := 0) X d_M_judgeOp_255 rfl rfl ?_
                  refine ws_getR X fl_M_51 ob8 d_M_judgeOp_256 ?_
                  refine ws_iload (i := 5) X d_M_judgeOp_259 rfl ?_
                  refine ws_iconst (v := 1) X d_M_judgeOp_261 rfl ?_
                  refine ws_iadd X d_M_judgeOp_262 ?_
                  have hle : mjEnd pl o ≤ L := (by have q := h214; rw [n36, nI_ltI (by omega) (by omega)] at q; omega); have hca1 := nI_c (i := 48 * m + pl + 1) (by omega); have hin1 : vp_in (nI (48 * m + pl + 1)) 240 := vp_in_nI (by omega) (by omega); rw [nI_1]
                  refine ws_iald X ak37 ob37 (hin1) d_M_judgeOp_263 ?_
                  rw [hca1]
                  refine ws_goto X d_M_judgeOp_264 ?_
                  obtain ⟨g, hg, hG⟩ := h11 (pl + 1) (by omega); have hG2 := (eo 37 0 (48 * m + pl + 1) (by decide) (by decide) (by decide) (by decide)).trans hG; have hA : mjArg (mjoN S m (48 * m + pl)) m pl o = g := (by rw [mjArg, if_pos hb, hG2, nI_c (by omega)]); rw [hG2]
                  refine ws_ist_7 X rfl d_M_judgeOp_268 (by decide) ?_
                  refine ws_aload_n (i := 0) X d_M_judgeOp_270 rfl rfl ?_
                  refine ws_iload_n (i := 1) X d_M_judgeOp_271 rfl rfl ?_
                  refine ws_iload_n (i := 3) X d_M_judgeOp_272 rfl rfl ?_
                  refine ws_iload (i := 7) X d_M_judgeOp_273 rfl ?_
                  refine ws_callV1 X (m_M_isEntry _ m g en (nI o) hm5 hg n4 b4) cv_M_isEntry ml_M_202 ob8 rfl rfl (Nat.le_of_ble_eq_true rfl) ⟨Nat.le_of_ble_eq_true rfl, Nat.le_of_ble_eq_true rfl⟩ ⟨Nat.zero_le _, Nat.zero_le _⟩ d_M_judgeOp_275 ?_
                  refine ws_ifB_ne X d_M_judgeOp_278 (fun h278 => ?_) (fun h278 => ?_)
                  · refine ws_aload_n (i := 0) X d_M_judgeOp_289 rfl rfl ?_
                    refine ws_iload_n (i := 1) X d_M_judgeOp_290 rfl rfl ?_
                    refine ws_iload_n (i := 2) X d_M_judgeOp_291 rfl rfl ?_
                    refine ws_iload_n (i := 3) X d_M_judgeOp_292 rfl rfl ?_
                    refine ws_iload (i := 7) X d_M_judgeOp_293 rfl ?_
                    refine ws_callV0 X (hJK g hg h278) cv_M_judgeKinds ml_M_205 ob8 rfl rfl (Nat.le_of_ble_eq_true rfl) ⟨Nat.le_of_ble_eq_true rfl, Nat.le_of_ble_eq_true rfl⟩ ⟨Nat.zero_le _, Nat.zero_le _⟩ d_M_judgeOp_295 ?_
                    refine WS_is (mjT S m pl o) (by simp [mjT, mjT1, mjShort, hA, eq_true h179, hb, h195, eq_false h214, eq_true h225, eq_false h231, eq_true h237, h252, h278]) ?_
                    exact Kr _ _ _ d_M_judgeOp_298
                  · refine ws_aload_n (i := 0) X d_M_judgeOp_281 rfl rfl ?_
                    refine ws_bipush (v := 14) X d_M_judgeOp_282 rfl ?_
                    refine ws_iload_n (i := 2) X d_M_judgeOp_284 rfl rfl ?_
                    refine ws_callV0 X (m_M_faults _ _ _) cv_M_faults ml_M_127 ob8 rfl rfl (Nat.le_of_ble_eq_true rfl) ⟨Nat.le_of_ble_eq_true rfl, Nat.le_of_ble_eq_true rfl⟩ ⟨Nat.zero_le _, Nat.zero_le _⟩ d_M_judgeOp_285 ?_
                    refine WS_is (mjT S m pl o) (by simp [mjT, mjT1, mjShort, hA, eq_true h179, hb, h195, eq_false h214, eq_true h225, eq_false h231, eq_true h237, h252, h278]) ?_
                    exact Kr _ _ _ d_M_judgeOp_288
              · refine ws_aload_n (i := 0) X d_M_judgeOp_240 rfl rfl ?_
                refine ws_bipush (v := 13) X d_M_judgeOp_241 rfl ?_
                refine ws_iload_n (i := 2) X d_M_judgeOp_243 rfl rfl ?_
                refine ws_callV0 X (m_M_faults _ _ _) cv_M_faults ml_M_127 ob8 rfl rfl (Nat.le_of_ble_eq_true rfl) ⟨Nat.le_of_ble_eq_true rfl, Nat.le_of_ble_eq_true rfl⟩ ⟨Nat.zero_le _, Nat.zero_le _⟩ d_M_judgeOp_244 ?_
                refine WS_is (mjT S m pl o) (by simp [mjT, mjT1, mjShort, eq_true h179, hb, h195, eq_false h214, eq_true h225, eq_false h231, eq_false h237]) ?_
                exact Kr _ _ _ d_M_judgeOp_247
  · refine ws_aload_n (i := 0) X d_M_judgeOp_182 rfl rfl ?_
    refine ws_bipush (v := 12) X d_M_judgeOp_183 rfl ?_
    refine ws_iload_n (i := 2) X d_M_judgeOp_185 rfl rfl ?_
    refine ws_callV0 X (m_M_faults _ _ _) cv_M_faults ml_M_127 ob8 rfl rfl (Nat.le_of_ble_eq_true rfl) ⟨Nat.le_of_ble_eq_true rfl, Nat.le_of_ble_eq_true rfl⟩ ⟨Nat.zero_le _, Nat.zero_le _⟩ d_M_judgeOp_186 ?_
    refine WS_is (mjT S m pl o) (by simp [mjT, mjT1, eq_false h179]) ?_
    exact Kr _ _ _ d_M_judgeOp_189
end L46
def mjBad (S : MS) (m : Nat) (x : Int32) : Bool := if mpfV S m x = -1 then decide (S.1 8 0 32 = 0) else !decide (S.1 8 0 32 = 0) && !fitV S m (mpfV S m x).toNatClampNeg
def mjMap (S : MS) (m : Nat) (x : Int32) : MS := if mpfV S m x = -1 then S else becS S m (mpfV S m x).toNatClampNeg
def mjopS (S : MS) (m pl o : Nat) : MS := if mjBad S m (nI pl) = true then mFaultS S 11 (nI pl) else mjT (mjMap S m (nI pl)) m pl o
theorem becS_o (S : MS) (m a b c d : Nat) (h8 : b ≠ 8) (h48 : b ≠ 48) (h49 : b ≠ 49) : (becS S m a).1 b c d = S.1 b c d := by
  rw [becS, wI_o _ _ _ _ _ _ _ _ (fun z => h8 z.1), bec3, cpGo_o _ _ _ _ _ _ h49, bec2, cpGo_o _ _ _ _ _ _ h48, wI_o _ _ _ _ _ _ _ _ (fun z => h8 z.1)]
theorem becS_8 (S : MS) (m a d : Nat) (h1 : d ≠ 33) (h2 : d ≠ 32) : (becS S m a).1 8 0 d = S.1 8 0 d := by
  rw [becS, wI_o _ _ _ _ _ _ _ _ (fun z => h2 z.2.2), bec3, cpGo_o _ _ _ _ _ _ (by decide), bec2, cpGo_o _ _ _ _ _ _ (by decide), wI_o _ _ _ _ _ _ _ _ (fun z => h1 z.2.2)]
theorem becS_33 (S : MS) (m a : Nat) : (becS S m a).1 8 0 33 = S.1 41 0 a := by
  rw [becS, wI_o _ _ _ _ _ _ _ _ (by decide), bec3, cpGo_o _ _ _ _ _ _ (by decide), bec2, cpGo_o _ _ _ _ _ _ (by decide), wI_rd]
theorem becS_MB {S : MS} {k en : Nat} (m a : Nat) (h : MB S k en) : MB (becS S m a) k en := h.same (becS_8 _ _ _ _ (by decide) (by decide)) (becS_8 _ _ _ _ (by decide) (by decide)) (fun b d h1 h2 => becS_o _ _ _ _ _ _ (by omega) (by omega) (by omega))
theorem becS_MBx {S : MS} {m t lc st L mp : Nat} (a : Nat) (h : MBx S m t lc st L mp) : MBx (becS S m a) m t lc st L mp := h.same (fun b d h1 h2 => becS_o _ _ _ _ _ _ (by omega) (by omega) (by omega))
theorem m_M_judgeOp (S : MS) (m k en pl o t lc st L mp d : Nat) (hm : m < k) (hB : MB S k en) (hX : MBx S m t lc st L mp) (hpl : pl < L) (ho : S.1 37 0 (48 * m + pl) = nI o) (ho2 : o < 256) (hD : S.1 8 0 33 = nI d) (hd : d ≤ st) : MetE y_M_judgeOp c_M_judgeOp 8 (none) 3 75 [.inr (8, 0), .inl (.int (nI m)), .inl (.int (nI pl)), .inl (.int (nI o))] S (none) (mjopS S m pl o) := by
  refine MetS.of (lv0 := [some (.inr (8, 0)), some (.inl (.int (nI m))), some (.inl (.int (nI pl))), some (.inl (.int (nI o))), none, none, none, none]) pn_M rfl (Nat.le_of_ble_eq_true rfl) (fun p0 l0 e0 s0 m0 args below meth c0 G X => ?_)
  have hm5 : m < 5 := by have := hB.2.1; omega
  have hXX := hX
  obtain ⟨h1', h2', h3', h4', h5', h6', h7', h8', h9', h10', h11', h12'⟩ := hXX
  refine ws_aload_n (i := 0) X d_M_judgeOp_0 rfl rfl ?_
  refine ws_iload_n (i := 1) X d_M_judgeOp_1 rfl rfl ?_
  refine ws_iload_n (i := 2) X d_M_judgeOp_2 rfl rfl ?_
  refine ws_callV1 X (m_M_mapAt S m mp (nI pl) hm5 h10' h9') cv_M_mapAt ml_M_192 ob8 rfl rfl (Nat.le_of_ble_eq_true rfl) ⟨Nat.le_of_ble_eq_true rfl, Nat.le_of_ble_eq_true rfl⟩ ⟨Nat.zero_le _, Nat.zero_le _⟩ d_M_judgeOp_3 ?_
  rcases mpfV_rng (nI pl) h9' h10' with hQ | ⟨q, hq, hQ⟩
  · refine ws_ist_4 X rfl d_M_judgeOp_6 (by decide) ?_
    refine ws_iload (i := 4) X d_M_judgeOp_8 rfl ?_
    refine ws_iconst (v := (-1)) X d_M_judgeOp_10 rfl ?_
    refine ws_icmp_ne X d_M_judgeOp_11 (fun h11 => ?_) (fun h11 => ?_)
    · exact absurd hQ h11
    · refine ws_aload_n (i := 0) X d_M_judgeOp_14 rfl rfl ?_
      refine ws_getZ X fl_M_180 ob8 d_M_judgeOp_15 ?_
      refine ws_if_eq X d_M_judgeOp_18 (fun h18 => ?_) (fun h18 => ?_)
      · refine ws_aload_n (i := 0) X d_M_judgeOp_44 rfl rfl ?_
        refine ws_bipush (v := 11) X d_M_judgeOp_45 rfl ?_
        refine ws_iload_n (i := 2) X d_M_judgeOp_47 rfl rfl ?_
        refine ws_callV0 X (m_M_faults _ _ _) cv_M_faults ml_M_127 ob8 rfl rfl (Nat.le_of_ble_eq_true rfl) ⟨Nat.le_of_ble_eq_true rfl, Nat.le_of_ble_eq_true rfl⟩ ⟨Nat.zero_le _, Nat.zero_le _⟩ d_M_judgeOp_48 ?_
        refine ws_vret X d_M_judgeOp_51 ?_
        exact ⟨rfl, by simp [mjopS, mjBad, hQ, eq_true h11, eq_true h18]⟩
      · refine ws_iload (i := 4) X d_M_judgeOp_21 rfl ?_
        refine ws_iconst (v := (-1)) X d_M_judgeOp_23 rfl ?_
        refine ws_icmp_eq X d_M_judgeOp_24 (fun h24 => ?_) (fun h24 => ?_)
        · refine ws_iload (i := 4) X d_M_judgeOp_52 rfl ?_
          refine ws_iconst (v := (-1)) X d_M_judgeOp_54 rfl ?_
          refine ws_icmp_eq X d_M_judgeOp_55 (fun h55 => ?_) (fun h55 => ?_)
          · have eM : mjMap S m (nI pl) = S := if_pos hQ; exact l_mjT X hm hB hX hpl ho ho2 hD hd (fun lv pc nx dd => ws_vret X dd ⟨rfl, by simp [mjopS, mjBad, eM, hQ, eq_true h11, eq_false h18, eq_true h24, eq_true h55]⟩)
          · exact absurd hQ h55
        · exact absurd hQ h24
  · refine ws_ist_4 X rfl d_M_judgeOp_6 (by decide) ?_
    have hcq := nI_c (i := 8 * m + q) (by omega); have hne := nI_nm1 (a := 8 * m + q) (by omega); rw [hQ]
    refine ws_iload (i := 4) X d_M_judgeOp_8 rfl ?_
    refine ws_iconst (v := (-1)) X d_M_judgeOp_10 rfl ?_
    refine ws_icmp_ne X d_M_judgeOp_11 (fun h11 => ?_) (fun h11 => ?_)
    · refine ws_iload (i := 4) X d_M_judgeOp_21 rfl ?_
      refine ws_iconst (v := (-1)) X d_M_judgeOp_23 rfl ?_
      refine ws_icmp_eq X d_M_judgeOp_24 (fun h24 => ?_) (fun h24 => ?_)
      · exact absurd h24 hne
      · refine ws_aload_n (i := 0) X d_M_judgeOp_27 rfl rfl ?_
        refine ws_getZ X fl_M_180 ob8 d_M_judgeOp_28 ?_
        refine ws_if_eq X d_M_judgeOp_31 (fun h31 => ?_) (fun h31 => ?_)
        · refine ws_iload (i := 4) X d_M_judgeOp_52 rfl ?_
          refine ws_iconst (v := (-1)) X d_M_judgeOp_54 rfl ?_
          refine ws_icmp_eq X d_M_judgeOp_55 (fun h55 => ?_) (fun h55 => ?_)
          · exact absurd h55 hne
          · obtain ⟨q1, d1, e1, e2, e3, e4⟩ := h12' q hq
            refine ws_aload_n (i := 0) X d_M_judgeOp_58 rfl rfl ?_
            refine ws_iload_n (i := 1) X d_M_judgeOp_59 rfl rfl ?_
            refine ws_iload (i := 4) X d_M_judgeOp_60 rfl ?_
            refine ws_callV0 X (m_M_becomes S m (8 * m + q) d1 lc hm5 (by omega) (by omega) e4 h4' h3') cv_M_becomes ml_M_199 ob8 rfl rfl (Nat.le_of_ble_eq_true rfl) ⟨Nat.le_of_ble_eq_true rfl, Nat.le_of_ble_eq_true rfl⟩ ⟨Nat.zero_le _, Nat.zero_le _⟩ d_M_judgeOp_62 ?_
            have eM : mjMap S m (nI pl) = becS S m (8 * m + q) := (by rw [mjMap, hQ, if_neg hne, hcq]); exact l_mjT X hm (becS_MB m _ hB) (becS_MBx _ hX) hpl ((becS_o _ _ _ _ _ _ (by decide) (by decide) (by decide)).trans ho) ho2 ((becS_33 _ _ _).trans e4) e2 (fun lv pc nx dd => ws_vret X dd ⟨rfl, by simp [mjopS, mjBad, eM, hQ, hne, hcq, eq_false h11, eq_false h24, eq_true h31, eq_false h55]⟩)
        · refine ws_aload_n (i := 0) X d_M_judgeOp_34 rfl rfl ?_
          refine ws_iload_n (i := 1) X d_M_judgeOp_35 rfl rfl ?_
          refine ws_iload (i := 4) X d_M_judgeOp_36 rfl ?_
          refine ws_callV1 X (m_M_fits S m (8 * m + q) d lc hm5 (by omega) (by omega) hD h4' h3') cv_M_fits ml_M_196 ob8 rfl rfl (Nat.le_of_ble_eq_true rfl) ⟨Nat.le_of_ble_eq_true rfl, Nat.le_of_ble_eq_true rfl⟩ ⟨Nat.zero_le _, Nat.zero_le _⟩ d_M_judgeOp_38 ?_
          refine ws_ifB_ne X d_M_judgeOp_41 (fun h41 => ?_) (fun h41 => ?_)
          · refine ws_iload (i := 4) X d_M_judgeOp_52 rfl ?_
            refine ws_iconst (v := (-1)) X d_M_judgeOp_54 rfl ?_
            refine ws_icmp_eq X d_M_judgeOp_55 (fun h55 => ?_) (fun h55 => ?_)
            · exact absurd h55 hne
            · obtain ⟨q1, d1, e1, e2, e3, e4⟩ := h12' q hq
              refine ws_aload_n (i := 0) X d_M_judgeOp_58 rfl rfl ?_
              refine ws_iload_n (i := 1) X d_M_judgeOp_59 rfl rfl ?_
              refine ws_iload (i := 4) X d_M_judgeOp_60 rfl ?_
              refine ws_callV0 X (m_M_becomes S m (8 * m + q) d1 lc hm5 (by omega) (by omega) e4 h4' h3') cv_M_becomes ml_M_199 ob8 rfl rfl (Nat.le_of_ble_eq_true rfl) ⟨Nat.le_of_ble_eq_true rfl, Nat.le_of_ble_eq_true rfl⟩ ⟨Nat.zero_le _, Nat.zero_le _⟩ d_M_judgeOp_62 ?_
              have eM : mjMap S m (nI pl) = becS S m (8 * m + q) := (by rw [mjMap, hQ, if_neg hne, hcq]); exact l_mjT X hm (becS_MB m _ hB) (becS_MBx _ hX) hpl ((becS_o _ _ _ _ _ _ (by decide) (by decide) (by decide)).trans ho) ho2 ((becS_33 _ _ _).trans e4) e2 (fun lv pc nx dd => ws_vret X dd ⟨rfl, by simp [mjopS, mjBad, eM, hQ, hne, hcq, eq_false h11, eq_false h24, eq_false h31, h41, eq_false h55]⟩)
          · refine ws_aload_n (i := 0) X d_M_judgeOp_44 rfl rfl ?_
            refine ws_bipush (v := 11) X d_M_judgeOp_45 rfl ?_
            refine ws_iload_n (i := 2) X d_M_judgeOp_47 rfl rfl ?_
            refine ws_callV0 X (m_M_faults _ _ _) cv_M_faults ml_M_127 ob8 rfl rfl (Nat.le_of_ble_eq_true rfl) ⟨Nat.le_of_ble_eq_true rfl, Nat.le_of_ble_eq_true rfl⟩ ⟨Nat.zero_le _, Nat.zero_le _⟩ d_M_judgeOp_48 ?_
            refine ws_vret X d_M_judgeOp_51 ?_
            exact ⟨rfl, by simp [mjopS, mjBad, hQ, hne, hcq, eq_false h11, eq_false h24, eq_false h31, h41]⟩
    · exact absurd h11 hne


