/-! the model's root -/
theorem m_M_root (S : MS) (x : UInt64) : MetE y_M_root c_M_root 16 ((some .double)) 2 44 [.inl (.double x)] S (some (.inl (.double (mRoot x)))) (S) := by
  refine MetS.of (lv0 := [some (.inl (.double x)), none, none, none, none, none, none, none, none, none, none, none, none, none, none, none]) pn_M rfl (Nat.le_of_ble_eq_true rfl) (fun p0 l0 e0 s0 m0 args below meth c0 G X => ?_)
  refine ws_dload_n (i := 0) X d_M_root_0 rfl rfl ?_
  refine ws_dconst0 X d_M_root_1 ?_
  refine ws_dcmp X d_M_root_2 ?_
  refine ws_if_le X d_M_root_3 (fun h3 => ?_) (fun h3 => ?_)
  · refine ws_dload_n (i := 0) X d_M_root_16 rfl rfl ?_
    refine ws_dconst0 X d_M_root_17 ?_
    refine ws_dcmp X d_M_root_18 ?_
    refine ws_if_ge X d_M_root_19 (fun h19 => ?_) (fun h19 => ?_)
    · refine ws_dload_n (i := 0) X d_M_root_28 rfl rfl ?_
      refine ws_dret X d_M_root_29 ?_
      exact ⟨by simp [mRoot, eq_true h3, eq_true h19], rfl⟩
    · refine ws_ldc2d X d_M_root_22 ct_M_312 ?_
      refine ws_goto X d_M_root_25 ?_
      refine ws_dret X d_M_root_29 ?_
      exact ⟨by simp [mRoot, eq_true h3, eq_false h19], rfl⟩
  · refine ws_dload_n (i := 0) X d_M_root_6 rfl rfl ?_
    refine ws_dload_n (i := 0) X d_M_root_7 rfl rfl ?_
    refine ws_ldc2d X d_M_root_8 ct_M_351 ?_
    refine ws_dmul X d_M_root_11 (n64_of (rt_dbl h3)) ?_
    refine ws_dcmp X d_M_root_12 ?_
    refine ws_if_ne X d_M_root_13 (fun h13 => ?_) (fun h13 => ?_)
    · obtain ⟨g1, g2⟩ := rt_in h3 h13
      have hR : mRoot x = (lN (rtB x.toNat)).toUInt64 := by rw [mRoot, if_neg (fun z => z.elim h3 h13)]
      rw [hR]
      have hM := mDl_N (rt_nn h3)
      generalize x.toNat = N at g1 g2 hM ⊢
      have e1 : shr64 (lN N) 52 = lN (N / 2 ^ 52) := q_shr (k := 52) (by omega) (by decide)
      have e2 : lN N &&& 4503599627370495 = lN (N % 2 ^ 52) := q_mask (s := 52) (by decide) (by omega)
      have e3 : lN (N % 2 ^ 52) ||| 4503599627370496 = lN (N % 2 ^ 52 + 2 ^ 52) := by
        rw [Int64.or_comm, show (4503599627370496 : Int64) = lN (1 * 2 ^ 52) from rfl, q_or (Nat.mod_lt _ (by decide)) (by omega)]
        congr 1; omega
      have f49 : nI (N / 2 ^ 52) ≤ 0 ↔ ¬ 0 < N / 2 ^ 52 := by rw [show (0 : Int32) = nI 0 from rfl, nI_leI (by omega) (by decide)]; omega
      refine ws_dload_n (i := 0) X d_M_root_30 rfl rfl ?_
      refine ws_callS1 X (m_JD_doubleToLongBits _ _) cs_JD_doubleToLongBits ml_M_237 rfl rfl (Nat.le_of_ble_eq_true rfl) ⟨Nat.le_of_ble_eq_true rfl, Nat.le_of_ble_eq_true rfl⟩ ⟨Nat.zero_le _, Nat.zero_le _⟩ d_M_root_31 ?_
      rw [hM]
      refine ws_lstn_2 X rfl d_M_root_34 (by decide) ?_
      refine ws_lload_n (i := 2) X d_M_root_35 rfl rfl ?_
      refine ws_bipush (v := 52) X d_M_root_36 rfl ?_
      refine ws_lshr X d_M_root_38 ?_
      rw [e1]
      refine ws_l2i X d_M_root_39 ?_
      rw [lN_i]
      refine ws_ist_4 X rfl d_M_root_40 (by decide) ?_
      refine ws_lload_n (i := 2) X d_M_root_42 rfl rfl ?_
      refine ws_ldc2 X d_M_root_43 ct_M_316 ?_
      refine ws_land X d_M_root_46 ?_
      rw [e2]
      refine ws_lst_5 X rfl d_M_root_47 (by decide) ?_
      refine ws_iload (i := 4) X d_M_root_49 rfl ?_
      refine ws_if_le X d_M_root_51 (fun h51 => ?_) (fun h51 => ?_)
      · have hlt := f49.mp h51
        have hA : rtA N = N % 2 ^ 52 := if_neg (f49.mp h51)
        have hE : rtE N = 54 := if_neg (f49.mp h51)
        have hP : (1 : Int32) - 1075 = pw (rtE N) := by rw [hE]; decide
        refine ws_iconst (v := 1) X d_M_root_65 rfl ?_
        refine ws_ist_4 X rfl d_M_root_66 (by decide) ?_
        refine ws_iload (i := 4) X d_M_root_68 rfl ?_
        refine ws_sipush (v := 1075) X d_M_root_70 rfl ?_
        refine ws_isub X d_M_root_73 ?_
        rw [hP, ← hA]
        refine ws_ist_4 X rfl d_M_root_74 (by decide) ?_
        have hAb : 0 < rtA N ∧ rtA N < 2 ^ 53 := by rw [hA]; omega
        have hEb : 54 ≤ rtE N := by rw [hE]; omega
        refine l_nrm X 52 (rtA N) (rtE N) (by omega) hAb.2 (by omega) ?_
        have r1 := rt1_inv g1 g2
        have r2 := rt2_inv g1 g2
        have e4 : shl64 (lN (rt1 N).1) 1 = lN (2 * (rt1 N).1) := by
          rw [show (1 : Int32) = nI 1 from rfl, q_shl _ (by decide)]
          congr 1; omega
        have e5 := pw_dec (n := (rt1 N).2) (by omega)
        have f100 := pw_odd (rt1 N).2 (by omega)
        show WS _ _ _ _ _ _ _ _ _ _ _ _ _ _ _ _ _ [_, _, _, _, some (.inl (.int (pw (rt1 N).2))), some (.inl (.long (lN (rt1 N).1))), _, _, _, _, _, _, _, _, _, _] _ _
        refine ws_iload (i := 4) X d_M_root_97 rfl ?_
        refine ws_iconst (v := 2) X d_M_root_99 rfl ?_
        refine ws_irem X d_M_root_100 (by decide) ?_
        refine ws_if_eq X d_M_root_101 (fun h101 => ?_) (fun h101 => ?_)
        · have h2 : rt2 N = rt1 N := if_pos (f100.mp h101)
          rw [show (rt1 N).1 = (rt2 N).1 from by rw [h2], show (rt1 N).2 = (rt2 N).2 from by rw [h2]]
          first | rw [e5, show (rt1 N).2 - 1 = (rt2 N).2 from by rw [h2]] | skip
          refine ws_lconst (v := 0) X d_M_root_113 rfl ?_
          refine ws_lst_7 X rfl d_M_root_114 (by decide) ?_
          refine ws_lconst (v := 0) X d_M_root_116 rfl ?_
          refine ws_lst_9 X rfl d_M_root_117 (by decide) ?_
          refine ws_bipush (v := 26) X d_M_root_119 rfl ?_
          refine ws_ist_11 X rfl d_M_root_121 (by decide) ?_
          rw [show (26 : Int32) = 26 - nI 0 from by decide, show (0 : Int64) = lN 0 from rfl]
          refine l_rt X r2.2.1 55 0 0 0 none none none none (by omega) (by decide) (by decide) (fun j b12 b13 b14 b15 => ?_)
          have r3 := sqN_inv (rt2 N).1 55 0 0 0 (by decide) (by decide)
          have r4 : (rt3 N).1 < 2 ^ 55 := r3.1
          have r5 : (rt3 N).2 ≤ 2 * (rt3 N).1 := r3.2
          have rK := rtK_le N
          have rB := rtB_lt g1 g2
          show WS _ _ _ _ _ _ _ _ _ _ _ _ _ _ _ _ _ [_, _, _, _, _, _, _, some (.inl (.long (lN (rt3 N).2))), _, some (.inl (.long (lN (rt3 N).1))), _, _, _, _, _, _] _ _
          have e6 : shr64 (lN (rt3 N).1) 2 = lN ((rt3 N).1 / 4) := q_shr (k := 2) (by omega) (by decide)
          have e7 : lN (rt3 N).1 &&& 3 = lN ((rt3 N).1 % 4) := q_mask (s := 2) (by decide) (by omega)
          have e8 : lN ((rt3 N).1 / 4) &&& 1 = lN ((rt3 N).1 / 4 % 2) := q_mask (s := 1) (by decide) (by omega)
          have f221 : (2 : Int64) < lN ((rt3 N).1 % 4) ↔ 2 < (rt3 N).1 % 4 := q_lt (a := 2) (by decide) (by omega)
          have f230 : lN ((rt3 N).1 % 4) = 2 ↔ (rt3 N).1 % 4 = 2 := q_eq (b := 2) (by omega) (by decide)
          have f237 : lN (rt3 N).2 = 0 ↔ (rt3 N).2 = 0 := q_eq (b := 0) (by omega) (by decide)
          have f246 : lN ((rt3 N).1 / 4 % 2) = 1 ↔ (rt3 N).1 / 4 % 2 = 1 := q_eq (b := 1) (by omega) (by decide)
          refine ws_lload (i := 9) X d_M_root_202 rfl ?_
          refine ws_iconst (v := 2) X d_M_root_204 rfl ?_
          refine ws_lshr X d_M_root_205 ?_
          rw [e6]
          refine ws_lst_11 X rfl d_M_root_206 (by decide) ?_
          refine ws_lload (i := 9) X d_M_root_208 rfl ?_
          refine ws_ldc2 X d_M_root_210 ct_M_355 ?_
          refine ws_land X d_M_root_213 ?_
          rw [e7]
          refine ws_lst_13 X rfl d_M_root_214 (by decide) ?_
          refine ws_lload (i := 13) X d_M_root_216 rfl ?_
          refine ws_ldc2 X d_M_root_218 ct_M_357 ?_
          refine ws_lcmp_gt X d_M_root_221 d_M_root_222 (fun h221 => ?_) (fun h221 => ?_)
          · have hU : rtUp (rt3 N).1 (rt3 N).2 = true := by simp [rtUp, f221.mp h221]
            refine ws_lload (i := 11) X d_M_root_250 rfl ?_
            refine ws_lconst (v := 1) X d_M_root_252 rfl ?_
            refine ws_ladd X d_M_root_253 ?_
            rw [lN_1, show (rt3 N).1 / 4 + 1 = rtK N from (if_pos hU).symm]
            refine ws_lst_11 X rfl d_M_root_254 (by decide) ?_
            first | rw [hK] | skip
            have f270 : lN (rtK N) = 9007199254740992 ↔ rtK N = 2 ^ 53 := q_eq (b := 2 ^ 53) (by omega) (by decide)
            have eM : ∀ a, a < 2 ^ 64 → lN a &&& 4503599627370495 = lN (a % 2 ^ 52) := fun a ha => q_mask (s := 52) (by decide) ha
            refine ws_iload (i := 4) X d_M_root_256 rfl ?_
            refine ws_iconst (v := 2) X d_M_root_258 rfl ?_
            refine ws_idiv X d_M_root_259 (by decide) ?_
            refine ws_bipush (v := 26) X d_M_root_260 rfl ?_
            refine ws_isub X d_M_root_262 ?_
            refine ws_ist_15 X rfl d_M_root_263 (by decide) ?_
            refine ws_lload (i := 11) X d_M_root_265 rfl ?_
            refine ws_ldc2 X d_M_root_267 ct_M_359 ?_
            refine ws_lcmp_ne X d_M_root_270 d_M_root_271 (fun h270 => ?_) (fun h270 => ?_)
            · have k53 : ¬ rtK N = 2 ^ 53 := fun z => h270 (f270.mpr z)
              have eB : rtB N = ((rt2 N).2 / 2 + 485) * 2 ^ 52 + rtK N % 2 ^ 52 := if_neg k53
              have eP := pw_half (rt2 N).2 (by omega) r2.2.2.1
              refine ws_iload (i := 15) X d_M_root_283 rfl ?_
              refine ws_sipush (v := 1075) X d_M_root_285 rfl ?_
              refine ws_iadd X d_M_root_288 ?_
              rw [eP]
              refine ws_i2l X d_M_root_289 ?_
              rw [nI_l (by omega)]
              refine ws_bipush (v := 52) X d_M_root_290 rfl ?_
              refine ws_lshl X d_M_root_292 ?_
              rw [show (52 : Int32) = nI 52 from rfl, q_shl _ (by decide)]
              refine ws_lload (i := 11) X d_M_root_293 rfl ?_
              refine ws_ldc2 X d_M_root_295 ct_M_316 ?_
              refine ws_land X d_M_root_298 ?_
              rw [eM _ (by omega)]
              refine ws_lor X d_M_root_299 ?_
              rw [q_or (Nat.mod_lt _ (by decide)) (by omega), ← eB]
              refine ws_l2r X (snl_of (lN_noNaN rB)) ml_M_318 nt_y_l2r ns_y_l2r in_JD ⟨Nat.le_of_ble_eq_true rfl, Nat.le_of_ble_eq_true rfl⟩ d_M_root_300 ?_
              refine ws_dret X d_M_root_303 ?_
              exact ⟨rfl, rfl⟩
            · have k53 : rtK N = 2 ^ 53 := f270.mp h270
              have e9 : shr64 (lN (rtK N)) 1 = lN (2 ^ 52) := by rw [k53]; exact q_shr (k := 1) (by decide) (by decide)
              have eB : rtB N = ((rt2 N).2 / 2 + 486) * 2 ^ 52 + 2 ^ 52 % 2 ^ 52 := (if_pos k53).trans (by omega)
              have eP := pw_half1 (rt2 N).2 (by omega) r2.2.2.1
              refine ws_lload (i := 11) X d_M_root_274 rfl ?_
              refine ws_iconst (v := 1) X d_M_root_276 rfl ?_
              refine ws_lshr X d_M_root_277 ?_
              rw [e9]
              refine ws_lst_11 X rfl d_M_root_278 (by decide) ?_
              refine ws_iinc_15 X rfl d_M_root_280 rfl (by decide) ?_
              refine ws_iload (i := 15) X d_M_root_283 rfl ?_
              refine ws_sipush (v := 1075) X d_M_root_285 rfl ?_
              refine ws_iadd X d_M_root_288 ?_
              rw [eP]
              refine ws_i2l X d_M_root_289 ?_
              rw [nI_l (by omega)]
              refine ws_bipush (v := 52) X d_M_root_290 rfl ?_
              refine ws_lshl X d_M_root_292 ?_
              rw [show (52 : Int32) = nI 52 from rfl, q_shl _ (by decide)]
              refine ws_lload (i := 11) X d_M_root_293 rfl ?_
              refine ws_ldc2 X d_M_root_295 ct_M_316 ?_
              refine ws_land X d_M_root_298 ?_
              rw [eM _ (by omega)]
              refine ws_lor X d_M_root_299 ?_
              rw [q_or (Nat.mod_lt _ (by decide)) (by omega), ← eB]
              refine ws_l2r X (snl_of (lN_noNaN rB)) ml_M_318 nt_y_l2r ns_y_l2r in_JD ⟨Nat.le_of_ble_eq_true rfl, Nat.le_of_ble_eq_true rfl⟩ d_M_root_300 ?_
              refine ws_dret X d_M_root_303 ?_
              exact ⟨rfl, rfl⟩
          · have n2 : ¬ 2 < (rt3 N).1 % 4 := fun z => h221 (f221.mpr z)
            refine ws_lload (i := 13) X d_M_root_225 rfl ?_
            refine ws_ldc2 X d_M_root_227 ct_M_357 ?_
            refine ws_lcmp_ne X d_M_root_230 d_M_root_231 (fun h230 => ?_) (fun h230 => ?_)
            · have n3 : ¬ (rt3 N).1 % 4 = 2 := fun z => h230 (f230.mpr z)
              have hU : rtUp (rt3 N).1 (rt3 N).2 = false := by simp [rtUp, n2, n3]
              have hK : (rt3 N).1 / 4 = rtK N := by rw [rtK, hU]; rfl
              first | rw [hK] | skip
              have f270 : lN (rtK N) = 9007199254740992 ↔ rtK N = 2 ^ 53 := q_eq (b := 2 ^ 53) (by omega) (by decide)
              have eM : ∀ a, a < 2 ^ 64 → lN a &&& 4503599627370495 = lN (a % 2 ^ 52) := fun a ha => q_mask (s := 52) (by decide) ha
              refine ws_iload (i := 4) X d_M_root_256 rfl ?_
              refine ws_iconst (v := 2) X d_M_root_258 rfl ?_
              refine ws_idiv X d_M_root_259 (by decide) ?_
              refine ws_bipush (v := 26) X d_M_root_260 rfl ?_
              refine ws_isub X d_M_root_262 ?_
              refine ws_ist_15 X rfl d_M_root_263 (by decide) ?_
              refine ws_lload (i := 11) X d_M_root_265 rfl ?_
              refine ws_ldc2 X d_M_root_267 ct_M_359 ?_
              refine ws_lcmp_ne X d_M_root_270 d_M_root_271 (fun h270 => ?_) (fun h270 => ?_)
              · have k53 : ¬ rtK N = 2 ^ 53 := fun z => h270 (f270.mpr z)
                have eB : rtB N = ((rt2 N).2 / 2 + 485) * 2 ^ 52 + rtK N % 2 ^ 52 := if_neg k53
                have eP := pw_half (rt2 N).2 (by omega) r2.2.2.1
                refine ws_iload (i := 15) X d_M_root_283 rfl ?_
                refine ws_sipush (v := 1075) X d_M_root_285 rfl ?_
                refine ws_iadd X d_M_root_288 ?_
                rw [eP]
                refine ws_i2l X d_M_root_289 ?_
                rw [nI_l (by omega)]
                refine ws_bipush (v := 52) X d_M_root_290 rfl ?_
                refine ws_lshl X d_M_root_292 ?_
                rw [show (52 : Int32) = nI 52 from rfl, q_shl _ (by decide)]
                refine ws_lload (i := 11) X d_M_root_293 rfl ?_
                refine ws_ldc2 X d_M_root_295 ct_M_316 ?_
                refine ws_land X d_M_root_298 ?_
                rw [eM _ (by omega)]
                refine ws_lor X d_M_root_299 ?_
                rw [q_or (Nat.mod_lt _ (by decide)) (by omega), ← eB]
                refine ws_l2r X (snl_of (lN_noNaN rB)) ml_M_318 nt_y_l2r ns_y_l2r in_JD ⟨Nat.le_of_ble_eq_true rfl, Nat.le_of_ble_eq_true rfl⟩ d_M_root_300 ?_
                refine ws_dret X d_M_root_303 ?_
                exact ⟨rfl, rfl⟩
              · have k53 : rtK N = 2 ^ 53 := f270.mp h270
                have e9 : shr64 (lN (rtK N)) 1 = lN (2 ^ 52) := by rw [k53]; exact q_shr (k := 1) (by decide) (by decide)
                have eB : rtB N = ((rt2 N).2 / 2 + 486) * 2 ^ 52 + 2 ^ 52 % 2 ^ 52 := (if_pos k53).trans (by omega)
                have eP := pw_half1 (rt2 N).2 (by omega) r2.2.2.1
                refine ws_lload (i := 11) X d_M_root_274 rfl ?_
                refine ws_iconst (v := 1) X d_M_root_276 rfl ?_
                refine ws_lshr X d_M_root_277 ?_
                rw [e9]
                refine ws_lst_11 X rfl d_M_root_278 (by decide) ?_
                refine ws_iinc_15 X rfl d_M_root_280 rfl (by decide) ?_
                refine ws_iload (i := 15) X d_M_root_283 rfl ?_
                refine ws_sipush (v := 1075) X d_M_root_285 rfl ?_
                refine ws_iadd X d_M_root_288 ?_
                rw [eP]
                refine ws_i2l X d_M_root_289 ?_
                rw [nI_l (by omega)]
                refine ws_bipush (v := 52) X d_M_root_290 rfl ?_
                refine ws_lshl X d_M_root_292 ?_
                rw [show (52 : Int32) = nI 52 from rfl, q_shl _ (by decide)]
                refine ws_lload (i := 11) X d_M_root_293 rfl ?_
                refine ws_ldc2 X d_M_root_295 ct_M_316 ?_
                refine ws_land X d_M_root_298 ?_
                rw [eM _ (by omega)]
                refine ws_lor X d_M_root_299 ?_
                rw [q_or (Nat.mod_lt _ (by decide)) (by omega), ← eB]
                refine ws_l2r X (snl_of (lN_noNaN rB)) ml_M_318 nt_y_l2r ns_y_l2r in_JD ⟨Nat.le_of_ble_eq_true rfl, Nat.le_of_ble_eq_true rfl⟩ d_M_root_300 ?_
                refine ws_dret X d_M_root_303 ?_
                exact ⟨rfl, rfl⟩
            · have y2 := f230.mp h230
              refine ws_lload (i := 7) X d_M_root_234 rfl ?_
              refine ws_lconst (v := 0) X d_M_root_236 rfl ?_
              refine ws_lcmp_ne X d_M_root_237 d_M_root_238 (fun h237 => ?_) (fun h237 => ?_)
              · have n0 : ¬ (rt3 N).2 = 0 := fun z => h237 (f237.mpr z)
                have hU : rtUp (rt3 N).1 (rt3 N).2 = true := by simp [rtUp, y2, n0]
                refine ws_lload (i := 11) X d_M_root_250 rfl ?_
                refine ws_lconst (v := 1) X d_M_root_252 rfl ?_
                refine ws_ladd X d_M_root_253 ?_
                rw [lN_1, show (rt3 N).1 / 4 + 1 = rtK N from (if_pos hU).symm]
                refine ws_lst_11 X rfl d_M_root_254 (by decide) ?_
                first | rw [hK] | skip
                have f270 : lN (rtK N) = 9007199254740992 ↔ rtK N = 2 ^ 53 := q_eq (b := 2 ^ 53) (by omega) (by decide)
                have eM : ∀ a, a < 2 ^ 64 → lN a &&& 4503599627370495 = lN (a % 2 ^ 52) := fun a ha => q_mask (s := 52) (by decide) ha
                refine ws_iload (i := 4) X d_M_root_256 rfl ?_
                refine ws_iconst (v := 2) X d_M_root_258 rfl ?_
                refine ws_idiv X d_M_root_259 (by decide) ?_
                refine ws_bipush (v := 26) X d_M_root_260 rfl ?_
                refine ws_isub X d_M_root_262 ?_
                refine ws_ist_15 X rfl d_M_root_263 (by decide) ?_
                refine ws_lload (i := 11) X d_M_root_265 rfl ?_
                refine ws_ldc2 X d_M_root_267 ct_M_359 ?_
                refine ws_lcmp_ne X d_M_root_270 d_M_root_271 (fun h270 => ?_) (fun h270 => ?_)
                · have k53 : ¬ rtK N = 2 ^ 53 := fun z => h270 (f270.mpr z)
                  have eB : rtB N = ((rt2 N).2 / 2 + 485) * 2 ^ 52 + rtK N % 2 ^ 52 := if_neg k53
                  have eP := pw_half (rt2 N).2 (by omega) r2.2.2.1
                  refine ws_iload (i := 15) X d_M_root_283 rfl ?_
                  refine ws_sipush (v := 1075) X d_M_root_285 rfl ?_
                  refine ws_iadd X d_M_root_288 ?_
                  rw [eP]
                  refine ws_i2l X d_M_root_289 ?_
                  rw [nI_l (by omega)]
                  refine ws_bipush (v := 52) X d_M_root_290 rfl ?_
                  refine ws_lshl X d_M_root_292 ?_
                  rw [show (52 : Int32) = nI 52 from rfl, q_shl _ (by decide)]
                  refine ws_lload (i := 11) X d_M_root_293 rfl ?_
                  refine ws_ldc2 X d_M_root_295 ct_M_316 ?_
                  refine ws_land X d_M_root_298 ?_
                  rw [eM _ (by omega)]
                  refine ws_lor X d_M_root_299 ?_
                  rw [q_or (Nat.mod_lt _ (by decide)) (by omega), ← eB]
                  refine ws_l2r X (snl_of (lN_noNaN rB)) ml_M_318 nt_y_l2r ns_y_l2r in_JD ⟨Nat.le_of_ble_eq_true rfl, Nat.le_of_ble_eq_true rfl⟩ d_M_root_300 ?_
                  refine ws_dret X d_M_root_303 ?_
                  exact ⟨rfl, rfl⟩
                · have k53 : rtK N = 2 ^ 53 := f270.mp h270
                  have e9 : shr64 (lN (rtK N)) 1 = lN (2 ^ 52) := by rw [k53]; exact q_shr (k := 1) (by decide) (by decide)
                  have eB : rtB N = ((rt2 N).2 / 2 + 486) * 2 ^ 52 + 2 ^ 52 % 2 ^ 52 := (if_pos k53).trans (by omega)
                  have eP := pw_half1 (rt2 N).2 (by omega) r2.2.2.1
                  refine ws_lload (i := 11) X d_M_root_274 rfl ?_
                  refine ws_iconst (v := 1) X d_M_root_276 rfl ?_
                  refine ws_lshr X d_M_root_277 ?_
                  rw [e9]
                  refine ws_lst_11 X rfl d_M_root_278 (by decide) ?_
                  refine ws_iinc_15 X rfl d_M_root_280 rfl (by decide) ?_
                  refine ws_iload (i := 15) X d_M_root_283 rfl ?_
                  refine ws_sipush (v := 1075) X d_M_root_285 rfl ?_
                  refine ws_iadd X d_M_root_288 ?_
                  rw [eP]
                  refine ws_i2l X d_M_root_289 ?_
                  rw [nI_l (by omega)]
                  refine ws_bipush (v := 52) X d_M_root_290 rfl ?_
                  refine ws_lshl X d_M_root_292 ?_
                  rw [show (52 : Int32) = nI 52 from rfl, q_shl _ (by decide)]
                  refine ws_lload (i := 11) X d_M_root_293 rfl ?_
                  refine ws_ldc2 X d_M_root_295 ct_M_316 ?_
                  refine ws_land X d_M_root_298 ?_
                  rw [eM _ (by omega)]
                  refine ws_lor X d_M_root_299 ?_
                  rw [q_or (Nat.mod_lt _ (by decide)) (by omega), ← eB]
                  refine ws_l2r X (snl_of (lN_noNaN rB)) ml_M_318 nt_y_l2r ns_y_l2r in_JD ⟨Nat.le_of_ble_eq_true rfl, Nat.le_of_ble_eq_true rfl⟩ d_M_root_300 ?_
                  refine ws_dret X d_M_root_303 ?_
                  exact ⟨rfl, rfl⟩
              · have y0 := f237.mp h237
                refine ws_lload (i := 11) X d_M_root_241 rfl ?_
                refine ws_lconst (v := 1) X d_M_root_243 rfl ?_
                refine ws_land X d_M_root_244 ?_
                rw [e8]
                refine ws_lconst (v := 1) X d_M_root_245 rfl ?_
                refine ws_lcmp_ne X d_M_root_246 d_M_root_247 (fun h246 => ?_) (fun h246 => ?_)
                · have n1 : ¬ (rt3 N).1 / 4 % 2 = 1 := fun z => h246 (f246.mpr z)
                  have hU : rtUp (rt3 N).1 (rt3 N).2 = false := by simp only [rtUp, y2, y0, n1]; decide
                  have hK : (rt3 N).1 / 4 = rtK N := by rw [rtK, hU]; rfl
                  first | rw [hK] | skip
                  have f270 : lN (rtK N) = 9007199254740992 ↔ rtK N = 2 ^ 53 := q_eq (b := 2 ^ 53) (by omega) (by decide)
                  have eM : ∀ a, a < 2 ^ 64 → lN a &&& 4503599627370495 = lN (a % 2 ^ 52) := fun a ha => q_mask (s := 52) (by decide) ha
                  refine ws_iload (i := 4) X d_M_root_256 rfl ?_
                  refine ws_iconst (v := 2) X d_M_root_258 rfl ?_
                  refine ws_idiv X d_M_root_259 (by decide) ?_
                  refine ws_bipush (v := 26) X d_M_root_260 rfl ?_
                  refine ws_isub X d_M_root_262 ?_
                  refine ws_ist_15 X rfl d_M_root_263 (by decide) ?_
                  refine ws_lload (i := 11) X d_M_root_265 rfl ?_
                  refine ws_ldc2 X d_M_root_267 ct_M_359 ?_
                  refine ws_lcmp_ne X d_M_root_270 d_M_root_271 (fun h270 => ?_) (fun h270 => ?_)
                  · have k53 : ¬ rtK N = 2 ^ 53 := fun z => h270 (f270.mpr z)
                    have eB : rtB N = ((rt2 N).2 / 2 + 485) * 2 ^ 52 + rtK N % 2 ^ 52 := if_neg k53
                    have eP := pw_half (rt2 N).2 (by omega) r2.2.2.1
                    refine ws_iload (i := 15) X d_M_root_283 rfl ?_
                    refine ws_sipush (v := 1075) X d_M_root_285 rfl ?_
                    refine ws_iadd X d_M_root_288 ?_
                    rw [eP]
                    refine ws_i2l X d_M_root_289 ?_
                    rw [nI_l (by omega)]
                    refine ws_bipush (v := 52) X d_M_root_290 rfl ?_
                    refine ws_lshl X d_M_root_292 ?_
                    rw [show (52 : Int32) = nI 52 from rfl, q_shl _ (by decide)]
                    refine ws_lload (i := 11) X d_M_root_293 rfl ?_
                    refine ws_ldc2 X d_M_root_295 ct_M_316 ?_
                    refine ws_land X d_M_root_298 ?_
                    rw [eM _ (by omega)]
                    refine ws_lor X d_M_root_299 ?_
                    rw [q_or (Nat.mod_lt _ (by decide)) (by omega), ← eB]
                    refine ws_l2r X (snl_of (lN_noNaN rB)) ml_M_318 nt_y_l2r ns_y_l2r in_JD ⟨Nat.le_of_ble_eq_true rfl, Nat.le_of_ble_eq_true rfl⟩ d_M_root_300 ?_
                    refine ws_dret X d_M_root_303 ?_
                    exact ⟨rfl, rfl⟩
                  · have k53 : rtK N = 2 ^ 53 := f270.mp h270
                    have e9 : shr64 (lN (rtK N)) 1 = lN (2 ^ 52) := by rw [k53]; exact q_shr (k := 1) (by decide) (by decide)
                    have eB : rtB N = ((rt2 N).2 / 2 + 486) * 2 ^ 52 + 2 ^ 52 % 2 ^ 52 := (if_pos k53).trans (by omega)
                    have eP := pw_half1 (rt2 N).2 (by omega) r2.2.2.1
                    refine ws_lload (i := 11) X d_M_root_274 rfl ?_
                    refine ws_iconst (v := 1) X d_M_root_276 rfl ?_
                    refine ws_lshr X d_M_root_277 ?_
                    rw [e9]
                    refine ws_lst_11 X rfl d_M_root_278 (by decide) ?_
                    refine ws_iinc_15 X rfl d_M_root_280 rfl (by decide) ?_
                    refine ws_iload (i := 15) X d_M_root_283 rfl ?_
                    refine ws_sipush (v := 1075) X d_M_root_285 rfl ?_
                    refine ws_iadd X d_M_root_288 ?_
                    rw [eP]
                    refine ws_i2l X d_M_root_289 ?_
                    rw [nI_l (by omega)]
                    refine ws_bipush (v := 52) X d_M_root_290 rfl ?_
                    refine ws_lshl X d_M_root_292 ?_
                    rw [show (52 : Int32) = nI 52 from rfl, q_shl _ (by decide)]
                    refine ws_lload (i := 11) X d_M_root_293 rfl ?_
                    refine ws_ldc2 X d_M_root_295 ct_M_316 ?_
                    refine ws_land X d_M_root_298 ?_
                    rw [eM _ (by omega)]
                    refine ws_lor X d_M_root_299 ?_
                    rw [q_or (Nat.mod_lt _ (by decide)) (by omega), ← eB]
                    refine ws_l2r X (snl_of (lN_noNaN rB)) ml_M_318 nt_y_l2r ns_y_l2r in_JD ⟨Nat.le_of_ble_eq_true rfl, Nat.le_of_ble_eq_true rfl⟩ d_M_root_300 ?_
                    refine ws_dret X d_M_root_303 ?_
                    exact ⟨rfl, rfl⟩
                · have y1 := f246.mp h246
                  have hU : rtUp (rt3 N).1 (rt3 N).2 = true := by simp only [rtUp, y2, y0, y1]; decide
                  refine ws_lload (i := 11) X d_M_root_250 rfl ?_
                  refine ws_lconst (v := 1) X d_M_root_252 rfl ?_
                  refine ws_ladd X d_M_root_253 ?_
                  rw [lN_1, show (rt3 N).1 / 4 + 1 = rtK N from (if_pos hU).symm]
                  refine ws_lst_11 X rfl d_M_root_254 (by decide) ?_
                  first | rw [hK] | skip
                  have f270 : lN (rtK N) = 9007199254740992 ↔ rtK N = 2 ^ 53 := q_eq (b := 2 ^ 53) (by omega) (by decide)
                  have eM : ∀ a, a < 2 ^ 64 → lN a &&& 4503599627370495 = lN (a % 2 ^ 52) := fun a ha => q_mask (s := 52) (by decide) ha
                  refine ws_iload (i := 4) X d_M_root_256 rfl ?_
                  refine ws_iconst (v := 2) X d_M_root_258 rfl ?_
                  refine ws_idiv X d_M_root_259 (by decide) ?_
                  refine ws_bipush (v := 26) X d_M_root_260 rfl ?_
                  refine ws_isub X d_M_root_262 ?_
                  refine ws_ist_15 X rfl d_M_root_263 (by decide) ?_
                  refine ws_lload (i := 11) X d_M_root_265 rfl ?_
                  refine ws_ldc2 X d_M_root_267 ct_M_359 ?_
                  refine ws_lcmp_ne X d_M_root_270 d_M_root_271 (fun h270 => ?_) (fun h270 => ?_)
                  · have k53 : ¬ rtK N = 2 ^ 53 := fun z => h270 (f270.mpr z)
                    have eB : rtB N = ((rt2 N).2 / 2 + 485) * 2 ^ 52 + rtK N % 2 ^ 52 := if_neg k53
                    have eP := pw_half (rt2 N).2 (by omega) r2.2.2.1
                    refine ws_iload (i := 15) X d_M_root_283 rfl ?_
                    refine ws_sipush (v := 1075) X d_M_root_285 rfl ?_
                    refine ws_iadd X d_M_root_288 ?_
                    rw [eP]
                    refine ws_i2l X d_M_root_289 ?_
                    rw [nI_l (by omega)]
                    refine ws_bipush (v := 52) X d_M_root_290 rfl ?_
                    refine ws_lshl X d_M_root_292 ?_
                    rw [show (52 : Int32) = nI 52 from rfl, q_shl _ (by decide)]
                    refine ws_lload (i := 11) X d_M_root_293 rfl ?_
                    refine ws_ldc2 X d_M_root_295 ct_M_316 ?_
                    refine ws_land X d_M_root_298 ?_
                    rw [eM _ (by omega)]
                    refine ws_lor X d_M_root_299 ?_
                    rw [q_or (Nat.mod_lt _ (by decide)) (by omega), ← eB]
                    refine ws_l2r X (snl_of (lN_noNaN rB)) ml_M_318 nt_y_l2r ns_y_l2r in_JD ⟨Nat.le_of_ble_eq_true rfl, Nat.le_of_ble_eq_true rfl⟩ d_M_root_300 ?_
                    refine ws_dret X d_M_root_303 ?_
                    exact ⟨rfl, rfl⟩
                  · have k53 : rtK N = 2 ^ 53 := f270.mp h270
                    have e9 : shr64 (lN (rtK N)) 1 = lN (2 ^ 52) := by rw [k53]; exact q_shr (k := 1) (by decide) (by decide)
                    have eB : rtB N = ((rt2 N).2 / 2 + 486) * 2 ^ 52 + 2 ^ 52 % 2 ^ 52 := (if_pos k53).trans (by omega)
                    have eP := pw_half1 (rt2 N).2 (by omega) r2.2.2.1
                    refine ws_lload (i := 11) X d_M_root_274 rfl ?_
                    refine ws_iconst (v := 1) X d_M_root_276 rfl ?_
                    refine ws_lshr X d_M_root_277 ?_
                    rw [e9]
                    refine ws_lst_11 X rfl d_M_root_278 (by decide) ?_
                    refine ws_iinc_15 X rfl d_M_root_280 rfl (by decide) ?_
                    refine ws_iload (i := 15) X d_M_root_283 rfl ?_
                    refine ws_sipush (v := 1075) X d_M_root_285 rfl ?_
                    refine ws_iadd X d_M_root_288 ?_
                    rw [eP]
                    refine ws_i2l X d_M_root_289 ?_
                    rw [nI_l (by omega)]
                    refine ws_bipush (v := 52) X d_M_root_290 rfl ?_
                    refine ws_lshl X d_M_root_292 ?_
                    rw [show (52 : Int32) = nI 52 from rfl, q_shl _ (by decide)]
                    refine ws_lload (i := 11) X d_M_root_293 rfl ?_
                    refine ws_ldc2 X d_M_root_295 ct_M_316 ?_
                    refine ws_land X d_M_root_298 ?_
                    rw [eM _ (by omega)]
                    refine ws_lor X d_M_root_299 ?_
                    rw [q_or (Nat.mod_lt _ (by decide)) (by omega), ← eB]
                    refine ws_l2r X (snl_of (lN_noNaN rB)) ml_M_318 nt_y_l2r ns_y_l2r in_JD ⟨Nat.le_of_ble_eq_true rfl, Nat.le_of_ble_eq_true rfl⟩ d_M_root_300 ?_
                    refine ws_dret X d_M_root_303 ?_
                    exact ⟨rfl, rfl⟩
        · have h2 : rt2 N = (2 * (rt1 N).1, (rt1 N).2 - 1) := if_neg (fun z => h101 (f100.mpr z))
          refine ws_lload (i := 5) X d_M_root_104 rfl ?_
          refine ws_iconst (v := 1) X d_M_root_106 rfl ?_
          refine ws_lshl X d_M_root_107 ?_
          rw [e4, show 2 * (rt1 N).1 = (rt2 N).1 from by rw [h2]]
          refine ws_lst_5 X rfl d_M_root_108 (by decide) ?_
          refine ws_iinc_4 X rfl d_M_root_110 rfl (by decide) ?_
          first | rw [e5, show (rt1 N).2 - 1 = (rt2 N).2 from by rw [h2]] | skip
          refine ws_lconst (v := 0) X d_M_root_113 rfl ?_
          refine ws_lst_7 X rfl d_M_root_114 (by decide) ?_
          refine ws_lconst (v := 0) X d_M_root_116 rfl ?_
          refine ws_lst_9 X rfl d_M_root_117 (by decide) ?_
          refine ws_bipush (v := 26) X d_M_root_119 rfl ?_
          refine ws_ist_11 X rfl d_M_root_121 (by decide) ?_
          rw [show (26 : Int32) = 26 - nI 0 from by decide, show (0 : Int64) = lN 0 from rfl]
          refine l_rt X r2.2.1 55 0 0 0 none none none none (by omega) (by decide) (by decide) (fun j b12 b13 b14 b15 => ?_)
          have r3 := sqN_inv (rt2 N).1 55 0 0 0 (by decide) (by decide)
          have r4 : (rt3 N).1 < 2 ^ 55 := r3.1
          have r5 : (rt3 N).2 ≤ 2 * (rt3 N).1 := r3.2
          have rK := rtK_le N
          have rB := rtB_lt g1 g2
          show WS _ _ _ _ _ _ _ _ _ _ _ _ _ _ _ _ _ [_, _, _, _, _, _, _, some (.inl (.long (lN (rt3 N).2))), _, some (.inl (.long (lN (rt3 N).1))), _, _, _, _, _, _] _ _
          have e6 : shr64 (lN (rt3 N).1) 2 = lN ((rt3 N).1 / 4) := q_shr (k := 2) (by omega) (by decide)
          have e7 : lN (rt3 N).1 &&& 3 = lN ((rt3 N).1 % 4) := q_mask (s := 2) (by decide) (by omega)
          have e8 : lN ((rt3 N).1 / 4) &&& 1 = lN ((rt3 N).1 / 4 % 2) := q_mask (s := 1) (by decide) (by omega)
          have f221 : (2 : Int64) < lN ((rt3 N).1 % 4) ↔ 2 < (rt3 N).1 % 4 := q_lt (a := 2) (by decide) (by omega)
          have f230 : lN ((rt3 N).1 % 4) = 2 ↔ (rt3 N).1 % 4 = 2 := q_eq (b := 2) (by omega) (by decide)
          have f237 : lN (rt3 N).2 = 0 ↔ (rt3 N).2 = 0 := q_eq (b := 0) (by omega) (by decide)
          have f246 : lN ((rt3 N).1 / 4 % 2) = 1 ↔ (rt3 N).1 / 4 % 2 = 1 := q_eq (b := 1) (by omega) (by decide)
          refine ws_lload (i := 9) X d_M_root_202 rfl ?_
          refine ws_iconst (v := 2) X d_M_root_204 rfl ?_
          refine ws_lshr X d_M_root_205 ?_
          rw [e6]
          refine ws_lst_11 X rfl d_M_root_206 (by decide) ?_
          refine ws_lload (i := 9) X d_M_root_208 rfl ?_
          refine ws_ldc2 X d_M_root_210 ct_M_355 ?_
          refine ws_land X d_M_root_213 ?_
          rw [e7]
          refine ws_lst_13 X rfl d_M_root_214 (by decide) ?_
          refine ws_lload (i := 13) X d_M_root_216 rfl ?_
          refine ws_ldc2 X d_M_root_218 ct_M_357 ?_
          refine ws_lcmp_gt X d_M_root_221 d_M_root_222 (fun h221 => ?_) (fun h221 => ?_)
          · have hU : rtUp (rt3 N).1 (rt3 N).2 = true := by simp [rtUp, f221.mp h221]
            refine ws_lload (i := 11) X d_M_root_250 rfl ?_
            refine ws_lconst (v := 1) X d_M_root_252 rfl ?_
            refine ws_ladd X d_M_root_253 ?_
            rw [lN_1, show (rt3 N).1 / 4 + 1 = rtK N from (if_pos hU).symm]
            refine ws_lst_11 X rfl d_M_root_254 (by decide) ?_
            first | rw [hK] | skip
            have f270 : lN (rtK N) = 9007199254740992 ↔ rtK N = 2 ^ 53 := q_eq (b := 2 ^ 53) (by omega) (by decide)
            have eM : ∀ a, a < 2 ^ 64 → lN a &&& 4503599627370495 = lN (a % 2 ^ 52) := fun a ha => q_mask (s := 52) (by decide) ha
            refine ws_iload (i := 4) X d_M_root_256 rfl ?_
            refine ws_iconst (v := 2) X d_M_root_258 rfl ?_
            refine ws_idiv X d_M_root_259 (by decide) ?_
            refine ws_bipush (v := 26) X d_M_root_260 rfl ?_
            refine ws_isub X d_M_root_262 ?_
            refine ws_ist_15 X rfl d_M_root_263 (by decide) ?_
            refine ws_lload (i := 11) X d_M_root_265 rfl ?_
            refine ws_ldc2 X d_M_root_267 ct_M_359 ?_
            refine ws_lcmp_ne X d_M_root_270 d_M_root_271 (fun h270 => ?_) (fun h270 => ?_)
            · have k53 : ¬ rtK N = 2 ^ 53 := fun z => h270 (f270.mpr z)
              have eB : rtB N = ((rt2 N).2 / 2 + 485) * 2 ^ 52 + rtK N % 2 ^ 52 := if_neg k53
              have eP := pw_half (rt2 N).2 (by omega) r2.2.2.1
              refine ws_iload (i := 15) X d_M_root_283 rfl ?_
              refine ws_sipush (v := 1075) X d_M_root_285 rfl ?_
              refine ws_iadd X d_M_root_288 ?_
              rw [eP]
              refine ws_i2l X d_M_root_289 ?_
              rw [nI_l (by omega)]
              refine ws_bipush (v := 52) X d_M_root_290 rfl ?_
              refine ws_lshl X d_M_root_292 ?_
              rw [show (52 : Int32) = nI 52 from rfl, q_shl _ (by decide)]
              refine ws_lload (i := 11) X d_M_root_293 rfl ?_
              refine ws_ldc2 X d_M_root_295 ct_M_316 ?_
              refine ws_land X d_M_root_298 ?_
              rw [eM _ (by omega)]
              refine ws_lor X d_M_root_299 ?_
              rw [q_or (Nat.mod_lt _ (by decide)) (by omega), ← eB]
              refine ws_l2r X (snl_of (lN_noNaN rB)) ml_M_318 nt_y_l2r ns_y_l2r in_JD ⟨Nat.le_of_ble_eq_true rfl, Nat.le_of_ble_eq_true rfl⟩ d_M_root_300 ?_
              refine ws_dret X d_M_root_303 ?_
              exact ⟨rfl, rfl⟩
            · have k53 : rtK N = 2 ^ 53 := f270.mp h270
              have e9 : shr64 (lN (rtK N)) 1 = lN (2 ^ 52) := by rw [k53]; exact q_shr (k := 1) (by decide) (by decide)
              have eB : rtB N = ((rt2 N).2 / 2 + 486) * 2 ^ 52 + 2 ^ 52 % 2 ^ 52 := (if_pos k53).trans (by omega)
              have eP := pw_half1 (rt2 N).2 (by omega) r2.2.2.1
              refine ws_lload (i := 11) X d_M_root_274 rfl ?_
              refine ws_iconst (v := 1) X d_M_root_276 rfl ?_
              refine ws_lshr X d_M_root_277 ?_
              rw [e9]
              refine ws_lst_11 X rfl d_M_root_278 (by decide) ?_
              refine ws_iinc_15 X rfl d_M_root_280 rfl (by decide) ?_
              refine ws_iload (i := 15) X d_M_root_283 rfl ?_
              refine ws_sipush (v := 1075) X d_M_root_285 rfl ?_
              refine ws_iadd X d_M_root_288 ?_
              rw [eP]
              refine ws_i2l X d_M_root_289 ?_
              rw [nI_l (by omega)]
              refine ws_bipush (v := 52) X d_M_root_290 rfl ?_
              refine ws_lshl X d_M_root_292 ?_
              rw [show (52 : Int32) = nI 52 from rfl, q_shl _ (by decide)]
              refine ws_lload (i := 11) X d_M_root_293 rfl ?_
              refine ws_ldc2 X d_M_root_295 ct_M_316 ?_
              refine ws_land X d_M_root_298 ?_
              rw [eM _ (by omega)]
              refine ws_lor X d_M_root_299 ?_
              rw [q_or (Nat.mod_lt _ (by decide)) (by omega), ← eB]
              refine ws_l2r X (snl_of (lN_noNaN rB)) ml_M_318 nt_y_l2r ns_y_l2r in_JD ⟨Nat.le_of_ble_eq_true rfl, Nat.le_of_ble_eq_true rfl⟩ d_M_root_300 ?_
              refine ws_dret X d_M_root_303 ?_
              exact ⟨rfl, rfl⟩
          · have n2 : ¬ 2 < (rt3 N).1 % 4 := fun z => h221 (f221.mpr z)
            refine ws_lload (i := 13) X d_M_root_225 rfl ?_
            refine ws_ldc2 X d_M_root_227 ct_M_357 ?_
            refine ws_lcmp_ne X d_M_root_230 d_M_root_231 (fun h230 => ?_) (fun h230 => ?_)
            · have n3 : ¬ (rt3 N).1 % 4 = 2 := fun z => h230 (f230.mpr z)
              have hU : rtUp (rt3 N).1 (rt3 N).2 = false := by simp [rtUp, n2, n3]
              have hK : (rt3 N).1 / 4 = rtK N := by rw [rtK, hU]; rfl
              first | rw [hK] | skip
              have f270 : lN (rtK N) = 9007199254740992 ↔ rtK N = 2 ^ 53 := q_eq (b := 2 ^ 53) (by omega) (by decide)
              have eM : ∀ a, a < 2 ^ 64 → lN a &&& 4503599627370495 = lN (a % 2 ^ 52) := fun a ha => q_mask (s := 52) (by decide) ha
              refine ws_iload (i := 4) X d_M_root_256 rfl ?_
              refine ws_iconst (v := 2) X d_M_root_258 rfl ?_
              refine ws_idiv X d_M_root_259 (by decide) ?_
              refine ws_bipush (v := 26) X d_M_root_260 rfl ?_
              refine ws_isub X d_M_root_262 ?_
              refine ws_ist_15 X rfl d_M_root_263 (by decide) ?_
              refine ws_lload (i := 11) X d_M_root_265 rfl ?_
              refine ws_ldc2 X d_M_root_267 ct_M_359 ?_
              refine ws_lcmp_ne X d_M_root_270 d_M_root_271 (fun h270 => ?_) (fun h270 => ?_)
              · have k53 : ¬ rtK N = 2 ^ 53 := fun z => h270 (f270.mpr z)
                have eB : rtB N = ((rt2 N).2 / 2 + 485) * 2 ^ 52 + rtK N % 2 ^ 52 := if_neg k53
                have eP := pw_half (rt2 N).2 (by omega) r2.2.2.1
                refine ws_iload (i := 15) X d_M_root_283 rfl ?_
                refine ws_sipush (v := 1075) X d_M_root_285 rfl ?_
                refine ws_iadd X d_M_root_288 ?_
                rw [eP]
                refine ws_i2l X d_M_root_289 ?_
                rw [nI_l (by omega)]
                refine ws_bipush (v := 52) X d_M_root_290 rfl ?_
                refine ws_lshl X d_M_root_292 ?_
                rw [show (52 : Int32) = nI 52 from rfl, q_shl _ (by decide)]
                refine ws_lload (i := 11) X d_M_root_293 rfl ?_
                refine ws_ldc2 X d_M_root_295 ct_M_316 ?_
                refine ws_land X d_M_root_298 ?_
                rw [eM _ (by omega)]
                refine ws_lor X d_M_root_299 ?_
                rw [q_or (Nat.mod_lt _ (by decide)) (by omega), ← eB]
                refine ws_l2r X (snl_of (lN_noNaN rB)) ml_M_318 nt_y_l2r ns_y_l2r in_JD ⟨Nat.le_of_ble_eq_true rfl, Nat.le_of_ble_eq_true rfl⟩ d_M_root_300 ?_
                refine ws_dret X d_M_root_303 ?_
                exact ⟨rfl, rfl⟩
              · have k53 : rtK N = 2 ^ 53 := f270.mp h270
                have e9 : shr64 (lN (rtK N)) 1 = lN (2 ^ 52) := by rw [k53]; exact q_shr (k := 1) (by decide) (by decide)
                have eB : rtB N = ((rt2 N).2 / 2 + 486) * 2 ^ 52 + 2 ^ 52 % 2 ^ 52 := (if_pos k53).trans (by omega)
                have eP := pw_half1 (rt2 N).2 (by omega) r2.2.2.1
                refine ws_lload (i := 11) X d_M_root_274 rfl ?_
                refine ws_iconst (v := 1) X d_M_root_276 rfl ?_
                refine ws_lshr X d_M_root_277 ?_
                rw [e9]
                refine ws_lst_11 X rfl d_M_root_278 (by decide) ?_
                refine ws_iinc_15 X rfl d_M_root_280 rfl (by decide) ?_
                refine ws_iload (i := 15) X d_M_root_283 rfl ?_
                refine ws_sipush (v := 1075) X d_M_root_285 rfl ?_
                refine ws_iadd X d_M_root_288 ?_
                rw [eP]
                refine ws_i2l X d_M_root_289 ?_
                rw [nI_l (by omega)]
                refine ws_bipush (v := 52) X d_M_root_290 rfl ?_
                refine ws_lshl X d_M_root_292 ?_
                rw [show (52 : Int32) = nI 52 from rfl, q_shl _ (by decide)]
                refine ws_lload (i := 11) X d_M_root_293 rfl ?_
                refine ws_ldc2 X d_M_root_295 ct_M_316 ?_
                refine ws_land X d_M_root_298 ?_
                rw [eM _ (by omega)]
                refine ws_lor X d_M_root_299 ?_
                rw [q_or (Nat.mod_lt _ (by decide)) (by omega), ← eB]
                refine ws_l2r X (snl_of (lN_noNaN rB)) ml_M_318 nt_y_l2r ns_y_l2r in_JD ⟨Nat.le_of_ble_eq_true rfl, Nat.le_of_ble_eq_true rfl⟩ d_M_root_300 ?_
                refine ws_dret X d_M_root_303 ?_
                exact ⟨rfl, rfl⟩
            · have y2 := f230.mp h230
              refine ws_lload (i := 7) X d_M_root_234 rfl ?_
              refine ws_lconst (v := 0) X d_M_root_236 rfl ?_
              refine ws_lcmp_ne X d_M_root_237 d_M_root_238 (fun h237 => ?_) (fun h237 => ?_)
              · have n0 : ¬ (rt3 N).2 = 0 := fun z => h237 (f237.mpr z)
                have hU : rtUp (rt3 N).1 (rt3 N).2 = true := by simp [rtUp, y2, n0]
                refine ws_lload (i := 11) X d_M_root_250 rfl ?_
                refine ws_lconst (v := 1) X d_M_root_252 rfl ?_
                refine ws_ladd X d_M_root_253 ?_
                rw [lN_1, show (rt3 N).1 / 4 + 1 = rtK N from (if_pos hU).symm]
                refine ws_lst_11 X rfl d_M_root_254 (by decide) ?_
                first | rw [hK] | skip
                have f270 : lN (rtK N) = 9007199254740992 ↔ rtK N = 2 ^ 53 := q_eq (b := 2 ^ 53) (by omega) (by decide)
                have eM : ∀ a, a < 2 ^ 64 → lN a &&& 4503599627370495 = lN (a % 2 ^ 52) := fun a ha => q_mask (s := 52) (by decide) ha
                refine ws_iload (i := 4) X d_M_root_256 rfl ?_
                refine ws_iconst (v := 2) X d_M_root_258 rfl ?_
                refine ws_idiv X d_M_root_259 (by decide) ?_
                refine ws_bipush (v := 26) X d_M_root_260 rfl ?_
                refine ws_isub X d_M_root_262 ?_
                refine ws_ist_15 X rfl d_M_root_263 (by decide) ?_
                refine ws_lload (i := 11) X d_M_root_265 rfl ?_
                refine ws_ldc2 X d_M_root_267 ct_M_359 ?_
                refine ws_lcmp_ne X d_M_root_270 d_M_root_271 (fun h270 => ?_) (fun h270 => ?_)
                · have k53 : ¬ rtK N = 2 ^ 53 := fun z => h270 (f270.mpr z)
                  have eB : rtB N = ((rt2 N).2 / 2 + 485) * 2 ^ 52 + rtK N % 2 ^ 52 := if_neg k53
                  have eP := pw_half (rt2 N).2 (by omega) r2.2.2.1
                  refine ws_iload (i := 15) X d_M_root_283 rfl ?_
                  refine ws_sipush (v := 1075) X d_M_root_285 rfl ?_
                  refine ws_iadd X d_M_root_288 ?_
                  rw [eP]
                  refine ws_i2l X d_M_root_289 ?_
                  rw [nI_l (by omega)]
                  refine ws_bipush (v := 52) X d_M_root_290 rfl ?_
                  refine ws_lshl X d_M_root_292 ?_
                  rw [show (52 : Int32) = nI 52 from rfl, q_shl _ (by decide)]
                  refine ws_lload (i := 11) X d_M_root_293 rfl ?_
                  refine ws_ldc2 X d_M_root_295 ct_M_316 ?_
                  refine ws_land X d_M_root_298 ?_
                  rw [eM _ (by omega)]
                  refine ws_lor X d_M_root_299 ?_
                  rw [q_or (Nat.mod_lt _ (by decide)) (by omega), ← eB]
                  refine ws_l2r X (snl_of (lN_noNaN rB)) ml_M_318 nt_y_l2r ns_y_l2r in_JD ⟨Nat.le_of_ble_eq_true rfl, Nat.le_of_ble_eq_true rfl⟩ d_M_root_300 ?_
                  refine ws_dret X d_M_root_303 ?_
                  exact ⟨rfl, rfl⟩
                · have k53 : rtK N = 2 ^ 53 := f270.mp h270
                  have e9 : shr64 (lN (rtK N)) 1 = lN (2 ^ 52) := by rw [k53]; exact q_shr (k := 1) (by decide) (by decide)
                  have eB : rtB N = ((rt2 N).2 / 2 + 486) * 2 ^ 52 + 2 ^ 52 % 2 ^ 52 := (if_pos k53).trans (by omega)
                  have eP := pw_half1 (rt2 N).2 (by omega) r2.2.2.1
                  refine ws_lload (i := 11) X d_M_root_274 rfl ?_
                  refine ws_iconst (v := 1) X d_M_root_276 rfl ?_
                  refine ws_lshr X d_M_root_277 ?_
                  rw [e9]
                  refine ws_lst_11 X rfl d_M_root_278 (by decide) ?_
                  refine ws_iinc_15 X rfl d_M_root_280 rfl (by decide) ?_
                  refine ws_iload (i := 15) X d_M_root_283 rfl ?_
                  refine ws_sipush (v := 1075) X d_M_root_285 rfl ?_
                  refine ws_iadd X d_M_root_288 ?_
                  rw [eP]
                  refine ws_i2l X d_M_root_289 ?_
                  rw [nI_l (by omega)]
                  refine ws_bipush (v := 52) X d_M_root_290 rfl ?_
                  refine ws_lshl X d_M_root_292 ?_
                  rw [show (52 : Int32) = nI 52 from rfl, q_shl _ (by decide)]
                  refine ws_lload (i := 11) X d_M_root_293 rfl ?_
                  refine ws_ldc2 X d_M_root_295 ct_M_316 ?_
                  refine ws_land X d_M_root_298 ?_
                  rw [eM _ (by omega)]
                  refine ws_lor X d_M_root_299 ?_
                  rw [q_or (Nat.mod_lt _ (by decide)) (by omega), ← eB]
                  refine ws_l2r X (snl_of (lN_noNaN rB)) ml_M_318 nt_y_l2r ns_y_l2r in_JD ⟨Nat.le_of_ble_eq_true rfl, Nat.le_of_ble_eq_true rfl⟩ d_M_root_300 ?_
                  refine ws_dret X d_M_root_303 ?_
                  exact ⟨rfl, rfl⟩
              · have y0 := f237.mp h237
                refine ws_lload (i := 11) X d_M_root_241 rfl ?_
                refine ws_lconst (v := 1) X d_M_root_243 rfl ?_
                refine ws_land X d_M_root_244 ?_
                rw [e8]
                refine ws_lconst (v := 1) X d_M_root_245 rfl ?_
                refine ws_lcmp_ne X d_M_root_246 d_M_root_247 (fun h246 => ?_) (fun h246 => ?_)
                · have n1 : ¬ (rt3 N).1 / 4 % 2 = 1 := fun z => h246 (f246.mpr z)
                  have hU : rtUp (rt3 N).1 (rt3 N).2 = false := by simp only [rtUp, y2, y0, n1]; decide
                  have hK : (rt3 N).1 / 4 = rtK N := by rw [rtK, hU]; rfl
                  first | rw [hK] | skip
                  have f270 : lN (rtK N) = 9007199254740992 ↔ rtK N = 2 ^ 53 := q_eq (b := 2 ^ 53) (by omega) (by decide)
                  have eM : ∀ a, a < 2 ^ 64 → lN a &&& 4503599627370495 = lN (a % 2 ^ 52) := fun a ha => q_mask (s := 52) (by decide) ha
                  refine ws_iload (i := 4) X d_M_root_256 rfl ?_
                  refine ws_iconst (v := 2) X d_M_root_258 rfl ?_
                  refine ws_idiv X d_M_root_259 (by decide) ?_
                  refine ws_bipush (v := 26) X d_M_root_260 rfl ?_
                  refine ws_isub X d_M_root_262 ?_
                  refine ws_ist_15 X rfl d_M_root_263 (by decide) ?_
                  refine ws_lload (i := 11) X d_M_root_265 rfl ?_
                  refine ws_ldc2 X d_M_root_267 ct_M_359 ?_
                  refine ws_lcmp_ne X d_M_root_270 d_M_root_271 (fun h270 => ?_) (fun h270 => ?_)
                  · have k53 : ¬ rtK N = 2 ^ 53 := fun z => h270 (f270.mpr z)
                    have eB : rtB N = ((rt2 N).2 / 2 + 485) * 2 ^ 52 + rtK N % 2 ^ 52 := if_neg k53
                    have eP := pw_half (rt2 N).2 (by omega) r2.2.2.1
                    refine ws_iload (i := 15) X d_M_root_283 rfl ?_
                    refine ws_sipush (v := 1075) X d_M_root_285 rfl ?_
                    refine ws_iadd X d_M_root_288 ?_
                    rw [eP]
                    refine ws_i2l X d_M_root_289 ?_
                    rw [nI_l (by omega)]
                    refine ws_bipush (v := 52) X d_M_root_290 rfl ?_
                    refine ws_lshl X d_M_root_292 ?_
                    rw [show (52 : Int32) = nI 52 from rfl, q_shl _ (by decide)]
                    refine ws_lload (i := 11) X d_M_root_293 rfl ?_
                    refine ws_ldc2 X d_M_root_295 ct_M_316 ?_
                    refine ws_land X d_M_root_298 ?_
                    rw [eM _ (by omega)]
                    refine ws_lor X d_M_root_299 ?_
                    rw [q_or (Nat.mod_lt _ (by decide)) (by omega), ← eB]
                    refine ws_l2r X (snl_of (lN_noNaN rB)) ml_M_318 nt_y_l2r ns_y_l2r in_JD ⟨Nat.le_of_ble_eq_true rfl, Nat.le_of_ble_eq_true rfl⟩ d_M_root_300 ?_
                    refine ws_dret X d_M_root_303 ?_
                    exact ⟨rfl, rfl⟩
                  · have k53 : rtK N = 2 ^ 53 := f270.mp h270
                    have e9 : shr64 (lN (rtK N)) 1 = lN (2 ^ 52) := by rw [k53]; exact q_shr (k := 1) (by decide) (by decide)
                    have eB : rtB N = ((rt2 N).2 / 2 + 486) * 2 ^ 52 + 2 ^ 52 % 2 ^ 52 := (if_pos k53).trans (by omega)
                    have eP := pw_half1 (rt2 N).2 (by omega) r2.2.2.1
                    refine ws_lload (i := 11) X d_M_root_274 rfl ?_
                    refine ws_iconst (v := 1) X d_M_root_276 rfl ?_
                    refine ws_lshr X d_M_root_277 ?_
                    rw [e9]
                    refine ws_lst_11 X rfl d_M_root_278 (by decide) ?_
                    refine ws_iinc_15 X rfl d_M_root_280 rfl (by decide) ?_
                    refine ws_iload (i := 15) X d_M_root_283 rfl ?_
                    refine ws_sipush (v := 1075) X d_M_root_285 rfl ?_
                    refine ws_iadd X d_M_root_288 ?_
                    rw [eP]
                    refine ws_i2l X d_M_root_289 ?_
                    rw [nI_l (by omega)]
                    refine ws_bipush (v := 52) X d_M_root_290 rfl ?_
                    refine ws_lshl X d_M_root_292 ?_
                    rw [show (52 : Int32) = nI 52 from rfl, q_shl _ (by decide)]
                    refine ws_lload (i := 11) X d_M_root_293 rfl ?_
                    refine ws_ldc2 X d_M_root_295 ct_M_316 ?_
                    refine ws_land X d_M_root_298 ?_
                    rw [eM _ (by omega)]
                    refine ws_lor X d_M_root_299 ?_
                    rw [q_or (Nat.mod_lt _ (by decide)) (by omega), ← eB]
                    refine ws_l2r X (snl_of (lN_noNaN rB)) ml_M_318 nt_y_l2r ns_y_l2r in_JD ⟨Nat.le_of_ble_eq_true rfl, Nat.le_of_ble_eq_true rfl⟩ d_M_root_300 ?_
                    refine ws_dret X d_M_root_303 ?_
                    exact ⟨rfl, rfl⟩
                · have y1 := f246.mp h246
                  have hU : rtUp (rt3 N).1 (rt3 N).2 = true := by simp only [rtUp, y2, y0, y1]; decide
                  refine ws_lload (i := 11) X d_M_root_250 rfl ?_
                  refine ws_lconst (v := 1) X d_M_root_252 rfl ?_
                  refine ws_ladd X d_M_root_253 ?_
                  rw [lN_1, show (rt3 N).1 / 4 + 1 = rtK N from (if_pos hU).symm]
                  refine ws_lst_11 X rfl d_M_root_254 (by decide) ?_
                  first | rw [hK] | skip
                  have f270 : lN (rtK N) = 9007199254740992 ↔ rtK N = 2 ^ 53 := q_eq (b := 2 ^ 53) (by omega) (by decide)
                  have eM : ∀ a, a < 2 ^ 64 → lN a &&& 4503599627370495 = lN (a % 2 ^ 52) := fun a ha => q_mask (s := 52) (by decide) ha
                  refine ws_iload (i := 4) X d_M_root_256 rfl ?_
                  refine ws_iconst (v := 2) X d_M_root_258 rfl ?_
                  refine ws_idiv X d_M_root_259 (by decide) ?_
                  refine ws_bipush (v := 26) X d_M_root_260 rfl ?_
                  refine ws_isub X d_M_root_262 ?_
                  refine ws_ist_15 X rfl d_M_root_263 (by decide) ?_
                  refine ws_lload (i := 11) X d_M_root_265 rfl ?_
                  refine ws_ldc2 X d_M_root_267 ct_M_359 ?_
                  refine ws_lcmp_ne X d_M_root_270 d_M_root_271 (fun h270 => ?_) (fun h270 => ?_)
                  · have k53 : ¬ rtK N = 2 ^ 53 := fun z => h270 (f270.mpr z)
                    have eB : rtB N = ((rt2 N).2 / 2 + 485) * 2 ^ 52 + rtK N % 2 ^ 52 := if_neg k53
                    have eP := pw_half (rt2 N).2 (by omega) r2.2.2.1
                    refine ws_iload (i := 15) X d_M_root_283 rfl ?_
                    refine ws_sipush (v := 1075) X d_M_root_285 rfl ?_
                    refine ws_iadd X d_M_root_288 ?_
                    rw [eP]
                    refine ws_i2l X d_M_root_289 ?_
                    rw [nI_l (by omega)]
                    refine ws_bipush (v := 52) X d_M_root_290 rfl ?_
                    refine ws_lshl X d_M_root_292 ?_
                    rw [show (52 : Int32) = nI 52 from rfl, q_shl _ (by decide)]
                    refine ws_lload (i := 11) X d_M_root_293 rfl ?_
                    refine ws_ldc2 X d_M_root_295 ct_M_316 ?_
                    refine ws_land X d_M_root_298 ?_
                    rw [eM _ (by omega)]
                    refine ws_lor X d_M_root_299 ?_
                    rw [q_or (Nat.mod_lt _ (by decide)) (by omega), ← eB]
                    refine ws_l2r X (snl_of (lN_noNaN rB)) ml_M_318 nt_y_l2r ns_y_l2r in_JD ⟨Nat.le_of_ble_eq_true rfl, Nat.le_of_ble_eq_true rfl⟩ d_M_root_300 ?_
                    refine ws_dret X d_M_root_303 ?_
                    exact ⟨rfl, rfl⟩
                  · have k53 : rtK N = 2 ^ 53 := f270.mp h270
                    have e9 : shr64 (lN (rtK N)) 1 = lN (2 ^ 52) := by rw [k53]; exact q_shr (k := 1) (by decide) (by decide)
                    have eB : rtB N = ((rt2 N).2 / 2 + 486) * 2 ^ 52 + 2 ^ 52 % 2 ^ 52 := (if_pos k53).trans (by omega)
                    have eP := pw_half1 (rt2 N).2 (by omega) r2.2.2.1
                    refine ws_lload (i := 11) X d_M_root_274 rfl ?_
                    refine ws_iconst (v := 1) X d_M_root_276 rfl ?_
                    refine ws_lshr X d_M_root_277 ?_
                    rw [e9]
                    refine ws_lst_11 X rfl d_M_root_278 (by decide) ?_
                    refine ws_iinc_15 X rfl d_M_root_280 rfl (by decide) ?_
                    refine ws_iload (i := 15) X d_M_root_283 rfl ?_
                    refine ws_sipush (v := 1075) X d_M_root_285 rfl ?_
                    refine ws_iadd X d_M_root_288 ?_
                    rw [eP]
                    refine ws_i2l X d_M_root_289 ?_
                    rw [nI_l (by omega)]
                    refine ws_bipush (v := 52) X d_M_root_290 rfl ?_
                    refine ws_lshl X d_M_root_292 ?_
                    rw [show (52 : Int32) = nI 52 from rfl, q_shl _ (by decide)]
                    refine ws_lload (i := 11) X d_M_root_293 rfl ?_
                    refine ws_ldc2 X d_M_root_295 ct_M_316 ?_
                    refine ws_land X d_M_root_298 ?_
                    rw [eM _ (by omega)]
                    refine ws_lor X d_M_root_299 ?_
                    rw [q_or (Nat.mod_lt _ (by decide)) (by omega), ← eB]
                    refine ws_l2r X (snl_of (lN_noNaN rB)) ml_M_318 nt_y_l2r ns_y_l2r in_JD ⟨Nat.le_of_ble_eq_true rfl, Nat.le_of_ble_eq_true rfl⟩ d_M_root_300 ?_
                    refine ws_dret X d_M_root_303 ?_
                    exact ⟨rfl, rfl⟩
      · have hlt : 0 < N / 2 ^ 52 := Decidable.not_not.mp (fun z => h51 (f49.mpr z))
        have hA : rtA N = N % 2 ^ 52 + 2 ^ 52 := if_pos hlt
        have hE : rtE N = N / 2 ^ 52 + 53 := if_pos hlt
        have hP : nI (N / 2 ^ 52) - 1075 = pw (rtE N) := by rw [hE]; exact pw_0 _
        refine ws_lload (i := 5) X d_M_root_54 rfl ?_
        refine ws_ldc2 X d_M_root_56 ct_M_353 ?_
        refine ws_lor X d_M_root_59 ?_
        rw [e3]
        refine ws_lst_5 X rfl d_M_root_60 (by decide) ?_
        refine ws_goto X d_M_root_62 ?_
        refine ws_iload (i := 4) X d_M_root_68 rfl ?_
        refine ws_sipush (v := 1075) X d_M_root_70 rfl ?_
        refine ws_isub X d_M_root_73 ?_
        rw [hP, ← hA]
        refine ws_ist_4 X rfl d_M_root_74 (by decide) ?_
        have hAb : 0 < rtA N ∧ rtA N < 2 ^ 53 := by rw [hA]; omega
        have hEb : 54 ≤ rtE N := by rw [hE]; omega
        refine l_nrm X 52 (rtA N) (rtE N) (by omega) hAb.2 (by omega) ?_
        have r1 := rt1_inv g1 g2
        have r2 := rt2_inv g1 g2
        have e4 : shl64 (lN (rt1 N).1) 1 = lN (2 * (rt1 N).1) := by
          rw [show (1 : Int32) = nI 1 from rfl, q_shl _ (by decide)]
          congr 1; omega
        have e5 := pw_dec (n := (rt1 N).2) (by omega)
        have f100 := pw_odd (rt1 N).2 (by omega)
        show WS _ _ _ _ _ _ _ _ _ _ _ _ _ _ _ _ _ [_, _, _, _, some (.inl (.int (pw (rt1 N).2))), some (.inl (.long (lN (rt1 N).1))), _, _, _, _, _, _, _, _, _, _] _ _
        refine ws_iload (i := 4) X d_M_root_97 rfl ?_
        refine ws_iconst (v := 2) X d_M_root_99 rfl ?_
        refine ws_irem X d_M_root_100 (by decide) ?_
        refine ws_if_eq X d_M_root_101 (fun h101 => ?_) (fun h101 => ?_)
        · have h2 : rt2 N = rt1 N := if_pos (f100.mp h101)
          rw [show (rt1 N).1 = (rt2 N).1 from by rw [h2], show (rt1 N).2 = (rt2 N).2 from by rw [h2]]
          first | rw [e5, show (rt1 N).2 - 1 = (rt2 N).2 from by rw [h2]] | skip
          refine ws_lconst (v := 0) X d_M_root_113 rfl ?_
          refine ws_lst_7 X rfl d_M_root_114 (by decide) ?_
          refine ws_lconst (v := 0) X d_M_root_116 rfl ?_
          refine ws_lst_9 X rfl d_M_root_117 (by decide) ?_
          refine ws_bipush (v := 26) X d_M_root_119 rfl ?_
          refine ws_ist_11 X rfl d_M_root_121 (by decide) ?_
          rw [show (26 : Int32) = 26 - nI 0 from by decide, show (0 : Int64) = lN 0 from rfl]
          refine l_rt X r2.2.1 55 0 0 0 none none none none (by omega) (by decide) (by decide) (fun j b12 b13 b14 b15 => ?_)
          have r3 := sqN_inv (rt2 N).1 55 0 0 0 (by decide) (by decide)
          have r4 : (rt3 N).1 < 2 ^ 55 := r3.1
          have r5 : (rt3 N).2 ≤ 2 * (rt3 N).1 := r3.2
          have rK := rtK_le N
          have rB := rtB_lt g1 g2
          show WS _ _ _ _ _ _ _ _ _ _ _ _ _ _ _ _ _ [_, _, _, _, _, _, _, some (.inl (.long (lN (rt3 N).2))), _, some (.inl (.long (lN (rt3 N).1))), _, _, _, _, _, _] _ _
          have e6 : shr64 (lN (rt3 N).1) 2 = lN ((rt3 N).1 / 4) := q_shr (k := 2) (by omega) (by decide)
          have e7 : lN (rt3 N).1 &&& 3 = lN ((rt3 N).1 % 4) := q_mask (s := 2) (by decide) (by omega)
          have e8 : lN ((rt3 N).1 / 4) &&& 1 = lN ((rt3 N).1 / 4 % 2) := q_mask (s := 1) (by decide) (by omega)
          have f221 : (2 : Int64) < lN ((rt3 N).1 % 4) ↔ 2 < (rt3 N).1 % 4 := q_lt (a := 2) (by decide) (by omega)
          have f230 : lN ((rt3 N).1 % 4) = 2 ↔ (rt3 N).1 % 4 = 2 := q_eq (b := 2) (by omega) (by decide)
          have f237 : lN (rt3 N).2 = 0 ↔ (rt3 N).2 = 0 := q_eq (b := 0) (by omega) (by decide)
          have f246 : lN ((rt3 N).1 / 4 % 2) = 1 ↔ (rt3 N).1 / 4 % 2 = 1 := q_eq (b := 1) (by omega) (by decide)
          refine ws_lload (i := 9) X d_M_root_202 rfl ?_
          refine ws_iconst (v := 2) X d_M_root_204 rfl ?_
          refine ws_lshr X d_M_root_205 ?_
          rw [e6]
          refine ws_lst_11 X rfl d_M_root_206 (by decide) ?_
          refine ws_lload (i := 9) X d_M_root_208 rfl ?_
          refine ws_ldc2 X d_M_root_210 ct_M_355 ?_
          refine ws_land X d_M_root_213 ?_
          rw [e7]
          refine ws_lst_13 X rfl d_M_root_214 (by decide) ?_
          refine ws_lload (i := 13) X d_M_root_216 rfl ?_
          refine ws_ldc2 X d_M_root_218 ct_M_357 ?_
          refine ws_lcmp_gt X d_M_root_221 d_M_root_222 (fun h221 => ?_) (fun h221 => ?_)
          · have hU : rtUp (rt3 N).1 (rt3 N).2 = true := by simp [rtUp, f221.mp h221]
            refine ws_lload (i := 11) X d_M_root_250 rfl ?_
            refine ws_lconst (v := 1) X d_M_root_252 rfl ?_
            refine ws_ladd X d_M_root_253 ?_
            rw [lN_1, show (rt3 N).1 / 4 + 1 = rtK N from (if_pos hU).symm]
            refine ws_lst_11 X rfl d_M_root_254 (by decide) ?_
            first | rw [hK] | skip
            have f270 : lN (rtK N) = 9007199254740992 ↔ rtK N = 2 ^ 53 := q_eq (b := 2 ^ 53) (by omega) (by decide)
            have eM : ∀ a, a < 2 ^ 64 → lN a &&& 4503599627370495 = lN (a % 2 ^ 52) := fun a ha => q_mask (s := 52) (by decide) ha
            refine ws_iload (i := 4) X d_M_root_256 rfl ?_
            refine ws_iconst (v := 2) X d_M_root_258 rfl ?_
            refine ws_idiv X d_M_root_259 (by decide) ?_
            refine ws_bipush (v := 26) X d_M_root_260 rfl ?_
            refine ws_isub X d_M_root_262 ?_
            refine ws_ist_15 X rfl d_M_root_263 (by decide) ?_
            refine ws_lload (i := 11) X d_M_root_265 rfl ?_
            refine ws_ldc2 X d_M_root_267 ct_M_359 ?_
            refine ws_lcmp_ne X d_M_root_270 d_M_root_271 (fun h270 => ?_) (fun h270 => ?_)
            · have k53 : ¬ rtK N = 2 ^ 53 := fun z => h270 (f270.mpr z)
              have eB : rtB N = ((rt2 N).2 / 2 + 485) * 2 ^ 52 + rtK N % 2 ^ 52 := if_neg k53
              have eP := pw_half (rt2 N).2 (by omega) r2.2.2.1
              refine ws_iload (i := 15) X d_M_root_283 rfl ?_
              refine ws_sipush (v := 1075) X d_M_root_285 rfl ?_
              refine ws_iadd X d_M_root_288 ?_
              rw [eP]
              refine ws_i2l X d_M_root_289 ?_
              rw [nI_l (by omega)]
              refine ws_bipush (v := 52) X d_M_root_290 rfl ?_
              refine ws_lshl X d_M_root_292 ?_
              rw [show (52 : Int32) = nI 52 from rfl, q_shl _ (by decide)]
              refine ws_lload (i := 11) X d_M_root_293 rfl ?_
              refine ws_ldc2 X d_M_root_295 ct_M_316 ?_
              refine ws_land X d_M_root_298 ?_
              rw [eM _ (by omega)]
              refine ws_lor X d_M_root_299 ?_
              rw [q_or (Nat.mod_lt _ (by decide)) (by omega), ← eB]
              refine ws_l2r X (snl_of (lN_noNaN rB)) ml_M_318 nt_y_l2r ns_y_l2r in_JD ⟨Nat.le_of_ble_eq_true rfl, Nat.le_of_ble_eq_true rfl⟩ d_M_root_300 ?_
              refine ws_dret X d_M_root_303 ?_
              exact ⟨rfl, rfl⟩
            · have k53 : rtK N = 2 ^ 53 := f270.mp h270
              have e9 : shr64 (lN (rtK N)) 1 = lN (2 ^ 52) := by rw [k53]; exact q_shr (k := 1) (by decide) (by decide)
              have eB : rtB N = ((rt2 N).2 / 2 + 486) * 2 ^ 52 + 2 ^ 52 % 2 ^ 52 := (if_pos k53).trans (by omega)
              have eP := pw_half1 (rt2 N).2 (by omega) r2.2.2.1
              refine ws_lload (i := 11) X d_M_root_274 rfl ?_
              refine ws_iconst (v := 1) X d_M_root_276 rfl ?_
              refine ws_lshr X d_M_root_277 ?_
              rw [e9]
              refine ws_lst_11 X rfl d_M_root_278 (by decide) ?_
              refine ws_iinc_15 X rfl d_M_root_280 rfl (by decide) ?_
              refine ws_iload (i := 15) X d_M_root_283 rfl ?_
              refine ws_sipush (v := 1075) X d_M_root_285 rfl ?_
              refine ws_iadd X d_M_root_288 ?_
              rw [eP]
              refine ws_i2l X d_M_root_289 ?_
              rw [nI_l (by omega)]
              refine ws_bipush (v := 52) X d_M_root_290 rfl ?_
              refine ws_lshl X d_M_root_292 ?_
              rw [show (52 : Int32) = nI 52 from rfl, q_shl _ (by decide)]
              refine ws_lload (i := 11) X d_M_root_293 rfl ?_
              refine ws_ldc2 X d_M_root_295 ct_M_316 ?_
              refine ws_land X d_M_root_298 ?_
              rw [eM _ (by omega)]
              refine ws_lor X d_M_root_299 ?_
              rw [q_or (Nat.mod_lt _ (by decide)) (by omega), ← eB]
              refine ws_l2r X (snl_of (lN_noNaN rB)) ml_M_318 nt_y_l2r ns_y_l2r in_JD ⟨Nat.le_of_ble_eq_true rfl, Nat.le_of_ble_eq_true rfl⟩ d_M_root_300 ?_
              refine ws_dret X d_M_root_303 ?_
              exact ⟨rfl, rfl⟩
          · have n2 : ¬ 2 < (rt3 N).1 % 4 := fun z => h221 (f221.mpr z)
            refine ws_lload (i := 13) X d_M_root_225 rfl ?_
            refine ws_ldc2 X d_M_root_227 ct_M_357 ?_
            refine ws_lcmp_ne X d_M_root_230 d_M_root_231 (fun h230 => ?_) (fun h230 => ?_)
            · have n3 : ¬ (rt3 N).1 % 4 = 2 := fun z => h230 (f230.mpr z)
              have hU : rtUp (rt3 N).1 (rt3 N).2 = false := by simp [rtUp, n2, n3]
              have hK : (rt3 N).1 / 4 = rtK N := by rw [rtK, hU]; rfl
              first | rw [hK] | skip
              have f270 : lN (rtK N) = 9007199254740992 ↔ rtK N = 2 ^ 53 := q_eq (b := 2 ^ 53) (by omega) (by decide)
              have eM : ∀ a, a < 2 ^ 64 → lN a &&& 4503599627370495 = lN (a % 2 ^ 52) := fun a ha => q_mask (s := 52) (by decide) ha
              refine ws_iload (i := 4) X d_M_root_256 rfl ?_
              refine ws_iconst (v := 2) X d_M_root_258 rfl ?_
              refine ws_idiv X d_M_root_259 (by decide) ?_
              refine ws_bipush (v := 26) X d_M_root_260 rfl ?_
              refine ws_isub X d_M_root_262 ?_
              refine ws_ist_15 X rfl d_M_root_263 (by decide) ?_
              refine ws_lload (i := 11) X d_M_root_265 rfl ?_
              refine ws_ldc2 X d_M_root_267 ct_M_359 ?_
              refine ws_lcmp_ne X d_M_root_270 d_M_root_271 (fun h270 => ?_) (fun h270 => ?_)
              · have k53 : ¬ rtK N = 2 ^ 53 := fun z => h270 (f270.mpr z)
                have eB : rtB N = ((rt2 N).2 / 2 + 485) * 2 ^ 52 + rtK N % 2 ^ 52 := if_neg k53
                have eP := pw_half (rt2 N).2 (by omega) r2.2.2.1
                refine ws_iload (i := 15) X d_M_root_283 rfl ?_
                refine ws_sipush (v := 1075) X d_M_root_285 rfl ?_
                refine ws_iadd X d_M_root_288 ?_
                rw [eP]
                refine ws_i2l X d_M_root_289 ?_
                rw [nI_l (by omega)]
                refine ws_bipush (v := 52) X d_M_root_290 rfl ?_
                refine ws_lshl X d_M_root_292 ?_
                rw [show (52 : Int32) = nI 52 from rfl, q_shl _ (by decide)]
                refine ws_lload (i := 11) X d_M_root_293 rfl ?_
                refine ws_ldc2 X d_M_root_295 ct_M_316 ?_
                refine ws_land X d_M_root_298 ?_
                rw [eM _ (by omega)]
                refine ws_lor X d_M_root_299 ?_
                rw [q_or (Nat.mod_lt _ (by decide)) (by omega), ← eB]
                refine ws_l2r X (snl_of (lN_noNaN rB)) ml_M_318 nt_y_l2r ns_y_l2r in_JD ⟨Nat.le_of_ble_eq_true rfl, Nat.le_of_ble_eq_true rfl⟩ d_M_root_300 ?_
                refine ws_dret X d_M_root_303 ?_
                exact ⟨rfl, rfl⟩
              · have k53 : rtK N = 2 ^ 53 := f270.mp h270
                have e9 : shr64 (lN (rtK N)) 1 = lN (2 ^ 52) := by rw [k53]; exact q_shr (k := 1) (by decide) (by decide)
                have eB : rtB N = ((rt2 N).2 / 2 + 486) * 2 ^ 52 + 2 ^ 52 % 2 ^ 52 := (if_pos k53).trans (by omega)
                have eP := pw_half1 (rt2 N).2 (by omega) r2.2.2.1
                refine ws_lload (i := 11) X d_M_root_274 rfl ?_
                refine ws_iconst (v := 1) X d_M_root_276 rfl ?_
                refine ws_lshr X d_M_root_277 ?_
                rw [e9]
                refine ws_lst_11 X rfl d_M_root_278 (by decide) ?_
                refine ws_iinc_15 X rfl d_M_root_280 rfl (by decide) ?_
                refine ws_iload (i := 15) X d_M_root_283 rfl ?_
                refine ws_sipush (v := 1075) X d_M_root_285 rfl ?_
                refine ws_iadd X d_M_root_288 ?_
                rw [eP]
                refine ws_i2l X d_M_root_289 ?_
                rw [nI_l (by omega)]
                refine ws_bipush (v := 52) X d_M_root_290 rfl ?_
                refine ws_lshl X d_M_root_292 ?_
                rw [show (52 : Int32) = nI 52 from rfl, q_shl _ (by decide)]
                refine ws_lload (i := 11) X d_M_root_293 rfl ?_
                refine ws_ldc2 X d_M_root_295 ct_M_316 ?_
                refine ws_land X d_M_root_298 ?_
                rw [eM _ (by omega)]
                refine ws_lor X d_M_root_299 ?_
                rw [q_or (Nat.mod_lt _ (by decide)) (by omega), ← eB]
                refine ws_l2r X (snl_of (lN_noNaN rB)) ml_M_318 nt_y_l2r ns_y_l2r in_JD ⟨Nat.le_of_ble_eq_true rfl, Nat.le_of_ble_eq_true rfl⟩ d_M_root_300 ?_
                refine ws_dret X d_M_root_303 ?_
                exact ⟨rfl, rfl⟩
            · have y2 := f230.mp h230
              refine ws_lload (i := 7) X d_M_root_234 rfl ?_
              refine ws_lconst (v := 0) X d_M_root_236 rfl ?_
              refine ws_lcmp_ne X d_M_root_237 d_M_root_238 (fun h237 => ?_) (fun h237 => ?_)
              · have n0 : ¬ (rt3 N).2 = 0 := fun z => h237 (f237.mpr z)
                have hU : rtUp (rt3 N).1 (rt3 N).2 = true := by simp [rtUp, y2, n0]
                refine ws_lload (i := 11) X d_M_root_250 rfl ?_
                refine ws_lconst (v := 1) X d_M_root_252 rfl ?_
                refine ws_ladd X d_M_root_253 ?_
                rw [lN_1, show (rt3 N).1 / 4 + 1 = rtK N from (if_pos hU).symm]
                refine ws_lst_11 X rfl d_M_root_254 (by decide) ?_
                first | rw [hK] | skip
                have f270 : lN (rtK N) = 9007199254740992 ↔ rtK N = 2 ^ 53 := q_eq (b := 2 ^ 53) (by omega) (by decide)
                have eM : ∀ a, a < 2 ^ 64 → lN a &&& 4503599627370495 = lN (a % 2 ^ 52) := fun a ha => q_mask (s := 52) (by decide) ha
                refine ws_iload (i := 4) X d_M_root_256 rfl ?_
                refine ws_iconst (v := 2) X d_M_root_258 rfl ?_
                refine ws_idiv X d_M_root_259 (by decide) ?_
                refine ws_bipush (v := 26) X d_M_root_260 rfl ?_
                refine ws_isub X d_M_root_262 ?_
                refine ws_ist_15 X rfl d_M_root_263 (by decide) ?_
                refine ws_lload (i := 11) X d_M_root_265 rfl ?_
                refine ws_ldc2 X d_M_root_267 ct_M_359 ?_
                refine ws_lcmp_ne X d_M_root_270 d_M_root_271 (fun h270 => ?_) (fun h270 => ?_)
                · have k53 : ¬ rtK N = 2 ^ 53 := fun z => h270 (f270.mpr z)
                  have eB : rtB N = ((rt2 N).2 / 2 + 485) * 2 ^ 52 + rtK N % 2 ^ 52 := if_neg k53
                  have eP := pw_half (rt2 N).2 (by omega) r2.2.2.1
                  refine ws_iload (i := 15) X d_M_root_283 rfl ?_
                  refine ws_sipush (v := 1075) X d_M_root_285 rfl ?_
                  refine ws_iadd X d_M_root_288 ?_
                  rw [eP]
                  refine ws_i2l X d_M_root_289 ?_
                  rw [nI_l (by omega)]
                  refine ws_bipush (v := 52) X d_M_root_290 rfl ?_
                  refine ws_lshl X d_M_root_292 ?_
                  rw [show (52 : Int32) = nI 52 from rfl, q_shl _ (by decide)]
                  refine ws_lload (i := 11) X d_M_root_293 rfl ?_
                  refine ws_ldc2 X d_M_root_295 ct_M_316 ?_
                  refine ws_land X d_M_root_298 ?_
                  rw [eM _ (by omega)]
                  refine ws_lor X d_M_root_299 ?_
                  rw [q_or (Nat.mod_lt _ (by decide)) (by omega), ← eB]
                  refine ws_l2r X (snl_of (lN_noNaN rB)) ml_M_318 nt_y_l2r ns_y_l2r in_JD ⟨Nat.le_of_ble_eq_true rfl, Nat.le_of_ble_eq_true rfl⟩ d_M_root_300 ?_
                  refine ws_dret X d_M_root_303 ?_
                  exact ⟨rfl, rfl⟩
                · have k53 : rtK N = 2 ^ 53 := f270.mp h270
                  have e9 : shr64 (lN (rtK N)) 1 = lN (2 ^ 52) := by rw [k53]; exact q_shr (k := 1) (by decide) (by decide)
                  have eB : rtB N = ((rt2 N).2 / 2 + 486) * 2 ^ 52 + 2 ^ 52 % 2 ^ 52 := (if_pos k53).trans (by omega)
                  have eP := pw_half1 (rt2 N).2 (by omega) r2.2.2.1
                  refine ws_lload (i := 11) X d_M_root_274 rfl ?_
                  refine ws_iconst (v := 1) X d_M_root_276 rfl ?_
                  refine ws_lshr X d_M_root_277 ?_
                  rw [e9]
                  refine ws_lst_11 X rfl d_M_root_278 (by decide) ?_
                  refine ws_iinc_15 X rfl d_M_root_280 rfl (by decide) ?_
                  refine ws_iload (i := 15) X d_M_root_283 rfl ?_
                  refine ws_sipush (v := 1075) X d_M_root_285 rfl ?_
                  refine ws_iadd X d_M_root_288 ?_
                  rw [eP]
                  refine ws_i2l X d_M_root_289 ?_
                  rw [nI_l (by omega)]
                  refine ws_bipush (v := 52) X d_M_root_290 rfl ?_
                  refine ws_lshl X d_M_root_292 ?_
                  rw [show (52 : Int32) = nI 52 from rfl, q_shl _ (by decide)]
                  refine ws_lload (i := 11) X d_M_root_293 rfl ?_
                  refine ws_ldc2 X d_M_root_295 ct_M_316 ?_
                  refine ws_land X d_M_root_298 ?_
                  rw [eM _ (by omega)]
                  refine ws_lor X d_M_root_299 ?_
                  rw [q_or (Nat.mod_lt _ (by decide)) (by omega), ← eB]
                  refine ws_l2r X (snl_of (lN_noNaN rB)) ml_M_318 nt_y_l2r ns_y_l2r in_JD ⟨Nat.le_of_ble_eq_true rfl, Nat.le_of_ble_eq_true rfl⟩ d_M_root_300 ?_
                  refine ws_dret X d_M_root_303 ?_
                  exact ⟨rfl, rfl⟩
              · have y0 := f237.mp h237
                refine ws_lload (i := 11) X d_M_root_241 rfl ?_
                refine ws_lconst (v := 1) X d_M_root_243 rfl ?_
                refine ws_land X d_M_root_244 ?_
                rw [e8]
                refine ws_lconst (v := 1) X d_M_root_245 rfl ?_
                refine ws_lcmp_ne X d_M_root_246 d_M_root_247 (fun h246 => ?_) (fun h246 => ?_)
                · have n1 : ¬ (rt3 N).1 / 4 % 2 = 1 := fun z => h246 (f246.mpr z)
                  have hU : rtUp (rt3 N).1 (rt3 N).2 = false := by simp only [rtUp, y2, y0, n1]; decide
                  have hK : (rt3 N).1 / 4 = rtK N := by rw [rtK, hU]; rfl
                  first | rw [hK] | skip
                  have f270 : lN (rtK N) = 9007199254740992 ↔ rtK N = 2 ^ 53 := q_eq (b := 2 ^ 53) (by omega) (by decide)
                  have eM : ∀ a, a < 2 ^ 64 → lN a &&& 4503599627370495 = lN (a % 2 ^ 52) := fun a ha => q_mask (s := 52) (by decide) ha
                  refine ws_iload (i := 4) X d_M_root_256 rfl ?_
                  refine ws_iconst (v := 2) X d_M_root_258 rfl ?_
                  refine ws_idiv X d_M_root_259 (by decide) ?_
                  refine ws_bipush (v := 26) X d_M_root_260 rfl ?_
                  refine ws_isub X d_M_root_262 ?_
                  refine ws_ist_15 X rfl d_M_root_263 (by decide) ?_
                  refine ws_lload (i := 11) X d_M_root_265 rfl ?_
                  refine ws_ldc2 X d_M_root_267 ct_M_359 ?_
                  refine ws_lcmp_ne X d_M_root_270 d_M_root_271 (fun h270 => ?_) (fun h270 => ?_)
                  · have k53 : ¬ rtK N = 2 ^ 53 := fun z => h270 (f270.mpr z)
                    have eB : rtB N = ((rt2 N).2 / 2 + 485) * 2 ^ 52 + rtK N % 2 ^ 52 := if_neg k53
                    have eP := pw_half (rt2 N).2 (by omega) r2.2.2.1
                    refine ws_iload (i := 15) X d_M_root_283 rfl ?_
                    refine ws_sipush (v := 1075) X d_M_root_285 rfl ?_
                    refine ws_iadd X d_M_root_288 ?_
                    rw [eP]
                    refine ws_i2l X d_M_root_289 ?_
                    rw [nI_l (by omega)]
                    refine ws_bipush (v := 52) X d_M_root_290 rfl ?_
                    refine ws_lshl X d_M_root_292 ?_
                    rw [show (52 : Int32) = nI 52 from rfl, q_shl _ (by decide)]
                    refine ws_lload (i := 11) X d_M_root_293 rfl ?_
                    refine ws_ldc2 X d_M_root_295 ct_M_316 ?_
                    refine ws_land X d_M_root_298 ?_
                    rw [eM _ (by omega)]
                    refine ws_lor X d_M_root_299 ?_
                    rw [q_or (Nat.mod_lt _ (by decide)) (by omega), ← eB]
                    refine ws_l2r X (snl_of (lN_noNaN rB)) ml_M_318 nt_y_l2r ns_y_l2r in_JD ⟨Nat.le_of_ble_eq_true rfl, Nat.le_of_ble_eq_true rfl⟩ d_M_root_300 ?_
                    refine ws_dret X d_M_root_303 ?_
                    exact ⟨rfl, rfl⟩
                  · have k53 : rtK N = 2 ^ 53 := f270.mp h270
                    have e9 : shr64 (lN (rtK N)) 1 = lN (2 ^ 52) := by rw [k53]; exact q_shr (k := 1) (by decide) (by decide)
                    have eB : rtB N = ((rt2 N).2 / 2 + 486) * 2 ^ 52 + 2 ^ 52 % 2 ^ 52 := (if_pos k53).trans (by omega)
                    have eP := pw_half1 (rt2 N).2 (by omega) r2.2.2.1
                    refine ws_lload (i := 11) X d_M_root_274 rfl ?_
                    refine ws_iconst (v := 1) X d_M_root_276 rfl ?_
                    refine ws_lshr X d_M_root_277 ?_
                    rw [e9]
                    refine ws_lst_11 X rfl d_M_root_278 (by decide) ?_
                    refine ws_iinc_15 X rfl d_M_root_280 rfl (by decide) ?_
                    refine ws_iload (i := 15) X d_M_root_283 rfl ?_
                    refine ws_sipush (v := 1075) X d_M_root_285 rfl ?_
                    refine ws_iadd X d_M_root_288 ?_
                    rw [eP]
                    refine ws_i2l X d_M_root_289 ?_
                    rw [nI_l (by omega)]
                    refine ws_bipush (v := 52) X d_M_root_290 rfl ?_
                    refine ws_lshl X d_M_root_292 ?_
                    rw [show (52 : Int32) = nI 52 from rfl, q_shl _ (by decide)]
                    refine ws_lload (i := 11) X d_M_root_293 rfl ?_
                    refine ws_ldc2 X d_M_root_295 ct_M_316 ?_
                    refine ws_land X d_M_root_298 ?_
                    rw [eM _ (by omega)]
                    refine ws_lor X d_M_root_299 ?_
                    rw [q_or (Nat.mod_lt _ (by decide)) (by omega), ← eB]
                    refine ws_l2r X (snl_of (lN_noNaN rB)) ml_M_318 nt_y_l2r ns_y_l2r in_JD ⟨Nat.le_of_ble_eq_true rfl, Nat.le_of_ble_eq_true rfl⟩ d_M_root_300 ?_
                    refine ws_dret X d_M_root_303 ?_
                    exact ⟨rfl, rfl⟩
                · have y1 := f246.mp h246
                  have hU : rtUp (rt3 N).1 (rt3 N).2 = true := by simp only [rtUp, y2, y0, y1]; decide
                  refine ws_lload (i := 11) X d_M_root_250 rfl ?_
                  refine ws_lconst (v := 1) X d_M_root_252 rfl ?_
                  refine ws_ladd X d_M_root_253 ?_
                  rw [lN_1, show (rt3 N).1 / 4 + 1 = rtK N from (if_pos hU).symm]
                  refine ws_lst_11 X rfl d_M_root_254 (by decide) ?_
                  first | rw [hK] | skip
                  have f270 : lN (rtK N) = 9007199254740992 ↔ rtK N = 2 ^ 53 := q_eq (b := 2 ^ 53) (by omega) (by decide)
                  have eM : ∀ a, a < 2 ^ 64 → lN a &&& 4503599627370495 = lN (a % 2 ^ 52) := fun a ha => q_mask (s := 52) (by decide) ha
                  refine ws_iload (i := 4) X d_M_root_256 rfl ?_
                  refine ws_iconst (v := 2) X d_M_root_258 rfl ?_
                  refine ws_idiv X d_M_root_259 (by decide) ?_
                  refine ws_bipush (v := 26) X d_M_root_260 rfl ?_
                  refine ws_isub X d_M_root_262 ?_
                  refine ws_ist_15 X rfl d_M_root_263 (by decide) ?_
                  refine ws_lload (i := 11) X d_M_root_265 rfl ?_
                  refine ws_ldc2 X d_M_root_267 ct_M_359 ?_
                  refine ws_lcmp_ne X d_M_root_270 d_M_root_271 (fun h270 => ?_) (fun h270 => ?_)
                  · have k53 : ¬ rtK N = 2 ^ 53 := fun z => h270 (f270.mpr z)
                    have eB : rtB N = ((rt2 N).2 / 2 + 485) * 2 ^ 52 + rtK N % 2 ^ 52 := if_neg k53
                    have eP := pw_half (rt2 N).2 (by omega) r2.2.2.1
                    refine ws_iload (i := 15) X d_M_root_283 rfl ?_
                    refine ws_sipush (v := 1075) X d_M_root_285 rfl ?_
                    refine ws_iadd X d_M_root_288 ?_
                    rw [eP]
                    refine ws_i2l X d_M_root_289 ?_
                    rw [nI_l (by omega)]
                    refine ws_bipush (v := 52) X d_M_root_290 rfl ?_
                    refine ws_lshl X d_M_root_292 ?_
                    rw [show (52 : Int32) = nI 52 from rfl, q_shl _ (by decide)]
                    refine ws_lload (i := 11) X d_M_root_293 rfl ?_
                    refine ws_ldc2 X d_M_root_295 ct_M_316 ?_
                    refine ws_land X d_M_root_298 ?_
                    rw [eM _ (by omega)]
                    refine ws_lor X d_M_root_299 ?_
                    rw [q_or (Nat.mod_lt _ (by decide)) (by omega), ← eB]
                    refine ws_l2r X (snl_of (lN_noNaN rB)) ml_M_318 nt_y_l2r ns_y_l2r in_JD ⟨Nat.le_of_ble_eq_true rfl, Nat.le_of_ble_eq_true rfl⟩ d_M_root_300 ?_
                    refine ws_dret X d_M_root_303 ?_
                    exact ⟨rfl, rfl⟩
                  · have k53 : rtK N = 2 ^ 53 := f270.mp h270
                    have e9 : shr64 (lN (rtK N)) 1 = lN (2 ^ 52) := by rw [k53]; exact q_shr (k := 1) (by decide) (by decide)
                    have eB : rtB N = ((rt2 N).2 / 2 + 486) * 2 ^ 52 + 2 ^ 52 % 2 ^ 52 := (if_pos k53).trans (by omega)
                    have eP := pw_half1 (rt2 N).2 (by omega) r2.2.2.1
                    refine ws_lload (i := 11) X d_M_root_274 rfl ?_
                    refine ws_iconst (v := 1) X d_M_root_276 rfl ?_
                    refine ws_lshr X d_M_root_277 ?_
                    rw [e9]
                    refine ws_lst_11 X rfl d_M_root_278 (by decide) ?_
                    refine ws_iinc_15 X rfl d_M_root_280 rfl (by decide) ?_
                    refine ws_iload (i := 15) X d_M_root_283 rfl ?_
                    refine ws_sipush (v := 1075) X d_M_root_285 rfl ?_
                    refine ws_iadd X d_M_root_288 ?_
                    rw [eP]
                    refine ws_i2l X d_M_root_289 ?_
                    rw [nI_l (by omega)]
                    refine ws_bipush (v := 52) X d_M_root_290 rfl ?_
                    refine ws_lshl X d_M_root_292 ?_
                    rw [show (52 : Int32) = nI 52 from rfl, q_shl _ (by decide)]
                    refine ws_lload (i := 11) X d_M_root_293 rfl ?_
                    refine ws_ldc2 X d_M_root_295 ct_M_316 ?_
                    refine ws_land X d_M_root_298 ?_
                    rw [eM _ (by omega)]
                    refine ws_lor X d_M_root_299 ?_
                    rw [q_or (Nat.mod_lt _ (by decide)) (by omega), ← eB]
                    refine ws_l2r X (snl_of (lN_noNaN rB)) ml_M_318 nt_y_l2r ns_y_l2r in_JD ⟨Nat.le_of_ble_eq_true rfl, Nat.le_of_ble_eq_true rfl⟩ d_M_root_300 ?_
                    refine ws_dret X d_M_root_303 ?_
                    exact ⟨rfl, rfl⟩
        · have h2 : rt2 N = (2 * (rt1 N).1, (rt1 N).2 - 1) := if_neg (fun z => h101 (f100.mpr z))
          refine ws_lload (i := 5) X d_M_root_104 rfl ?_
          refine ws_iconst (v := 1) X d_M_root_106 rfl ?_
          refine ws_lshl X d_M_root_107 ?_
          rw [e4, show 2 * (rt1 N).1 = (rt2 N).1 from by rw [h2]]
          refine ws_lst_5 X rfl d_M_root_108 (by decide) ?_
          refine ws_iinc_4 X rfl d_M_root_110 rfl (by decide) ?_
          first | rw [e5, show (rt1 N).2 - 1 = (rt2 N).2 from by rw [h2]] | skip
          refine ws_lconst (v := 0) X d_M_root_113 rfl ?_
          refine ws_lst_7 X rfl d_M_root_114 (by decide) ?_
          refine ws_lconst (v := 0) X d_M_root_116 rfl ?_
          refine ws_lst_9 X rfl d_M_root_117 (by decide) ?_
          refine ws_bipush (v := 26) X d_M_root_119 rfl ?_
          refine ws_ist_11 X rfl d_M_root_121 (by decide) ?_
          rw [show (26 : Int32) = 26 - nI 0 from by decide, show (0 : Int64) = lN 0 from rfl]
          refine l_rt X r2.2.1 55 0 0 0 none none none none (by omega) (by decide) (by decide) (fun j b12 b13 b14 b15 => ?_)
          have r3 := sqN_inv (rt2 N).1 55 0 0 0 (by decide) (by decide)
          have r4 : (rt3 N).1 < 2 ^ 55 := r3.1
          have r5 : (rt3 N).2 ≤ 2 * (rt3 N).1 := r3.2
          have rK := rtK_le N
          have rB := rtB_lt g1 g2
          show WS _ _ _ _ _ _ _ _ _ _ _ _ _ _ _ _ _ [_, _, _, _, _, _, _, some (.inl (.long (lN (rt3 N).2))), _, some (.inl (.long (lN (rt3 N).1))), _, _, _, _, _, _] _ _
          have e6 : shr64 (lN (rt3 N).1) 2 = lN ((rt3 N).1 / 4) := q_shr (k := 2) (by omega) (by decide)
          have e7 : lN (rt3 N).1 &&& 3 = lN ((rt3 N).1 % 4) := q_mask (s := 2) (by decide) (by omega)
          have e8 : lN ((rt3 N).1 / 4) &&& 1 = lN ((rt3 N).1 / 4 % 2) := q_mask (s := 1) (by decide) (by omega)
          have f221 : (2 : Int64) < lN ((rt3 N).1 % 4) ↔ 2 < (rt3 N).1 % 4 := q_lt (a := 2) (by decide) (by omega)
          have f230 : lN ((rt3 N).1 % 4) = 2 ↔ (rt3 N).1 % 4 = 2 := q_eq (b := 2) (by omega) (by decide)
          have f237 : lN (rt3 N).2 = 0 ↔ (rt3 N).2 = 0 := q_eq (b := 0) (by omega) (by decide)
          have f246 : lN ((rt3 N).1 / 4 % 2) = 1 ↔ (rt3 N).1 / 4 % 2 = 1 := q_eq (b := 1) (by omega) (by decide)
          refine ws_lload (i := 9) X d_M_root_202 rfl ?_
          refine ws_iconst (v := 2) X d_M_root_204 rfl ?_
          refine ws_lshr X d_M_root_205 ?_
          rw [e6]
          refine ws_lst_11 X rfl d_M_root_206 (by decide) ?_
          refine ws_lload (i := 9) X d_M_root_208 rfl ?_
          refine ws_ldc2 X d_M_root_210 ct_M_355 ?_
          refine ws_land X d_M_root_213 ?_
          rw [e7]
          refine ws_lst_13 X rfl d_M_root_214 (by decide) ?_
          refine ws_lload (i := 13) X d_M_root_216 rfl ?_
          refine ws_ldc2 X d_M_root_218 ct_M_357 ?_
          refine ws_lcmp_gt X d_M_root_221 d_M_root_222 (fun h221 => ?_) (fun h221 => ?_)
          · have hU : rtUp (rt3 N).1 (rt3 N).2 = true := by simp [rtUp, f221.mp h221]
            refine ws_lload (i := 11) X d_M_root_250 rfl ?_
            refine ws_lconst (v := 1) X d_M_root_252 rfl ?_
            refine ws_ladd X d_M_root_253 ?_
            rw [lN_1, show (rt3 N).1 / 4 + 1 = rtK N from (if_pos hU).symm]
            refine ws_lst_11 X rfl d_M_root_254 (by decide) ?_
            first | rw [hK] | skip
            have f270 : lN (rtK N) = 9007199254740992 ↔ rtK N = 2 ^ 53 := q_eq (b := 2 ^ 53) (by omega) (by decide)
            have eM : ∀ a, a < 2 ^ 64 → lN a &&& 4503599627370495 = lN (a % 2 ^ 52) := fun a ha => q_mask (s := 52) (by decide) ha
            refine ws_iload (i := 4) X d_M_root_256 rfl ?_
            refine ws_iconst (v := 2) X d_M_root_258 rfl ?_
            refine ws_idiv X d_M_root_259 (by decide) ?_
            refine ws_bipush (v := 26) X d_M_root_260 rfl ?_
            refine ws_isub X d_M_root_262 ?_
            refine ws_ist_15 X rfl d_M_root_263 (by decide) ?_
            refine ws_lload (i := 11) X d_M_root_265 rfl ?_
            refine ws_ldc2 X d_M_root_267 ct_M_359 ?_
            refine ws_lcmp_ne X d_M_root_270 d_M_root_271 (fun h270 => ?_) (fun h270 => ?_)
            · have k53 : ¬ rtK N = 2 ^ 53 := fun z => h270 (f270.mpr z)
              have eB : rtB N = ((rt2 N).2 / 2 + 485) * 2 ^ 52 + rtK N % 2 ^ 52 := if_neg k53
              have eP := pw_half (rt2 N).2 (by omega) r2.2.2.1
              refine ws_iload (i := 15) X d_M_root_283 rfl ?_
              refine ws_sipush (v := 1075) X d_M_root_285 rfl ?_
              refine ws_iadd X d_M_root_288 ?_
              rw [eP]
              refine ws_i2l X d_M_root_289 ?_
              rw [nI_l (by omega)]
              refine ws_bipush (v := 52) X d_M_root_290 rfl ?_
              refine ws_lshl X d_M_root_292 ?_
              rw [show (52 : Int32) = nI 52 from rfl, q_shl _ (by decide)]
              refine ws_lload (i := 11) X d_M_root_293 rfl ?_
              refine ws_ldc2 X d_M_root_295 ct_M_316 ?_
              refine ws_land X d_M_root_298 ?_
              rw [eM _ (by omega)]
              refine ws_lor X d_M_root_299 ?_
              rw [q_or (Nat.mod_lt _ (by decide)) (by omega), ← eB]
              refine ws_l2r X (snl_of (lN_noNaN rB)) ml_M_318 nt_y_l2r ns_y_l2r in_JD ⟨Nat.le_of_ble_eq_true rfl, Nat.le_of_ble_eq_true rfl⟩ d_M_root_300 ?_
              refine ws_dret X d_M_root_303 ?_
              exact ⟨rfl, rfl⟩
            · have k53 : rtK N = 2 ^ 53 := f270.mp h270
              have e9 : shr64 (lN (rtK N)) 1 = lN (2 ^ 52) := by rw [k53]; exact q_shr (k := 1) (by decide) (by decide)
              have eB : rtB N = ((rt2 N).2 / 2 + 486) * 2 ^ 52 + 2 ^ 52 % 2 ^ 52 := (if_pos k53).trans (by omega)
              have eP := pw_half1 (rt2 N).2 (by omega) r2.2.2.1
              refine ws_lload (i := 11) X d_M_root_274 rfl ?_
              refine ws_iconst (v := 1) X d_M_root_276 rfl ?_
              refine ws_lshr X d_M_root_277 ?_
              rw [e9]
              refine ws_lst_11 X rfl d_M_root_278 (by decide) ?_
              refine ws_iinc_15 X rfl d_M_root_280 rfl (by decide) ?_
              refine ws_iload (i := 15) X d_M_root_283 rfl ?_
              refine ws_sipush (v := 1075) X d_M_root_285 rfl ?_
              refine ws_iadd X d_M_root_288 ?_
              rw [eP]
              refine ws_i2l X d_M_root_289 ?_
              rw [nI_l (by omega)]
              refine ws_bipush (v := 52) X d_M_root_290 rfl ?_
              refine ws_lshl X d_M_root_292 ?_
              rw [show (52 : Int32) = nI 52 from rfl, q_shl _ (by decide)]
              refine ws_lload (i := 11) X d_M_root_293 rfl ?_
              refine ws_ldc2 X d_M_root_295 ct_M_316 ?_
              refine ws_land X d_M_root_298 ?_
              rw [eM _ (by omega)]
              refine ws_lor X d_M_root_299 ?_
              rw [q_or (Nat.mod_lt _ (by decide)) (by omega), ← eB]
              refine ws_l2r X (snl_of (lN_noNaN rB)) ml_M_318 nt_y_l2r ns_y_l2r in_JD ⟨Nat.le_of_ble_eq_true rfl, Nat.le_of_ble_eq_true rfl⟩ d_M_root_300 ?_
              refine ws_dret X d_M_root_303 ?_
              exact ⟨rfl, rfl⟩
          · have n2 : ¬ 2 < (rt3 N).1 % 4 := fun z => h221 (f221.mpr z)
            refine ws_lload (i := 13) X d_M_root_225 rfl ?_
            refine ws_ldc2 X d_M_root_227 ct_M_357 ?_
            refine ws_lcmp_ne X d_M_root_230 d_M_root_231 (fun h230 => ?_) (fun h230 => ?_)
            · have n3 : ¬ (rt3 N).1 % 4 = 2 := fun z => h230 (f230.mpr z)
              have hU : rtUp (rt3 N).1 (rt3 N).2 = false := by simp [rtUp, n2, n3]
              have hK : (rt3 N).1 / 4 = rtK N := by rw [rtK, hU]; rfl
              first | rw [hK] | skip
              have f270 : lN (rtK N) = 9007199254740992 ↔ rtK N = 2 ^ 53 := q_eq (b := 2 ^ 53) (by omega) (by decide)
              have eM : ∀ a, a < 2 ^ 64 → lN a &&& 4503599627370495 = lN (a % 2 ^ 52) := fun a ha => q_mask (s := 52) (by decide) ha
              refine ws_iload (i := 4) X d_M_root_256 rfl ?_
              refine ws_iconst (v := 2) X d_M_root_258 rfl ?_
              refine ws_idiv X d_M_root_259 (by decide) ?_
              refine ws_bipush (v := 26) X d_M_root_260 rfl ?_
              refine ws_isub X d_M_root_262 ?_
              refine ws_ist_15 X rfl d_M_root_263 (by decide) ?_
              refine ws_lload (i := 11) X d_M_root_265 rfl ?_
              refine ws_ldc2 X d_M_root_267 ct_M_359 ?_
              refine ws_lcmp_ne X d_M_root_270 d_M_root_271 (fun h270 => ?_) (fun h270 => ?_)
              · have k53 : ¬ rtK N = 2 ^ 53 := fun z => h270 (f270.mpr z)
                have eB : rtB N = ((rt2 N).2 / 2 + 485) * 2 ^ 52 + rtK N % 2 ^ 52 := if_neg k53
                have eP := pw_half (rt2 N).2 (by omega) r2.2.2.1
                refine ws_iload (i := 15) X d_M_root_283 rfl ?_
                refine ws_sipush (v := 1075) X d_M_root_285 rfl ?_
                refine ws_iadd X d_M_root_288 ?_
                rw [eP]
                refine ws_i2l X d_M_root_289 ?_
                rw [nI_l (by omega)]
                refine ws_bipush (v := 52) X d_M_root_290 rfl ?_
                refine ws_lshl X d_M_root_292 ?_
                rw [show (52 : Int32) = nI 52 from rfl, q_shl _ (by decide)]
                refine ws_lload (i := 11) X d_M_root_293 rfl ?_
                refine ws_ldc2 X d_M_root_295 ct_M_316 ?_
                refine ws_land X d_M_root_298 ?_
                rw [eM _ (by omega)]
                refine ws_lor X d_M_root_299 ?_
                rw [q_or (Nat.mod_lt _ (by decide)) (by omega), ← eB]
                refine ws_l2r X (snl_of (lN_noNaN rB)) ml_M_318 nt_y_l2r ns_y_l2r in_JD ⟨Nat.le_of_ble_eq_true rfl, Nat.le_of_ble_eq_true rfl⟩ d_M_root_300 ?_
                refine ws_dret X d_M_root_303 ?_
                exact ⟨rfl, rfl⟩
              · have k53 : rtK N = 2 ^ 53 := f270.mp h270
                have e9 : shr64 (lN (rtK N)) 1 = lN (2 ^ 52) := by rw [k53]; exact q_shr (k := 1) (by decide) (by decide)
                have eB : rtB N = ((rt2 N).2 / 2 + 486) * 2 ^ 52 + 2 ^ 52 % 2 ^ 52 := (if_pos k53).trans (by omega)
                have eP := pw_half1 (rt2 N).2 (by omega) r2.2.2.1
                refine ws_lload (i := 11) X d_M_root_274 rfl ?_
                refine ws_iconst (v := 1) X d_M_root_276 rfl ?_
                refine ws_lshr X d_M_root_277 ?_
                rw [e9]
                refine ws_lst_11 X rfl d_M_root_278 (by decide) ?_
                refine ws_iinc_15 X rfl d_M_root_280 rfl (by decide) ?_
                refine ws_iload (i := 15) X d_M_root_283 rfl ?_
                refine ws_sipush (v := 1075) X d_M_root_285 rfl ?_
                refine ws_iadd X d_M_root_288 ?_
                rw [eP]
                refine ws_i2l X d_M_root_289 ?_
                rw [nI_l (by omega)]
                refine ws_bipush (v := 52) X d_M_root_290 rfl ?_
                refine ws_lshl X d_M_root_292 ?_
                rw [show (52 : Int32) = nI 52 from rfl, q_shl _ (by decide)]
                refine ws_lload (i := 11) X d_M_root_293 rfl ?_
                refine ws_ldc2 X d_M_root_295 ct_M_316 ?_
                refine ws_land X d_M_root_298 ?_
                rw [eM _ (by omega)]
                refine ws_lor X d_M_root_299 ?_
                rw [q_or (Nat.mod_lt _ (by decide)) (by omega), ← eB]
                refine ws_l2r X (snl_of (lN_noNaN rB)) ml_M_318 nt_y_l2r ns_y_l2r in_JD ⟨Nat.le_of_ble_eq_true rfl, Nat.le_of_ble_eq_true rfl⟩ d_M_root_300 ?_
                refine ws_dret X d_M_root_303 ?_
                exact ⟨rfl, rfl⟩
            · have y2 := f230.mp h230
              refine ws_lload (i := 7) X d_M_root_234 rfl ?_
              refine ws_lconst (v := 0) X d_M_root_236 rfl ?_
              refine ws_lcmp_ne X d_M_root_237 d_M_root_238 (fun h237 => ?_) (fun h237 => ?_)
              · have n0 : ¬ (rt3 N).2 = 0 := fun z => h237 (f237.mpr z)
                have hU : rtUp (rt3 N).1 (rt3 N).2 = true := by simp [rtUp, y2, n0]
                refine ws_lload (i := 11) X d_M_root_250 rfl ?_
                refine ws_lconst (v := 1) X d_M_root_252 rfl ?_
                refine ws_ladd X d_M_root_253 ?_
                rw [lN_1, show (rt3 N).1 / 4 + 1 = rtK N from (if_pos hU).symm]
                refine ws_lst_11 X rfl d_M_root_254 (by decide) ?_
                first | rw [hK] | skip
                have f270 : lN (rtK N) = 9007199254740992 ↔ rtK N = 2 ^ 53 := q_eq (b := 2 ^ 53) (by omega) (by decide)
                have eM : ∀ a, a < 2 ^ 64 → lN a &&& 4503599627370495 = lN (a % 2 ^ 52) := fun a ha => q_mask (s := 52) (by decide) ha
                refine ws_iload (i := 4) X d_M_root_256 rfl ?_
                refine ws_iconst (v := 2) X d_M_root_258 rfl ?_
                refine ws_idiv X d_M_root_259 (by decide) ?_
                refine ws_bipush (v := 26) X d_M_root_260 rfl ?_
                refine ws_isub X d_M_root_262 ?_
                refine ws_ist_15 X rfl d_M_root_263 (by decide) ?_
                refine ws_lload (i := 11) X d_M_root_265 rfl ?_
                refine ws_ldc2 X d_M_root_267 ct_M_359 ?_
                refine ws_lcmp_ne X d_M_root_270 d_M_root_271 (fun h270 => ?_) (fun h270 => ?_)
                · have k53 : ¬ rtK N = 2 ^ 53 := fun z => h270 (f270.mpr z)
                  have eB : rtB N = ((rt2 N).2 / 2 + 485) * 2 ^ 52 + rtK N % 2 ^ 52 := if_neg k53
                  have eP := pw_half (rt2 N).2 (by omega) r2.2.2.1
                  refine ws_iload (i := 15) X d_M_root_283 rfl ?_
                  refine ws_sipush (v := 1075) X d_M_root_285 rfl ?_
                  refine ws_iadd X d_M_root_288 ?_
                  rw [eP]
                  refine ws_i2l X d_M_root_289 ?_
                  rw [nI_l (by omega)]
                  refine ws_bipush (v := 52) X d_M_root_290 rfl ?_
                  refine ws_lshl X d_M_root_292 ?_
                  rw [show (52 : Int32) = nI 52 from rfl, q_shl _ (by decide)]
                  refine ws_lload (i := 11) X d_M_root_293 rfl ?_
                  refine ws_ldc2 X d_M_root_295 ct_M_316 ?_
                  refine ws_land X d_M_root_298 ?_
                  rw [eM _ (by omega)]
                  refine ws_lor X d_M_root_299 ?_
                  rw [q_or (Nat.mod_lt _ (by decide)) (by omega), ← eB]
                  refine ws_l2r X (snl_of (lN_noNaN rB)) ml_M_318 nt_y_l2r ns_y_l2r in_JD ⟨Nat.le_of_ble_eq_true rfl, Nat.le_of_ble_eq_true rfl⟩ d_M_root_300 ?_
                  refine ws_dret X d_M_root_303 ?_
                  exact ⟨rfl, rfl⟩
                · have k53 : rtK N = 2 ^ 53 := f270.mp h270
                  have e9 : shr64 (lN (rtK N)) 1 = lN (2 ^ 52) := by rw [k53]; exact q_shr (k := 1) (by decide) (by decide)
                  have eB : rtB N = ((rt2 N).2 / 2 + 486) * 2 ^ 52 + 2 ^ 52 % 2 ^ 52 := (if_pos k53).trans (by omega)
                  have eP := pw_half1 (rt2 N).2 (by omega) r2.2.2.1
                  refine ws_lload (i := 11) X d_M_root_274 rfl ?_
                  refine ws_iconst (v := 1) X d_M_root_276 rfl ?_
                  refine ws_lshr X d_M_root_277 ?_
                  rw [e9]
                  refine ws_lst_11 X rfl d_M_root_278 (by decide) ?_
                  refine ws_iinc_15 X rfl d_M_root_280 rfl (by decide) ?_
                  refine ws_iload (i := 15) X d_M_root_283 rfl ?_
                  refine ws_sipush (v := 1075) X d_M_root_285 rfl ?_
                  refine ws_iadd X d_M_root_288 ?_
                  rw [eP]
                  refine ws_i2l X d_M_root_289 ?_
                  rw [nI_l (by omega)]
                  refine ws_bipush (v := 52) X d_M_root_290 rfl ?_
                  refine ws_lshl X d_M_root_292 ?_
                  rw [show (52 : Int32) = nI 52 from rfl, q_shl _ (by decide)]
                  refine ws_lload (i := 11) X d_M_root_293 rfl ?_
                  refine ws_ldc2 X d_M_root_295 ct_M_316 ?_
                  refine ws_land X d_M_root_298 ?_
                  rw [eM _ (by omega)]
                  refine ws_lor X d_M_root_299 ?_
                  rw [q_or (Nat.mod_lt _ (by decide)) (by omega), ← eB]
                  refine ws_l2r X (snl_of (lN_noNaN rB)) ml_M_318 nt_y_l2r ns_y_l2r in_JD ⟨Nat.le_of_ble_eq_true rfl, Nat.le_of_ble_eq_true rfl⟩ d_M_root_300 ?_
                  refine ws_dret X d_M_root_303 ?_
                  exact ⟨rfl, rfl⟩
              · have y0 := f237.mp h237
                refine ws_lload (i := 11) X d_M_root_241 rfl ?_
                refine ws_lconst (v := 1) X d_M_root_243 rfl ?_
                refine ws_land X d_M_root_244 ?_
                rw [e8]
                refine ws_lconst (v := 1) X d_M_root_245 rfl ?_
                refine ws_lcmp_ne X d_M_root_246 d_M_root_247 (fun h246 => ?_) (fun h246 => ?_)
                · have n1 : ¬ (rt3 N).1 / 4 % 2 = 1 := fun z => h246 (f246.mpr z)
                  have hU : rtUp (rt3 N).1 (rt3 N).2 = false := by simp only [rtUp, y2, y0, n1]; decide
                  have hK : (rt3 N).1 / 4 = rtK N := by rw [rtK, hU]; rfl
                  first | rw [hK] | skip
                  have f270 : lN (rtK N) = 9007199254740992 ↔ rtK N = 2 ^ 53 := q_eq (b := 2 ^ 53) (by omega) (by decide)
                  have eM : ∀ a, a < 2 ^ 64 → lN a &&& 4503599627370495 = lN (a % 2 ^ 52) := fun a ha => q_mask (s := 52) (by decide) ha
                  refine ws_iload (i := 4) X d_M_root_256 rfl ?_
                  refine ws_iconst (v := 2) X d_M_root_258 rfl ?_
                  refine ws_idiv X d_M_root_259 (by decide) ?_
                  refine ws_bipush (v := 26) X d_M_root_260 rfl ?_
                  refine ws_isub X d_M_root_262 ?_
                  refine ws_ist_15 X rfl d_M_root_263 (by decide) ?_
                  refine ws_lload (i := 11) X d_M_root_265 rfl ?_
                  refine ws_ldc2 X d_M_root_267 ct_M_359 ?_
                  refine ws_lcmp_ne X d_M_root_270 d_M_root_271 (fun h270 => ?_) (fun h270 => ?_)
                  · have k53 : ¬ rtK N = 2 ^ 53 := fun z => h270 (f270.mpr z)
                    have eB : rtB N = ((rt2 N).2 / 2 + 485) * 2 ^ 52 + rtK N % 2 ^ 52 := if_neg k53
                    have eP := pw_half (rt2 N).2 (by omega) r2.2.2.1
                    refine ws_iload (i := 15) X d_M_root_283 rfl ?_
                    refine ws_sipush (v := 1075) X d_M_root_285 rfl ?_
                    refine ws_iadd X d_M_root_288 ?_
                    rw [eP]
                    refine ws_i2l X d_M_root_289 ?_
                    rw [nI_l (by omega)]
                    refine ws_bipush (v := 52) X d_M_root_290 rfl ?_
                    refine ws_lshl X d_M_root_292 ?_
                    rw [show (52 : Int32) = nI 52 from rfl, q_shl _ (by decide)]
                    refine ws_lload (i := 11) X d_M_root_293 rfl ?_
                    refine ws_ldc2 X d_M_root_295 ct_M_316 ?_
                    refine ws_land X d_M_root_298 ?_
                    rw [eM _ (by omega)]
                    refine ws_lor X d_M_root_299 ?_
                    rw [q_or (Nat.mod_lt _ (by decide)) (by omega), ← eB]
                    refine ws_l2r X (snl_of (lN_noNaN rB)) ml_M_318 nt_y_l2r ns_y_l2r in_JD ⟨Nat.le_of_ble_eq_true rfl, Nat.le_of_ble_eq_true rfl⟩ d_M_root_300 ?_
                    refine ws_dret X d_M_root_303 ?_
                    exact ⟨rfl, rfl⟩
                  · have k53 : rtK N = 2 ^ 53 := f270.mp h270
                    have e9 : shr64 (lN (rtK N)) 1 = lN (2 ^ 52) := by rw [k53]; exact q_shr (k := 1) (by decide) (by decide)
                    have eB : rtB N = ((rt2 N).2 / 2 + 486) * 2 ^ 52 + 2 ^ 52 % 2 ^ 52 := (if_pos k53).trans (by omega)
                    have eP := pw_half1 (rt2 N).2 (by omega) r2.2.2.1
                    refine ws_lload (i := 11) X d_M_root_274 rfl ?_
                    refine ws_iconst (v := 1) X d_M_root_276 rfl ?_
                    refine ws_lshr X d_M_root_277 ?_
                    rw [e9]
                    refine ws_lst_11 X rfl d_M_root_278 (by decide) ?_
                    refine ws_iinc_15 X rfl d_M_root_280 rfl (by decide) ?_
                    refine ws_iload (i := 15) X d_M_root_283 rfl ?_
                    refine ws_sipush (v := 1075) X d_M_root_285 rfl ?_
                    refine ws_iadd X d_M_root_288 ?_
                    rw [eP]
                    refine ws_i2l X d_M_root_289 ?_
                    rw [nI_l (by omega)]
                    refine ws_bipush (v := 52) X d_M_root_290 rfl ?_
                    refine ws_lshl X d_M_root_292 ?_
                    rw [show (52 : Int32) = nI 52 from rfl, q_shl _ (by decide)]
                    refine ws_lload (i := 11) X d_M_root_293 rfl ?_
                    refine ws_ldc2 X d_M_root_295 ct_M_316 ?_
                    refine ws_land X d_M_root_298 ?_
                    rw [eM _ (by omega)]
                    refine ws_lor X d_M_root_299 ?_
                    rw [q_or (Nat.mod_lt _ (by decide)) (by omega), ← eB]
                    refine ws_l2r X (snl_of (lN_noNaN rB)) ml_M_318 nt_y_l2r ns_y_l2r in_JD ⟨Nat.le_of_ble_eq_true rfl, Nat.le_of_ble_eq_true rfl⟩ d_M_root_300 ?_
                    refine ws_dret X d_M_root_303 ?_
                    exact ⟨rfl, rfl⟩
                · have y1 := f246.mp h246
                  have hU : rtUp (rt3 N).1 (rt3 N).2 = true := by simp only [rtUp, y2, y0, y1]; decide
                  refine ws_lload (i := 11) X d_M_root_250 rfl ?_
                  refine ws_lconst (v := 1) X d_M_root_252 rfl ?_
                  refine ws_ladd X d_M_root_253 ?_
                  rw [lN_1, show (rt3 N).1 / 4 + 1 = rtK N from (if_pos hU).symm]
                  refine ws_lst_11 X rfl d_M_root_254 (by decide) ?_
                  first | rw [hK] | skip
                  have f270 : lN (rtK N) = 9007199254740992 ↔ rtK N = 2 ^ 53 := q_eq (b := 2 ^ 53) (by omega) (by decide)
                  have eM : ∀ a, a < 2 ^ 64 → lN a &&& 4503599627370495 = lN (a % 2 ^ 52) := fun a ha => q_mask (s := 52) (by decide) ha
                  refine ws_iload (i := 4) X d_M_root_256 rfl ?_
                  refine ws_iconst (v := 2) X d_M_root_258 rfl ?_
                  refine ws_idiv X d_M_root_259 (by decide) ?_
                  refine ws_bipush (v := 26) X d_M_root_260 rfl ?_
                  refine ws_isub X d_M_root_262 ?_
                  refine ws_ist_15 X rfl d_M_root_263 (by decide) ?_
                  refine ws_lload (i := 11) X d_M_root_265 rfl ?_
                  refine ws_ldc2 X d_M_root_267 ct_M_359 ?_
                  refine ws_lcmp_ne X d_M_root_270 d_M_root_271 (fun h270 => ?_) (fun h270 => ?_)
                  · have k53 : ¬ rtK N = 2 ^ 53 := fun z => h270 (f270.mpr z)
                    have eB : rtB N = ((rt2 N).2 / 2 + 485) * 2 ^ 52 + rtK N % 2 ^ 52 := if_neg k53
                    have eP := pw_half (rt2 N).2 (by omega) r2.2.2.1
                    refine ws_iload (i := 15) X d_M_root_283 rfl ?_
                    refine ws_sipush (v := 1075) X d_M_root_285 rfl ?_
                    refine ws_iadd X d_M_root_288 ?_
                    rw [eP]
                    refine ws_i2l X d_M_root_289 ?_
                    rw [nI_l (by omega)]
                    refine ws_bipush (v := 52) X d_M_root_290 rfl ?_
                    refine ws_lshl X d_M_root_292 ?_
                    rw [show (52 : Int32) = nI 52 from rfl, q_shl _ (by decide)]
                    refine ws_lload (i := 11) X d_M_root_293 rfl ?_
                    refine ws_ldc2 X d_M_root_295 ct_M_316 ?_
                    refine ws_land X d_M_root_298 ?_
                    rw [eM _ (by omega)]
                    refine ws_lor X d_M_root_299 ?_
                    rw [q_or (Nat.mod_lt _ (by decide)) (by omega), ← eB]
                    refine ws_l2r X (snl_of (lN_noNaN rB)) ml_M_318 nt_y_l2r ns_y_l2r in_JD ⟨Nat.le_of_ble_eq_true rfl, Nat.le_of_ble_eq_true rfl⟩ d_M_root_300 ?_
                    refine ws_dret X d_M_root_303 ?_
                    exact ⟨rfl, rfl⟩
                  · have k53 : rtK N = 2 ^ 53 := f270.mp h270
                    have e9 : shr64 (lN (rtK N)) 1 = lN (2 ^ 52) := by rw [k53]; exact q_shr (k := 1) (by decide) (by decide)
                    have eB : rtB N = ((rt2 N).2 / 2 + 486) * 2 ^ 52 + 2 ^ 52 % 2 ^ 52 := (if_pos k53).trans (by omega)
                    have eP := pw_half1 (rt2 N).2 (by omega) r2.2.2.1
                    refine ws_lload (i := 11) X d_M_root_274 rfl ?_
                    refine ws_iconst (v := 1) X d_M_root_276 rfl ?_
                    refine ws_lshr X d_M_root_277 ?_
                    rw [e9]
                    refine ws_lst_11 X rfl d_M_root_278 (by decide) ?_
                    refine ws_iinc_15 X rfl d_M_root_280 rfl (by decide) ?_
                    refine ws_iload (i := 15) X d_M_root_283 rfl ?_
                    refine ws_sipush (v := 1075) X d_M_root_285 rfl ?_
                    refine ws_iadd X d_M_root_288 ?_
                    rw [eP]
                    refine ws_i2l X d_M_root_289 ?_
                    rw [nI_l (by omega)]
                    refine ws_bipush (v := 52) X d_M_root_290 rfl ?_
                    refine ws_lshl X d_M_root_292 ?_
                    rw [show (52 : Int32) = nI 52 from rfl, q_shl _ (by decide)]
                    refine ws_lload (i := 11) X d_M_root_293 rfl ?_
                    refine ws_ldc2 X d_M_root_295 ct_M_316 ?_
                    refine ws_land X d_M_root_298 ?_
                    rw [eM _ (by omega)]
                    refine ws_lor X d_M_root_299 ?_
                    rw [q_or (Nat.mod_lt _ (by decide)) (by omega), ← eB]
                    refine ws_l2r X (snl_of (lN_noNaN rB)) ml_M_318 nt_y_l2r ns_y_l2r in_JD ⟨Nat.le_of_ble_eq_true rfl, Nat.le_of_ble_eq_true rfl⟩ d_M_root_300 ?_
                    refine ws_dret X d_M_root_303 ?_
                    exact ⟨rfl, rfl⟩
    · refine ws_dload_n (i := 0) X d_M_root_16 rfl rfl ?_
      refine ws_dconst0 X d_M_root_17 ?_
      refine ws_dcmp X d_M_root_18 ?_
      refine ws_if_ge X d_M_root_19 (fun h19 => ?_) (fun h19 => ?_)
      · refine ws_dload_n (i := 0) X d_M_root_28 rfl rfl ?_
        refine ws_dret X d_M_root_29 ?_
        exact ⟨by simp [mRoot, eq_false h3, eq_true h13, eq_true h19], rfl⟩
      · refine ws_ldc2d X d_M_root_22 ct_M_312 ?_
        refine ws_goto X d_M_root_25 ?_
        refine ws_dret X d_M_root_29 ?_
        exact ⟨by simp [mRoot, eq_false h3, eq_true h13, eq_false h19], rfl⟩


