/-! one call of the face and of the model, in lockstep on one heap -/
theorem J_rdAllG {X M : MS} {n : Nat} (hT : QT X M n) (hX : XB X) (hM : MW M) {tk : Nat → Nat} {k : Nat} (hG : GR tk k (rd1 X)) : ∃ (k' en : Nat), MT (mrd0 M) ∧ MW (mrd0 M) ∧ ((mrd1 M).1 8 0 28 = 0 → MB (mrd1 M) k' en) ∧ (rdR tk k X).1 = mrdV M ∧ RD (rdS tk k X) (mrdS M) ∧ (rdS tk k X).1 0 0 5 = (mrdS M).1 8 0 28 ∧ XB (rdS tk k X) ∧ MW (mrdS M) := by
  have o1 : (mrd0 M).1 8 0 1 = M.1 8 0 1 := by
    rw [mrd0, flGo_o _ _ _ (by decide), wI_o _ _ _ _ _ _ _ _ (by decide), wI_o _ _ _ _ _ _ _ _ (by decide), wI_o _ _ _ _ _ _ _ _ (by decide)]
  have o28 : (mrd0 M).1 8 0 28 = 0 := by
    rw [mrd0, flGo_o _ _ _ (by decide), wI_o _ _ _ _ _ _ _ _ (by decide), wI_o _ _ _ _ _ _ _ _ (by decide), wI_rd]
  have o24 : ∀ j, (mrd0 M).1 24 0 j = M.1 24 0 j := fun j => by
    rw [mrd0, flGo_o _ _ _ (by decide), wI_o _ _ _ _ _ _ _ _ (fun z => absurd z.1 (by decide)), wI_o _ _ _ _ _ _ _ _ (fun z => absurd z.1 (by decide)), wI_o _ _ _ _ _ _ _ _ (fun z => absurd z.1 (by decide))]
  have hT' : QT (wI X 0 0 6 0) (mrd0 M) n := hT.same (wI_o _ _ _ _ _ _ _ _ (by decide)) o1 (fun j => wI_o _ _ _ _ _ _ _ _ (fun z => absurd z.1 (by decide))) o24
  obtain ⟨j1, j2, j3⟩ := J_read (M := M) hT hG.1 hG.2.1 (fun j hj => (hG.2.2 j hj).2.2)
  have hF := (QR.file hT' o28).2
  by_cases hz : (mfS (mrd0 M)).1 8 0 28 = 0
  · obtain ⟨k', en, hR, -⟩ := hF hz
    refine ⟨k', en, hT'.mt, mrd0_W hM, fun _ => ?_, j1, j2, j3, rdS_B tk k hX, mrdS_W hM⟩
    rw [mrd1]; exact hR.mb
  · refine ⟨0, 0, hT'.mt, mrd0_W hM, fun z => ?_, j1, j2, j3, rdS_B tk k hX, mrdS_W hM⟩
    rw [mrd1] at z; exact absurd z hz
theorem J_readG {X M : MS} (h : RR X M) {tk : Nat → Nat} {k : Nat} (hG : GR tk k (rd1 X)) : ∃ (k' en : Nat), MT (mrd0 M) ∧ MW (mrd0 M) ∧ ((mrd1 M).1 8 0 28 = 0 → MB (mrd1 M) k' en) ∧ (rdR tk k X).1 = mrdV M ∧ RR (rdS tk k X) (mrdS M) := by
  obtain ⟨⟨n, hq⟩, hT, hX, hW, -, -, -, hL, ht⟩ := h
  obtain ⟨k', en, j2, j3, j4, j5, j6, j7, j8, j9⟩ := J_rdAllG hq hX hW hG
  refine ⟨k', en, j2, j3, j4, j5, ⟨n, ?_⟩, ?_, j8, j9, j6, j7, ?_, ?_, ?_⟩
  · have c := rdS_cr tk k X
    have m := mrdS_mr M
    refine hq.same ?_ ?_ (fun j => ?_) (fun j => ?_)
    · rw [c.1 _ _ _ (Or.inl rfl), wI_o _ _ _ _ _ _ _ _ (by decide)]
    · rw [m.1 _ _ _ (Or.inr ⟨rfl, Or.inl rfl⟩), wI_o _ _ _ _ _ _ _ _ (by decide)]
    · rw [c.1 _ _ _ (Or.inr (Or.inr (Or.inl rfl))), wI_o _ _ _ _ _ _ _ _ (fun z => absurd z.1 (by decide))]
    · rw [m.1 _ _ _ (Or.inl rfl), wI_o _ _ _ _ _ _ _ _ (fun z => absurd z.1 (by decide))]
  · exact hT.o (fun d => by rw [(rdS_cr tk k X).2 _ _ _ (by decide), wI_2]) (fun d => by rw [(mrdS_mr M).2.2, wI_2])
  · rw [(rdS_cr tk k X).1 _ _ _ (Or.inr (Or.inr (Or.inr ⟨rfl, rfl⟩))), wI_rd, (mrdS_mr M).1 _ _ _ (Or.inr ⟨rfl, Or.inr (Or.inl rfl)⟩), wI_rd]
  · rw [(rdS_cr tk k X).2 _ _ _ (by decide), wI_2, (mrdS_mr M).2.1 _ _ _ (by decide), wI_2]; exact hL
  · have c7 : ∀ d, (rdS tk k X).1 7 0 d = X.1 7 0 d := fun d => by
      rw [(rdS_cr tk k X).1 _ _ _ (Or.inr (Or.inl rfl)), wI_o _ _ _ _ _ _ _ _ (fun z => absurd z.1 (by decide))]
    have m8 : ∀ d, d = 42 ∨ 44 ≤ d → (mrdS M).1 8 0 d = M.1 8 0 d := fun d hd => by
      rw [(mrdS_mr M).1 _ _ _ (Or.inr ⟨rfl, by omega⟩), wI_o _ _ _ _ _ _ _ _ (fun z => by have := z.2.2; omega)]
    unfold EQ
    rw [c7, c7, c7, c7, c7, m8 _ (by decide), m8 _ (by decide), m8 _ (by decide), m8 _ (by decide), m8 _ (by decide), m8 _ (by decide), (rdS_cr tk k X).2 _ _ _ (by decide), wI_2, (mrdS_mr M).2.1 _ _ _ (by decide), wI_2]
    exact ht
theorem J_callG {X M : MS} (h : RR X M) {tk : Nat → Nat} (htkd : ∀ j, j < 5 → X.1 4 j 1 = nI (tk j) ∧ tk j ≤ 3) (m : Int32) (a b c : Int64) (s : Int32) : ∃ (IX IM : MS → Prop) (n : Nat), (∀ S, IX S → ¬ S.1 7 0 6 ≤ 0 → S.1 7 0 9 = 0 → opPre tk (xmStep S) ∧ IX (xmOp (xmStep S) tk)) ∧ (okG X m = true → asideM X m.toNatClampNeg = false → IX (call0 X m a b c)) ∧ (∀ S, IM S → ¬ S.1 8 0 36 ≤ 0 → S.1 8 0 44 = 0 → StpPre (mInc S) ∧ IM (mStp (mInc S))) ∧ (∀ S, IM S → ¬ S.1 8 0 36 ≤ 0 → ∃ F, F < 8 ∧ S.1 8 0 36 = nI (F + 1)) ∧ M.1 8 0 9 = nI n ∧ n ≤ 5 ∧ (∀ q, q < n → ∃ t, t ≤ 3 ∧ M.1 31 0 q = nI t) ∧ (∀ q t, q < n → M.1 31 0 q = nI t → t ≤ 3 → ¬ M.1 47 0 q = 3 → IM (mCs1 M q t a b c)) ∧ callXV tk X m a b c s = mCalV M m a b c s ∧ RR (callXS tk X m a b c s) (mCalS M m a b c s) := by
  obtain ⟨k, en, k5, en16, x23, m9, x33, m4, xv, hA, hP⟩ := h.2.2.2.2.1.k
  have hXB := h.2.2.1
  refine ⟨fun S => ∃ N k en, Run S N k en ∧ ∀ j, j < 5 → S.1 4 j 1 = nI (tk j) ∧ tk j ≤ 3, fun S => ∃ Y k en, Run Y S k en ∧ ∀ j, j < 5 → Y.1 4 j 1 = nI (tk j) ∧ tk j ≤ 3, k, ?_, ?_, ?_, ?_, m9, k5, ?_, ?_, ?_⟩
  · rintro S ⟨N, k', en', hR, ht⟩ h6 h9
    obtain ⟨s1, s2, s3, s4, s5⟩ := hR.step ht h6 h9
    exact ⟨s1, _, k', en', s3, fun j hj => by rw [s4.1 4 j 1 (by decide) (by decide) (by decide) (by decide)]; exact ht j hj⟩
  · intro hok _
    obtain ⟨q, hq, rfl⟩ := (okG_iff x23 k5).mp hok
    obtain ⟨hS, -⟩ := ST.of (en' := 0) hA hq
    obtain ⟨t, gg, hTG⟩ := hS.1.tgs q hq
    obtain ⟨r1, r2, r3, -⟩ := J_begin hS h.2.1 hq hTG.2.1 hTG.2.2.1 a b c
    exact ⟨_, k, en, r1, fun j hj => by rw [r2.1 4 j 1 (by decide) (by decide) (by decide) (by decide) (fun z => absurd z.1 (by decide))]; exact htkd j hj⟩
  · rintro S ⟨Y, k', en', hR, ht⟩ h6 h9
    obtain ⟨p1, p2, -⟩ := hR.pos
    obtain ⟨s1, s2, s3, s4, s5⟩ := hR.step ht (fun z => h6 (p1.mp z)) (p2.mpr h9)
    exact ⟨s2, _, k', en', s3, fun j hj => by rw [s4.1 4 j 1 (by decide) (by decide) (by decide) (by decide)]; exact ht j hj⟩
  · rintro S ⟨Y, k', en', hR, ht⟩ h6
    exact hR.pos.2.2 h6
  · intro q hq
    obtain ⟨hS, -⟩ := ST.of (en' := 0) hA hq
    obtain ⟨t, gg, hTG⟩ := hS.1.tgs q hq
    exact ⟨t, hTG.2.2.1, hTG.2.1⟩
  · intro q t hq h31 ht3 _
    obtain ⟨hS, -⟩ := ST.of (en' := 0) hA hq
    obtain ⟨r1, r2, r3, -⟩ := J_begin hS h.2.1 hq h31 ht3 a b c
    exact ⟨_, k, en, r1, fun j hj => by rw [r2.1 4 j 1 (by decide) (by decide) (by decide) (by decide) (fun z => absurd z.1 (by decide))]; exact htkd j hj⟩
  · have e1 := okG_iff (v := m) x23 k5
    have e2 := mIn_iff (v := m) (n := k) (by omega)
    have e5 : (¬ s < 1 ∧ s ≤ 1000) ↔ mIn s 1 1000 = true := by
      rw [mIn, Bool.and_eq_true, decide_eq_true_eq, decide_eq_true_eq, Int32.not_lt (a := 1000)]
    rw [callXV, mCalV, callXS, mCalS, m9]
    by_cases c1 : okG X m = true
    · have c2 := e2.mpr (e1.mp c1)
      obtain ⟨q, hq, rfl⟩ := e1.mp c1
      obtain ⟨hS, cn, n1, n2, n3⟩ := ST.of (en' := 0) hA hq
      rw [if_pos c1, if_pos c2, if_pos c1, if_pos c2, nI_c (by omega)]
      by_cases c3 : mIn s 1 1000 = true
      · obtain ⟨d1, d2⟩ := e5.mpr c3
        rw [if_neg d1, if_pos d2, if_pos c3, if_neg d1, if_pos d2, if_pos c3, aside_eq n1 n2 n3]
        by_cases c4 : M.1 47 0 q = 3
        · rw [if_pos (decide_eq_true c4), if_pos c4, if_pos (decide_eq_true c4), if_pos c4]
          exact ⟨rfl, h⟩
        · rw [if_neg (fun z => c4 (decide_eq_true_eq.mp z)), if_neg c4, if_neg (fun z => c4 (decide_eq_true_eq.mp z)), if_neg c4]
          obtain ⟨t, gg, hTG⟩ := hS.1.tgs q hq
          have ht := hTG.2.1
          have ht3 := hTG.2.2.1
          rw [ht, nI_c (by omega)]
          obtain ⟨r1, r2, r3, r4, r5, r6⟩ := J_begin hS h.2.1 hq ht ht3 a b c
          have htk1 : ∀ j, j < 5 → (call0 X (nI q) a b c).1 4 j 1 = nI (tk j) ∧ tk j ≤ 3 := fun j hj => by
            rw [r2.1 4 j 1 (by decide) (by decide) (by decide) (by decide) (fun z => absurd z.1 (by decide))]; exact htkd j hj
          obtain ⟨u1, u2, u3⟩ := J_run s.toNatClampNeg _ _ r1 htk1
          obtain ⟨v1, v2, v3⟩ := J_runEnd u1
          have fx := u2.tr v2
          have fm := u3.tr v3
          have eX : call1 tk X (nI q) a b c s.toNatClampNeg = xmRunEnd (runGo tk s.toNatClampNeg (call0 X (nI q) a b c)) := rfl
          have eM : mCs2 M q t a b c s.toNatClampNeg = mRunEnd (mrnGo s.toNatClampNeg (mCs1 M q t a b c)) := rfl
          rw [eX, eM]
          generalize xmRunEnd (runGo tk s.toNatClampNeg (call0 X (nI q) a b c)) = X3 at *
          generalize mRunEnd (mrnGo s.toNatClampNeg (mCs1 M q t a b c)) = M3 at *
          have gx : GX X X3 := r2.f fx
          have gm : GM M M3 := r3.f fm
          have h06 : X3.1 0 0 6 = X.1 0 0 6 + 1 := by rw [fx.1 0 0 6 (by decide) (by decide) (by decide) (by decide)]; exact r4
          have h30 : M3.1 8 0 30 = M.1 8 0 30 + 1 := by rw [fm.1 8 0 30 (by decide) (by decide) (by decide) (by decide) (by decide)]; exact r5
          have h42 : M3.1 8 0 42 = 1 := by rw [fm.1 8 0 42 (by decide) (by decide) (by decide) (by decide) (by decide)]; exact r6
          have h99 := v1.1.1
          have x47 : ∀ q', X3.1 4 q' 7 = X.1 4 q' 7 := fun q' => gx.1 4 q' 7 (by decide) (by decide) (by decide) (by decide) (fun z => absurd z.1 (by decide))
          have m47 : ∀ q', M3.1 47 0 q' = M.1 47 0 q' := fun q' => gm.1 47 0 q' (by decide) (by decide) (by decide) (by decide) (fun z => absurd z.1 (by decide))
          have hc0 : ∀ q', q' < k → ∃ c, c ≤ 3 ∧ X3.1 4 q' 7 = nI c ∧ M3.1 47 0 q' = nI c := fun q' hq' => by
            obtain ⟨-, c', z1, z2, z3⟩ := ST.of (en' := 0) hA hq'
            exact ⟨c', z1, (x47 q').trans z2, (m47 q').trans z3⟩
          have cn3 : cn < 3 := by
            have : cn ≠ 3 := fun z => c4 (by rw [n3, z]; rfl)
            omega
          have hup : RR (wI X3 4 q 7 (X3.1 4 q 7 + 1)) (wI M3 47 0 q (M3.1 47 0 q + 1)) := by
            refine call_fin h v1 gx gm h06 h30 h42 (fun a' b' d' z => wI_o _ _ _ _ _ _ _ _ (fun y => z ⟨y.1, y.2.2⟩)) (by rw [wI_2]) (fun a' b' d' z => wI_o _ _ _ _ _ _ _ _ (fun y => z y.1)) (by rw [wI_2]) (fun q' hq' => ?_)
            by_cases hqq : q' = q
            · subst hqq
              rw [wI_rd, wI_rd, x47, m47, n2, n3, nI_1]
              exact ⟨cn + 1, by omega, rfl, rfl⟩
            · rw [wI_o _ _ _ _ _ _ _ _ (fun z => hqq z.2.1), wI_o _ _ _ _ _ _ _ _ (fun z => hqq z.2.2)]
              exact hc0 q' hq'
          have hno : RR X3 M3 := call_fin h v1 gx gm h06 h30 h42 (fun _ _ _ _ => rfl) rfl (fun _ _ _ _ => rfl) rfl hc0
          rw [failUp, mFel, ← h99]
          by_cases f1 : X3.1 7 0 9 = 1
          · rw [if_pos f1, if_pos f1, wI_o _ _ _ _ _ _ _ _ (fun z => absurd z.1 (by decide)), wI_o _ _ _ _ _ _ _ _ (fun z => absurd z.1 (by decide)), h99]
            exact ⟨rfl, hup⟩
          · rw [if_neg f1, if_neg f1]
            by_cases f2 : X3.1 7 0 9 = 2
            · rw [if_pos f2, if_pos f2, wI_o _ _ _ _ _ _ _ _ (fun z => absurd z.1 (by decide)), wI_o _ _ _ _ _ _ _ _ (fun z => absurd z.1 (by decide)), h99]
              exact ⟨rfl, hup⟩
            · rw [if_neg f2, if_neg f2, h99]
              exact ⟨rfl, hno⟩
      · rw [if_neg c3, if_neg c3]
        by_cases d1 : s < 1
        · rw [if_pos d1, if_pos d1]; exact ⟨rfl, h⟩
        · have d2 : ¬ s ≤ 1000 := fun z => c3 (e5.mp ⟨d1, z⟩)
          rw [if_neg d1, if_neg d2, if_neg d1, if_neg d2]; exact ⟨rfl, h⟩
    · have c2 : ¬ mIn m 0 (nI k - 1) = true := fun z => c1 (e1.mpr (e2.mp z))
      rw [if_neg c1, if_neg c2, if_neg c1, if_neg c2]
      exact ⟨rfl, h⟩
def S0 : MS := (fun _ _ _ => 0, fun _ _ _ => 0, fun _ _ _ => 0)
theorem RR_0 : RR S0 S0 := by
  refine ⟨⟨0, by decide, rfl, rfl, fun j hj => absurd hj (by omega)⟩, fun i hi => ⟨rfl, fun z => ?_⟩, fun q hq => ⟨⟨0, by decide, rfl⟩, ⟨0, by decide, rfl⟩, ⟨0, by decide, rfl⟩⟩, fun e he => ⟨0, by decide, rfl⟩, Or.inl ⟨rfl, rfl, rfl, rfl, rfl, rfl⟩, rfl, rfl, rfl, Or.inr ⟨rfl, rfl, rfl, rfl, rfl, rfl⟩⟩
  have z : FP.dIsNaN (0 : UInt64) = true := z
  exact absurd z (by decide +kernel)
theorem QT.lt5 {X M : MS} {n : Nat} (h : QT X M n) : (M.1 8 0 1 - 1).toInt < 500 := by
  obtain ⟨h1, -, h2, -⟩ := h
  rw [h2]
  cases n with
  | zero => decide
  | succ n =>
    rw [show nI (n + 1) - 1 = nI n from by rw [show (1 : Int32) = nI 1 from rfl, nI_sub (by omega)]; rfl, nI_toInt (by omega)]
    omega
theorem RR.lk {X M : MS} (h : RR X M) (m : MWr X M) : RR M M := RR.lock (S := X) h m
theorem L_feed {S : MS} (h : RR S S) (w : Int64) (n : Int32) : feedV S w n = mFeedV (feedS S w n) w n ∧ RR (mFeedS (feedS S w n) w n) (mFeedS (feedS S w n) w n) ∧ ∃ s1, (feedS S w n).1 8 0 1 = nI s1 ∧ s1 ≤ 500 := by
  have g := h.pre (feedS_c S w n (CW.rf S))
  obtain ⟨e, r⟩ := J_feed g w n
  obtain ⟨⟨s, hq⟩, -⟩ := id g
  exact ⟨e, r.lk (mFeedS_w _ w n (MWr.rf _)), s, hq.2.2.1, hq.1⟩
theorem L_wipe {S : MS} (h : RR S S) : S.1 1 0 1 = (wI S 1 0 1 0).1 8 0 1 ∧ RR (wI (wI S 1 0 1 0) 8 0 1 0) (wI (wI S 1 0 1 0) 8 0 1 0) := by
  have g := h.pre (S := S) (X' := wI S 1 0 1 0) ((CW.rf S).i (by decide))
  obtain ⟨e, r⟩ := J_wipe g
  exact ⟨e, r.lk ((MWr.rf _).i (Or.inl rfl))⟩
theorem L_alter {S : MS} (h : RR S S) (i m : Int32) : alterV S i m = mAltV (alterS S i m) i m ∧ RR (mAltS (alterS S i m) i m) (mAltS (alterS S i m) i m) ∧ ((alterS S i m).1 8 0 1 - 1).toInt < 500 := by
  have g := h.pre (alterS_c S i m (CW.rf S))
  obtain ⟨e, r⟩ := J_alter g i m
  obtain ⟨⟨s, hq⟩, -⟩ := id g
  exact ⟨e, r.lk (mAltS_w _ i m (MWr.rf _)), hq.lt5⟩
theorem L_at {S : MS} (h : RR S S) (i : Int32) : atV S i = mAtV S i ∧ (S.1 8 0 1 - 1).toInt < 500 := by
  obtain ⟨⟨s, hq⟩, -⟩ := id h
  exact ⟨J_at h i, hq.lt5⟩
theorem L_seal {S : MS} (h : RR S S) : (S.1 1 0 1 = 0 ∧ S.1 8 0 1 = 0) ∨ ∃ k, k + 1 ≤ 500 ∧ S.1 1 0 1 = nI (k + 1) ∧ (wI S 9 0 k (sumTo (S.1 9 0) k &&& 255)).1 8 0 1 = nI (k + 1) ∧ sumTo (S.1 9 0) k &&& 255 = sumTo ((wI S 9 0 k (sumTo (S.1 9 0) k &&& 255)).1 24 0) k &&& 255 ∧ RR (wI (wI S 9 0 k (sumTo (S.1 9 0) k &&& 255)) 24 0 k (sumTo ((wI S 9 0 k (sumTo (S.1 9 0) k &&& 255)).1 24 0) k &&& 255)) (wI (wI S 9 0 k (sumTo (S.1 9 0) k &&& 255)) 24 0 k (sumTo ((wI S 9 0 k (sumTo (S.1 9 0) k &&& 255)).1 24 0) k &&& 255)) := by
  rcases J_seal h with z | ⟨k, k5, x1, m1, e, r⟩
  · exact Or.inl z
  · refine Or.inr ⟨k, k5, x1, by rw [wI_o _ _ _ _ _ _ _ _ (fun z => absurd z.1 (by decide))]; exact m1, ?_, ?_⟩
    · rw [show (wI S 9 0 k (sumTo (S.1 9 0) k &&& 255)).1 24 0 = S.1 24 0 from funext (fun d => wI_o _ _ _ _ _ _ _ _ (fun z => absurd z.1 (by decide)))]
      exact e
    · have hX : (wI S 9 0 k (sumTo (S.1 9 0) k &&& 255)).1 24 0 = S.1 24 0 := funext (fun d => wI_o _ _ _ _ _ _ _ _ (fun z => absurd z.1 (by decide)))
      rw [hX]
      have hm : RR (wI S 9 0 k (sumTo (S.1 9 0) k &&& 255)) (wI (wI S 9 0 k (sumTo (S.1 9 0) k &&& 255)) 24 0 k (sumTo (S.1 24 0) k &&& 255)) := by
        refine r.fr (MWr.rf _) ⟨fun a b d z => ?_, fun a b d z => rfl, rfl⟩
        show (if a = 24 ∧ b = 0 ∧ d = k then _ else (wI S 9 0 k (sumTo (S.1 9 0) k &&& 255)).1 a b d) = (if a = 24 ∧ b = 0 ∧ d = k then _ else S.1 a b d)
        rw [show (wI S 9 0 k (sumTo (S.1 9 0) k &&& 255)).1 a b d = S.1 a b d from wI_o _ _ _ _ _ _ _ _ (fun y => by have := y.1; omega)]
      exact hm.lk ((MWr.rf _).i (Or.inr (by decide)))
theorem L_read {S : MS} (h : RR S S) : ∃ (tk : Nat → Nat) (k k' en : Nat), GR tk k (rd1 S) ∧ MT (mrd0 (rdS tk k S)) ∧ MW (mrd0 (rdS tk k S)) ∧ ((mrd1 (rdS tk k S)).1 8 0 28 = 0 → MB (mrd1 (rdS tk k S)) k' en) ∧ (rdR tk k S).1 = mrdV (rdS tk k S) ∧ RR (mrdS (rdS tk k S)) (mrdS (rdS tk k S)) := by
  obtain ⟨tk, k, hG⟩ := XB.gr h.2.2.1
  have g := h.pre (rdS_c tk k S (CW.rf S))
  obtain ⟨k', en, j1, j2, j3, j4, j5⟩ := J_readG g hG
  exact ⟨tk, k, k', en, hG, j1, j2, j3, j4, j5.lk (mrdS_w _ (MWr.rf _))⟩
theorem L_table {S : MS} (h : RR S S) (i : Int32) (b : Int64) : tableV i = mTabV i ∧ RR (mTabS (xmTab S i (dCanon b)) i b) (mTabS (xmTab S i (dCanon b)) i b) := by
  have g := h.pre (xmTab_c S i (dCanon b) (CW.rf S))
  obtain ⟨e, r⟩ := J_table g i b
  exact ⟨e, r.lk (mTabS_w _ i b (MWr.rf _))⟩
theorem L_call {S : MS} (h : RR S S) (m : Int32) (a b c : Int64) (s : Int32) : ∃ (tk : Nat → Nat) (IX IM : MS → Prop) (n : Nat), (∀ S, IX S → ¬ S.1 7 0 6 ≤ 0 → S.1 7 0 9 = 0 → opPre tk (xmStep S) ∧ IX (xmOp (xmStep S) tk)) ∧ (okG S m = true → asideM S m.toNatClampNeg = false → IX (call0 S m a b c)) ∧ (∀ S, IM S → ¬ S.1 8 0 36 ≤ 0 → S.1 8 0 44 = 0 → StpPre (mInc S) ∧ IM (mStp (mInc S))) ∧ (∀ S, IM S → ¬ S.1 8 0 36 ≤ 0 → ∃ F, F < 8 ∧ S.1 8 0 36 = nI (F + 1)) ∧ (callXS tk S m a b c s).1 8 0 9 = nI n ∧ n ≤ 5 ∧ (∀ q, q < n → ∃ t, t ≤ 3 ∧ (callXS tk S m a b c s).1 31 0 q = nI t) ∧ (∀ q t, q < n → (callXS tk S m a b c s).1 31 0 q = nI t → t ≤ 3 → ¬ (callXS tk S m a b c s).1 47 0 q = 3 → IM (mCs1 (callXS tk S m a b c s) q t a b c)) ∧ callXV tk S m a b c s = mCalV (callXS tk S m a b c s) m a b c s ∧ RR (mCalS (callXS tk S m a b c s) m a b c s) (mCalS (callXS tk S m a b c s) m a b c s) := by
  have htk : ∀ j, j < 5 → S.1 4 j 1 = nI (S.1 4 j 1).toNatClampNeg ∧ (S.1 4 j 1).toNatClampNeg ≤ 3 := fun j hj => by
    obtain ⟨-, -, t, t1, t2⟩ := h.2.2.1 j hj
    rw [t2, nI_c (by omega)]; exact ⟨rfl, t1⟩
  obtain ⟨tk, htkd⟩ : ∃ tk : Nat → Nat, ∀ j, j < 5 → S.1 4 j 1 = nI (tk j) ∧ tk j ≤ 3 := ⟨fun j => (S.1 4 j 1).toNatClampNeg, htk⟩
  obtain ⟨IX, -, -, i1, i2, -⟩ := J_callG h htkd m a b c s
  have g := h.pre (callXS_c tk S m a b c s (CW.rf S))
  obtain ⟨-, IM, n, -, -, i3, i4, i5, i6, i7, i8, i9, i10⟩ := J_callG g htkd m a b c s
  exact ⟨tk, IX, IM, n, i1, i2, i3, i4, i5, i6, i7, i8, i9, i10.lk (mCalS_w _ m a b c s (MWr.rf _))⟩
