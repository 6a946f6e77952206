/-! the face alike: call, whole -/
theorem call_fin {X M X3 M3 X4 M4 : MS} {k en : Nat} (h : RR X M) (hR : Run X3 M3 k en) (gx : GX X X3) (gm : GM M M3) (h06 : X3.1 0 0 6 = X.1 0 0 6 + 1) (h30 : M3.1 8 0 30 = M.1 8 0 30 + 1) (h42 : M3.1 8 0 42 = 1) (x4 : ∀ a b d, ¬ (a = 4 ∧ d = 7) → X4.1 a b d = X3.1 a b d) (x4l : X4.2 = X3.2) (m4 : ∀ a b d, a ≠ 47 → M4.1 a b d = M3.1 a b d) (m4l : M4.2 = M3.2) (hc : ∀ q, q < k → ∃ c, c ≤ 3 ∧ X4.1 4 q 7 = nI c ∧ M4.1 47 0 q = nI c) : RR X4 M4 := by
  obtain ⟨⟨n, hq⟩, hT, hX, hW, hD, hf, hcs, hL, ht⟩ := h
  obtain ⟨hE, hS3, hT3, -⟩ := hR
  have gx' : ∀ c e d, c ≠ 7 → c ≠ 21 → c ≠ 22 → c ≠ 23 → c ≠ 0 ∨ d ≠ 6 → ¬ (c = 4 ∧ d = 7) → X4.1 c e d = X.1 c e d := fun c e d a1 a2 a3 a4 a5 a6 => (x4 c e d a6).trans (gx.1 c e d a1 a2 a3 a4 (fun z => by have := z.1; have := z.2.2; omega))
  have gm' : ∀ c e d, c < 50 → c ≠ 47 → ¬ (c = 8 ∧ (d = 30 ∨ 36 ≤ d)) → M4.1 c e d = M.1 c e d := fun c e d a1 a2 a3 => (m4 c e d a2).trans (gm.1 c e d (by omega) (by omega) (by omega) (by omega) (fun z => a3 ⟨z.1, by have := z.2; omega⟩))
  have hS4 : ST X4 M4 k en := hS3.g ⟨fun b c d _ hk => x4 b c d (fun z => hk.2.2 z.1 z.2), fun d => by rw [x4l]⟩ (fun q d => x4 17 q d (fun z => absurd z.1 (by decide))) ⟨fun b c d hn => m4 b c d (by have := hn.2; omega), fun d => by rw [m4l]⟩ (fun b d h1 h2 => m4 b 0 d (by omega))
  have x7 : ∀ d, X4.1 7 0 d = X3.1 7 0 d := fun d => x4 7 0 d (fun z => absurd z.1 (by decide))
  have m8 : ∀ d, M4.1 8 0 d = M3.1 8 0 d := fun d => m4 8 0 d (by decide)
  have hE4 : EQ X4 M4 := by
    unfold EQ
    rw [x7, x7, x7, x7, x7, m8, m8, m8, m8, m8, x4l, m4l]
    exact hE
  refine ⟨⟨n, hq.same ?_ ?_ (fun j => ?_) (fun j => ?_)⟩, hT3.o (fun d => by rw [x4l]) (fun d => by rw [m4l]), fun q hq5 => ?_, fun e he => ?_, Or.inr ⟨k, en, hS4.1, hS4.2, hc⟩, ?_, ?_, hE4.2.2.2.2.2, Or.inl ⟨by rw [m8]; exact h42, hE4⟩⟩
  · exact gx' 1 0 1 (by decide) (by decide) (by decide) (by decide) (by decide) (by decide)
  · exact gm' 8 0 1 (by decide) (by decide) (by decide)
  · exact gx' 9 0 j (by decide) (by decide) (by decide) (by decide) (Or.inl (by decide)) (fun z => absurd z.1 (by decide))
  · exact gm' 24 0 j (by decide) (by decide) (fun z => absurd z.1 (by decide))
  · exact (hX q hq5).same (gx' 4 q 1 (by decide) (by decide) (by decide) (by decide) (by decide) (by decide)) (gx' 4 q 5 (by decide) (by decide) (by decide) (by decide) (by decide) (by decide)) (gx' 4 q 6 (by decide) (by decide) (by decide) (by decide) (by decide) (by decide))
  · obtain ⟨w, w1, w2⟩ := hW e he
    exact ⟨w, w1, (gm' 28 0 e (by decide) (by decide) (fun z => absurd z.1 (by decide))).trans w2⟩
  · rw [gx' 0 0 5 (by decide) (by decide) (by decide) (by decide) (by decide) (by decide), gm' 8 0 28 (by decide) (by decide) (by decide)]; exact hf
  · rw [x4 0 0 6 (by decide), m8, h06, h30, hcs]
theorem J_callF {X M : MS} (h : RR X M) (m : Int32) (a b c : Int64) (s : Int32) : ∃ (tk : Nat → Nat) (IX IM : MS → Prop) (n : Nat), (∀ S, IX S → ¬ S.1 7 0 6 ≤ 0 → S.1 7 0 9 = 0 → opPre tk (xmStep S) ∧ IX (xmOp (xmStep S) tk)) ∧ (okG X m = true → asideM X m.toNatClampNeg = false → IX (call0 X m a b c)) ∧ (∀ S, IM S → ¬ S.1 8 0 36 ≤ 0 → S.1 8 0 44 = 0 → StpPre (mInc S) ∧ IM (mStp (mInc S))) ∧ (∀ S, IM S → ¬ S.1 8 0 36 ≤ 0 → ∃ F, F < 8 ∧ S.1 8 0 36 = nI (F + 1)) ∧ M.1 8 0 9 = nI n ∧ n ≤ 5 ∧ (∀ q, q < n → ∃ t, t ≤ 3 ∧ M.1 31 0 q = nI t) ∧ (∀ q t, q < n → M.1 31 0 q = nI t → t ≤ 3 → ¬ M.1 47 0 q = 3 → IM (mCs1 M q t a b c)) ∧ callXV tk X m a b c s = mCalV M m a b c s ∧ RR (callXS tk X m a b c s) (mCalS M m a b c s) := by
  obtain ⟨k, en, k5, en16, x23, m9, x33, m4, xv, hA, hP⟩ := h.2.2.2.2.1.k
  have hXB := h.2.2.1
  have htk : ∀ j, j < 5 → X.1 4 j 1 = nI (X.1 4 j 1).toNatClampNeg ∧ (X.1 4 j 1).toNatClampNeg ≤ 3 := fun j hj => by
    obtain ⟨-, -, t, t1, t2⟩ := hXB j hj
    rw [t2, nI_c (by omega)]; exact ⟨rfl, t1⟩
  obtain ⟨tk, htkd⟩ : ∃ tk : Nat → Nat, ∀ j, j < 5 → X.1 4 j 1 = nI (tk j) ∧ tk j ≤ 3 := ⟨fun j => (X.1 4 j 1).toNatClampNeg, htk⟩
  refine ⟨tk, fun S => ∃ N k en, Run S N k en ∧ ∀ j, j < 5 → S.1 4 j 1 = nI (tk j) ∧ tk j ≤ 3, fun S => ∃ Y k en, Run Y S k en ∧ ∀ j, j < 5 → Y.1 4 j 1 = nI (tk j) ∧ tk j ≤ 3, k, ?_, ?_, ?_, ?_, m9, k5, ?_, ?_, ?_⟩
  · rintro S ⟨N, k', en', hR, ht⟩ h6 h9
    obtain ⟨s1, s2, s3, s4, s5⟩ := hR.step ht h6 h9
    exact ⟨s1, _, k', en', s3, fun j hj => by rw [s4.1 4 j 1 (by decide) (by decide) (by decide) (by decide)]; exact ht j hj⟩
  · intro hok _
    obtain ⟨q, hq, rfl⟩ := (okG_iff x23 k5).mp hok
    obtain ⟨hS, -⟩ := ST.of (en' := 0) hA hq
    obtain ⟨t, gg, hTG⟩ := hS.1.tgs q hq
    obtain ⟨r1, r2, r3, -⟩ := J_begin hS h.2.1 hq hTG.2.1 hTG.2.2.1 a b c
    exact ⟨_, k, en, r1, fun j hj => by rw [r2.1 4 j 1 (by decide) (by decide) (by decide) (by decide) (fun z => absurd z.1 (by decide))]; exact htkd j hj⟩
  · rintro S ⟨Y, k', en', hR, ht⟩ h6 h9
    obtain ⟨p1, p2, -⟩ := hR.pos
    obtain ⟨s1, s2, s3, s4, s5⟩ := hR.step ht (fun z => h6 (p1.mp z)) (p2.mpr h9)
    exact ⟨s2, _, k', en', s3, fun j hj => by rw [s4.1 4 j 1 (by decide) (by decide) (by decide) (by decide)]; exact ht j hj⟩
  · rintro S ⟨Y, k', en', hR, ht⟩ h6
    exact hR.pos.2.2 h6
  · intro q hq
    obtain ⟨hS, -⟩ := ST.of (en' := 0) hA hq
    obtain ⟨t, gg, hTG⟩ := hS.1.tgs q hq
    exact ⟨t, hTG.2.2.1, hTG.2.1⟩
  · intro q t hq h31 ht3 _
    obtain ⟨hS, -⟩ := ST.of (en' := 0) hA hq
    obtain ⟨r1, r2, r3, -⟩ := J_begin hS h.2.1 hq h31 ht3 a b c
    exact ⟨_, k, en, r1, fun j hj => by rw [r2.1 4 j 1 (by decide) (by decide) (by decide) (by decide) (fun z => absurd z.1 (by decide))]; exact htkd j hj⟩
  · have e1 := okG_iff (v := m) x23 k5
    have e2 := mIn_iff (v := m) (n := k) (by omega)
    have e5 : (¬ s < 1 ∧ s ≤ 1000) ↔ mIn s 1 1000 = true := by
      rw [mIn, Bool.and_eq_true, decide_eq_true_eq, decide_eq_true_eq, Int32.not_lt (a := 1000)]
    rw [callXV, mCalV, callXS, mCalS, m9]
    by_cases c1 : okG X m = true
    · have c2 := e2.mpr (e1.mp c1)
      obtain ⟨q, hq, rfl⟩ := e1.mp c1
      obtain ⟨hS, cn, n1, n2, n3⟩ := ST.of (en' := 0) hA hq
      rw [if_pos c1, if_pos c2, if_pos c1, if_pos c2, nI_c (by omega)]
      by_cases c3 : mIn s 1 1000 = true
      · obtain ⟨d1, d2⟩ := e5.mpr c3
        rw [if_neg d1, if_pos d2, if_pos c3, if_neg d1, if_pos d2, if_pos c3, aside_eq n1 n2 n3]
        by_cases c4 : M.1 47 0 q = 3
        · rw [if_pos (decide_eq_true c4), if_pos c4, if_pos (decide_eq_true c4), if_pos c4]
          exact ⟨rfl, h⟩
        · rw [if_neg (fun z => c4 (decide_eq_true_eq.mp z)), if_neg c4, if_neg (fun z => c4 (decide_eq_true_eq.mp z)), if_neg c4]
          obtain ⟨t, gg, hTG⟩ := hS.1.tgs q hq
          have ht := hTG.2.1
          have ht3 := hTG.2.2.1
          rw [ht, nI_c (by omega)]
          obtain ⟨r1, r2, r3, r4, r5, r6⟩ := J_begin hS h.2.1 hq ht ht3 a b c
          have htk1 : ∀ j, j < 5 → (call0 X (nI q) a b c).1 4 j 1 = nI (tk j) ∧ tk j ≤ 3 := fun j hj => by
            rw [r2.1 4 j 1 (by decide) (by decide) (by decide) (by decide) (fun z => absurd z.1 (by decide))]; exact htkd j hj
          obtain ⟨u1, u2, u3⟩ := J_run s.toNatClampNeg _ _ r1 htk1
          obtain ⟨v1, v2, v3⟩ := J_runEnd u1
          have fx := u2.tr v2
          have fm := u3.tr v3
          have eX : call1 tk X (nI q) a b c s.toNatClampNeg = xmRunEnd (runGo tk s.toNatClampNeg (call0 X (nI q) a b c)) := rfl
          have eM : mCs2 M q t a b c s.toNatClampNeg = mRunEnd (mrnGo s.toNatClampNeg (mCs1 M q t a b c)) := rfl
          rw [eX, eM]
          generalize xmRunEnd (runGo tk s.toNatClampNeg (call0 X (nI q) a b c)) = X3 at *
          generalize mRunEnd (mrnGo s.toNatClampNeg (mCs1 M q t a b c)) = M3 at *
          have gx : GX X X3 := r2.f fx
          have gm : GM M M3 := r3.f fm
          have h06 : X3.1 0 0 6 = X.1 0 0 6 + 1 := by rw [fx.1 0 0 6 (by decide) (by decide) (by decide) (by decide)]; exact r4
          have h30 : M3.1 8 0 30 = M.1 8 0 30 + 1 := by rw [fm.1 8 0 30 (by decide) (by decide) (by decide) (by decide) (by decide)]; exact r5
          have h42 : M3.1 8 0 42 = 1 := by rw [fm.1 8 0 42 (by decide) (by decide) (by decide) (by decide) (by decide)]; exact r6
          have h99 := v1.1.1
          have x47 : ∀ q', X3.1 4 q' 7 = X.1 4 q' 7 := fun q' => gx.1 4 q' 7 (by decide) (by decide) (by decide) (by decide) (fun z => absurd z.1 (by decide))
          have m47 : ∀ q', M3.1 47 0 q' = M.1 47 0 q' := fun q' => gm.1 47 0 q' (by decide) (by decide) (by decide) (by decide) (fun z => absurd z.1 (by decide))
          have hc0 : ∀ q', q' < k → ∃ c, c ≤ 3 ∧ X3.1 4 q' 7 = nI c ∧ M3.1 47 0 q' = nI c := fun q' hq' => by
            obtain ⟨-, c', z1, z2, z3⟩ := ST.of (en' := 0) hA hq'
            exact ⟨c', z1, (x47 q').trans z2, (m47 q').trans z3⟩
          have cn3 : cn < 3 := by
            have : cn ≠ 3 := fun z => c4 (by rw [n3, z]; rfl)
            omega
          have hup : RR (wI X3 4 q 7 (X3.1 4 q 7 + 1)) (wI M3 47 0 q (M3.1 47 0 q + 1)) := by
            refine call_fin h v1 gx gm h06 h30 h42 (fun a' b' d' z => wI_o _ _ _ _ _ _ _ _ (fun y => z ⟨y.1, y.2.2⟩)) (by rw [wI_2]) (fun a' b' d' z => wI_o _ _ _ _ _ _ _ _ (fun y => z y.1)) (by rw [wI_2]) (fun q' hq' => ?_)
            by_cases hqq : q' = q
            · subst hqq
              rw [wI_rd, wI_rd, x47, m47, n2, n3, nI_1]
              exact ⟨cn + 1, by omega, rfl, rfl⟩
            · rw [wI_o _ _ _ _ _ _ _ _ (fun z => hqq z.2.1), wI_o _ _ _ _ _ _ _ _ (fun z => hqq z.2.2)]
              exact hc0 q' hq'
          have hno : RR X3 M3 := call_fin h v1 gx gm h06 h30 h42 (fun _ _ _ _ => rfl) rfl (fun _ _ _ _ => rfl) rfl hc0
          rw [failUp, mFel, ← h99]
          by_cases f1 : X3.1 7 0 9 = 1
          · rw [if_pos f1, if_pos f1, wI_o _ _ _ _ _ _ _ _ (fun z => absurd z.1 (by decide)), wI_o _ _ _ _ _ _ _ _ (fun z => absurd z.1 (by decide)), h99]
            exact ⟨rfl, hup⟩
          · rw [if_neg f1, if_neg f1]
            by_cases f2 : X3.1 7 0 9 = 2
            · rw [if_pos f2, if_pos f2, wI_o _ _ _ _ _ _ _ _ (fun z => absurd z.1 (by decide)), wI_o _ _ _ _ _ _ _ _ (fun z => absurd z.1 (by decide)), h99]
              exact ⟨rfl, hup⟩
            · rw [if_neg f2, if_neg f2, h99]
              exact ⟨rfl, hno⟩
      · rw [if_neg c3, if_neg c3]
        by_cases d1 : s < 1
        · rw [if_pos d1, if_pos d1]; exact ⟨rfl, h⟩
        · have d2 : ¬ s ≤ 1000 := fun z => c3 (e5.mp ⟨d1, z⟩)
          rw [if_neg d1, if_neg d2, if_neg d1, if_neg d2]; exact ⟨rfl, h⟩
    · have c2 : ¬ mIn m 0 (nI k - 1) = true := fun z => c1 (e1.mpr (e2.mp z))
      rw [if_neg c1, if_neg c2, if_neg c1, if_neg c2]
      exact ⟨rfl, h⟩
