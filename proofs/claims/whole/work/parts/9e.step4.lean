/-! the two sides run alike: CALL and give back as STEPs -/
theorem mjEnd_21 (p : Nat) : mjEnd p 21 = p + 2 := by rw [mjEnd, if_pos (by decide)]
theorem VR.z {v : Int64} {i : Int32} {w : UInt64} {c : Nat} (h : c = 0) : VR c v i w := ⟨fun z => by omega, fun z => by omega⟩
theorem J_step21 {X M X2 : MS} {F b d k en q L lc stk mp p g : Nat} {pl st lo : Nat → Nat} {f : Int32} {tk : Nat → Nat} (hE : EQ X M) (h9 : X.1 7 0 9 = 0) (hS : ST X M k en) (hT : TB X M) (hF : Fr1 X M k F q p b) (hTP : TP X M F b d st lo) (hL : X.1 4 q 5 = nI L ∧ L ≤ 48) (hpL : p < L) (hR : Frs X M k F b q) (hTGs : ∀ g, g < k → ∃ t gg, TG X M g t gg) (hOp : OpS X M k en q L lc stk mp pl p 21 g d st lo) (hfl : Fl X M q L (mjEnd p 21) (afD M 21 g d st lo) (afS M 21 g d st lo) (afL 21 g d st lo)) (hs6 : stk ≤ 6) (hX2 : X2 = wI (wI X 7 0 8 (nI p)) 22 0 F (nI (mjEnd p 21))) (hf : f = nI g) (htk : tk g = tkN M g) : Run (xK X2 (nI 21) f tk) (if F = 7 then mFailS M 4 7 else mClS M F (d - tkN M g) (tkN M g) g) k en ∧ FX X (xK X2 (nI 21) f tk) ∧ FM M (if F = 7 then mFailS M 4 7 else mClS M F (d - tkN M g) (tkN M g) g) := by
  have ox := X2_ox X F b (nI p) (nI (mjEnd p 21))
  have tp := X2_tp (v := nI p) (u := nI (mjEnd p 21)) hTP
  rw [← hX2] at ox tp
  have h22 : X2.1 22 0 F = nI (mjEnd p 21) := by rw [hX2, wI_rd]
  have h8 : X2.1 7 0 8 = nI p := by rw [hX2, wI_o _ _ _ _ _ _ _ _ (fun z => absurd z.1 (by decide)), wI_rd]
  have x27 : ∀ d', d' ≠ 7 → d' ≠ 8 → X2.1 7 0 d' = X.1 7 0 d' := fun d' h1 h2 => ox.1 7 0 d' (fun z => by have := z.2.2; omega) (fun z => absurd z.1 (by decide))
  have x2l : X2.2.1 = X.2.1 := by rw [hX2, wI_2, wI_2]
  have hg : g < k := hOp.2.2.2.2.2.2.1.2.2.2.1 rfl
  have hk5 := hS.1.2.1
  obtain ⟨t, gg, hTG⟩ := hTGs g hg
  obtain ⟨n1, n2⟩ := hTG.n
  rw [n1] at htk ⊢
  have hN : opN M 21 g = t := by rw [opN, if_pos rfl, n1]
  have hn := hOp.2.2.2.2.2.2.2.1
  have hok := hOp.2.2.2.2.2.2.2.2.1
  have hp := hOp.2.2.2.2.2.2.2.2.2.1
  rw [hN] at hn
  obtain ⟨e, rfl⟩ : ∃ e, d = e + t := ⟨d - t, by omega⟩
  have hP : opP M 21 g (e + t) st lo = gg := by rw [opP, if_neg (by decide), if_neg (by decide), if_pos rfl, n2]
  have hA : afN M 21 g = t := by rw [afN, if_neg (by decide), hN]
  have hgg := hTG.2.2.2.2.2.1
  obtain ⟨e1, e2⟩ := af_c hP (by omega) hA
  rw [Nat.add_sub_cancel] at e1 e2 ⊢
  rw [e1, e2, afL_n (by decide), mjEnd_21] at hfl
  have he6 : e < 6 := by
    rcases hp with z | z
    · rw [hP] at z; omega
    · rw [hA, Nat.add_sub_cancel] at z; omega
  have ht3 := hTG.2.2.1
  have hd6 := hTP.2.2.2.2.1
  have hb := hTP.2.2.2.1
  have hF8 := hTP.2.2.1
  rw [xK_21, hf, nI_c (by omega), htk]
  by_cases c7 : F = 7
  · subst c7
    rw [if_pos rfl, xmCall, if_neg (by rw [tp.1]; decide)]
    exact Run.fl (p := p) hE hS hT hF8 hTP.1 hTP.2.1 ox.f x27 (by rw [x2l]) h8 ⟨_, h22⟩ (FM.rf M) (fun _ => rfl) rfl hF.2.2.2.2.1 (by decide)
  rw [if_neg c7]
  have hF7 : F < 7 := by omega
  have hg1 : X2.1 4 g 1 = nI t := by
    rw [ox.1 4 g 1 (fun z => absurd z.1 (by decide)) (fun z => absurd z.1 (by decide))]; exact hTG.1
  have h77 : X2.1 7 0 7 = nI (b + e + t) := by rw [tp.2.2.2.2.2.1, Nat.add_assoc]
  obtain ⟨X', hX', x1, x2, x3, x4, x5, x6, x7, x8, x9⟩ := xmCall_N tp.1 hF7 h77 hg1 ht3 (by omega)
  obtain ⟨M', hM', m1, m2, m3, m4, m5, m6, m7, m8, m9, m10, m11, m12⟩ := mClS_N (M := M) (F := F) (e := e) (t := t) (g := g) hF.2.2.2.2.1 hd6 (by omega)
  rw [hX', hM']
  have fx : FX X X' := ox.f.tr ⟨fun c e' d' a1 a2 a3 a4 => x1 c e' d' (fun z => a1 z.1) (fun z => by have := z.1; omega), fun c e' d' _ _ a3 => x2 c e' d' (fun z => a3 z.1)⟩
  have fm : FM M M' := ⟨fun c e' d' a1 a2 a3 a4 a5 => m1 c e' d' (fun z => a5 ⟨z.1, by omega⟩) (fun z => by have := z.1; omega) (fun z => a4 z.1), fun c e' d' _ => by rw [m2], fun c e' d' a1 => m3 c e' d' (fun z => a1 z.1)⟩
  have xk : ∀ d', d' ≠ 6 → d' ≠ 7 → d' ≠ 8 → d' ≠ 13 → X'.1 7 0 d' = X.1 7 0 d' := fun d' a1 a2 a3 a4 => by
    rw [x1 7 0 d' (fun z => by have := z.2; omega) (fun z => by have := z.1; omega)]; exact x27 d' a2 a3
  have mk : ∀ d', d' ≠ 36 → d' ≠ 48 → M'.1 8 0 d' = M.1 8 0 d' := fun d' a1 a2 => m1 8 0 d' (fun z => by have := z.2; omega) (fun z => by have := z.1; omega) (fun z => absurd z.1 (by decide))
  have xl : ∀ a b' d', ¬ (a = 20 ∧ 6 * (F + 1) ≤ d') → X'.2.1 a b' d' = X.2.1 a b' d' := fun a b' d' z => by rw [x2 a b' d' z, x2l]
  obtain ⟨q1, q2, q3, q4, q5, q6⟩ := hE
  obtain ⟨lcg, stkg, Lg, mpg, gqg, plg, l0g, hJg⟩ := hS.2 g hg
  obtain ⟨flo, fl1, fl2⟩ := hTG.tkk
  obtain ⟨-, -, uq⟩ := fl1.uniq hJg.2.1
  have lcl : ∀ l, l < t → l0g l = tkk M g l := fun l hl => by rw [← uq l (by omega)]; exact (fl2 l hl).2.1
  have lc0 : ∀ l, l < 6 → t ≤ l → l0g l = 0 := fun l hl6 hl => by
    obtain ⟨lo', kw', -, z'⟩ := hTG.2.2.2.2.2.2.2
    rw [← (kw'.uniq hJg.2.1).2.2 l hl6]
    exact z' l hl
  have stl : ∀ l, l < t → st (e + l) = l0g l := fun l hl => by
    have h1 := hok.2 (t - 1 - l) (by rw [hN]; omega)
    have h2 : opW M q 21 g (t - 1 - l) = tkk M g l := by rw [opW, if_pos rfl, n1, show t - 1 - (t - 1 - l) = l by omega]
    rw [h2, show e + t - 1 - (t - 1 - l) = e + l by omega] at h1
    have h3 := (fl2 l hl).2.2.1
    rw [lcl l hl]
    exact h1.resolve_left (by omega)
  have hLg : X'.1 4 g 5 = nI Lg ∧ Lg ≤ 48 := ⟨by rw [fx.s.2]; exact hJg.1.2.2.1.2.2.2.2.2.2.2.2.2.1, hJg.1.2.2.1.2.2.2.2.1⟩
  have hv : VS X M F b e st lo := ⟨fun i hi => hTP.vs.1 i (by omega), hTP.vs.2⟩
  refine ⟨⟨⟨?_, ?_, ?_, ?_, ?_, ?_⟩, hS.f fx fm, hT.f fx fm, Or.inr ⟨F + 1, by omega, x3, m4, fun _ => ?_, 0, x7, fun _ => m7⟩⟩, fx, fm⟩
  · rw [xk _ (by decide) (by decide) (by decide) (by decide), mk _ (by decide) (by decide)]; exact q1
  · rw [xk _ (by decide) (by decide) (by decide) (by decide), mk _ (by decide) (by decide)]; exact q2
  · rw [xk _ (by decide) (by decide) (by decide) (by decide), mk _ (by decide) (by decide)]; exact q3
  · rw [xk _ (by decide) (by decide) (by decide) (by decide), mk _ (by decide) (by decide)]; exact q4
  · rw [x5, m5, x27 13 (by decide) (by decide), q5]
    exact deep_eq
  · rw [xl _ _ _ (fun z => absurd z.1 (by decide)), m2]; exact q6
  · refine ⟨g, 0, b + e, 0, fun _ => 0, l0g, Lg, ⟨hg, x6, m6, x7, m7, x8⟩, ⟨x3, m4, by omega, by omega, by decide, x4, m8, fun i hi => absurd hi (by omega), fun l hl => ?_⟩, hLg, hJg.2.2.1.s fx.s fm.s, ⟨q, p + 2, b, e, st, lo, L, ⟨hF.1, ?_, ?_, ?_, m10, ?_⟩, m11, he6, hb, rfl, hv.o (fun i hi => xl _ _ _ (fun z => absurd z.1 (by decide))) (fun l hl => xl _ _ _ (fun z => by have := z.2; omega)) (fun j hj => ⟨m1 53 0 _ (fun z => absurd z.1 (by decide)) (fun z => by have := z.1; omega) (fun z => by have := z.2; omega), m3 54 0 _ (fun z => by have := z.2; omega)⟩) (by omega), ⟨by rw [fx.s.2]; exact hL.1, hL.2⟩, ?_, hR.o fx.s fm.s _ _ _ ?_ ?_⟩⟩
    · by_cases hlt : l < t
      · obtain ⟨d1, d2⟩ := m12 l hlt
        rw [x9 l hlt, d1, d2, ← stl l hlt, x2l, Nat.add_assoc]
        exact (hTP.vs.1 (e + l) (by omega)).2
      · exact VR.z (lc0 l hl (by omega))
    · rw [x1 21 0 F (fun z => absurd z.1 (by decide)) (fun z => by have := z.2; omega), ox.1 21 0 F (fun z => absurd z.1 (by decide)) (fun z => absurd z.1 (by decide))]; exact hF.2.1
    · rw [m9]; exact hF.2.2.1
    · rw [x1 22 0 F (fun z => absurd z.1 (by decide)) (fun z => by have := z.2; omega), h22, mjEnd_21]
    · rw [x1 23 0 F (fun z => absurd z.1 (by decide)) (fun z => by have := z.2; omega), ox.1 23 0 F (fun z => absurd z.1 (by decide)) (fun z => absurd z.1 (by decide))]; exact hF.2.2.2.2.2
    · have : gvN M' g = gg := by rw [gvN, fm.s.2]; exact n2
      rw [this]
      exact hfl.s fx.s fm.s
    · refine ⟨fun c d' h1 h2 => ?_, fun d' hd' => xl _ _ _ (fun z => absurd z.1 (by decide)), fun d' hd' => xl _ _ _ (fun z => by have := z.2; omega)⟩
      rw [x1 c 0 d' (fun z => by have := z.1; omega) (fun z => by have := z.2; omega), ox.1 c 0 d' (fun z => by have := z.1; omega) (fun z => by have := z.2.2; omega)]
    · exact ⟨fun c d' h1 h2 => m1 c 0 d' (fun z => by have := z.1; omega) (fun z => by have := z.2; omega) (fun z => by have := z.1; omega), fun d' hd' => ⟨m1 53 0 d' (fun z => absurd z.1 (by decide)) (fun z => by have := z.1; omega) (fun z => by have := z.2; omega), m3 54 0 d' (fun z => by have := z.2; omega)⟩⟩
theorem VR.res {c : Nat} {v : Int64} {i : Int32} {w : UInt64} (h : VR c v i w) (hc : c = 1 ∨ c = 2) : v = if nI c = 1 then i.toInt64 else mDl w := by
  rcases hc with rfl | rfl
  · rw [if_pos (show nI 1 = 1 from rfl)]; exact h.1 rfl
  · obtain ⟨h1, h2⟩ := h.2 rfl
    rw [if_neg (by decide), mDl]
    by_cases c : FP.dIsNaN w = true
    · rw [if_pos c]
      have e := h2 c
      rw [← h1] at e
      exact congrArg UInt64.toInt64 e
    · rw [if_neg c, ← h1]; rfl
theorem J_step22 {X M X2 : MS} {F b d k en q L lc stk mp gq p g : Nat} {pl l0 st lo : Nat → Nat} {f : Int32} {tk : Nat → Nat} (hE : EQ X M) (h9 : X.1 7 0 9 = 0) (hS : ST X M k en) (hT : TB X M) (hF : Fr1 X M k F q p b) (hTP : TP X M F b d st lo) (hR : Frs X M k F b q) (hJ : RJx X M k en q lc stk L mp gq pl l0) (hOp : OpS X M k en q L lc stk mp pl p 22 g d st lo) (hX2 : X2 = wI (wI X 7 0 8 (nI p)) 22 0 F (nI (mjEnd p 22))) : Run (xK X2 (nI 22) f tk) (if F = 0 then mGv0 M (d - 1) q else mGvN M (F - 1) (d - 1) (M.1 52 0 (F - 1)).toNatClampNeg) k en ∧ FX X (xK X2 (nI 22) f tk) ∧ FM M (if F = 0 then mGv0 M (d - 1) q else mGvN M (F - 1) (d - 1) (M.1 52 0 (F - 1)).toNatClampNeg) := by
  have ox := X2_ox X F b (nI p) (nI (mjEnd p 22))
  have tp := X2_tp (v := nI p) (u := nI (mjEnd p 22)) hTP
  rw [← hX2] at ox tp
  have x27 : ∀ d', d' ≠ 7 → d' ≠ 8 → X2.1 7 0 d' = X.1 7 0 d' := fun d' h1 h2 => ox.1 7 0 d' (fun z => by have := z.2.2; omega) (fun z => absurd z.1 (by decide))
  obtain ⟨-, -, -, -, -, t0, t2⟩ := tabs5
  have hN : opN M 22 g = 1 := (opN_t (by decide)).trans t0
  have hn := hOp.2.2.2.2.2.2.2.1
  have hok := hOp.2.2.2.2.2.2.2.2.1
  rw [hN] at hn
  obtain ⟨e, rfl⟩ : ∃ e, d = e + 1 := ⟨d - 1, by omega⟩
  obtain ⟨hg2, hg3, hg4, hg5⟩ := hJ.1.2.2.2.2.2.1
  have hgv : gvN M q = gq := by rw [gvN, hg3, nI_c (by omega)]
  have k0 := hok.2 0 (by rw [hN]; decide)
  have hW : opW M q 22 g 0 = gq := by rw [opW, if_neg (by decide), if_pos rfl, hgv]
  rw [hW, show e + 1 - 1 - 0 = e by omega] at k0
  have k1 : st e = gq := k0.resolve_left (by omega)
  obtain ⟨p1, p2, p3, p4⟩ := tp.pop
  rw [k1] at p4
  rw [xK_22, Nat.add_sub_cancel]
  have hF8 := hTP.2.2.1
  have gd := nI_guard (i := F) (N := 8) (M := 8) rfl hF8 (by decide)
  have h23 : (xmPopS X2).1 23 0 F = nI b := by
    rw [p2.1 23 0 F (fun z => absurd z.1 (by decide)), ox.1 23 0 F (fun z => absurd z.1 (by decide)) (fun z => absurd z.1 (by decide))]; exact hF.2.2.2.2.2
  have eL : xmLeave1 (xmPopS X2) = wI (wI (xmPopS X2) 7 0 7 (nI b)) 7 0 6 (nI F) := by
    rw [xmLeave1, p1.1, nI_m1, if_neg gd.1, if_neg gd.2, nI_c (by omega), h23]
  obtain ⟨X1, hX1⟩ : ∃ X1, wI (wI (xmPopS X2) 7 0 7 (nI b)) 7 0 6 (nI F) = X1 := ⟨_, rfl⟩
  have y6 : X1.1 7 0 6 = nI F := by rw [← hX1, wI_rd]
  have y7 : X1.1 7 0 7 = nI b := by rw [← hX1, wI_o _ _ _ _ _ _ _ _ (by decide), wI_rd]
  have yo : ∀ a b' d', ¬ (a = 7 ∧ (d' = 6 ∨ d' = 7)) → X1.1 a b' d' = X2.1 a b' d' := fun a b' d' z => by
    rw [← hX1, wI_o _ _ _ _ _ _ _ _ (fun y => z ⟨y.1, by omega⟩), wI_o _ _ _ _ _ _ _ _ (fun y => z ⟨y.1, by omega⟩), p2.1 a b' d' (fun y => z ⟨y.1, by omega⟩)]
  have x2l : X2.2 = X.2 := by rw [hX2]; rfl
  have pl2 : (xmPopS X2).2 = X2.2 := by
    unfold xmPopS
    split
    · rfl
    · split <;> rfl
  have yl : X1.2.1 = X.2.1 := by rw [← hX1, wI_2, wI_2, pl2, x2l]
  have xk : ∀ d', d' ≠ 6 → d' ≠ 7 → d' ≠ 8 → X1.1 7 0 d' = X.1 7 0 d' := fun d' a1 a2 a3 => by
    rw [yo 7 0 d' (fun z => by have := z.2; omega)]; exact x27 d' a2 a3
  have fx1 : FX X X1 := ox.f.tr ⟨fun c e' d' a1 _ _ _ => yo c e' d' (fun z => a1 z.1), fun c e' d' _ _ _ => by rw [yl, x2l]⟩
  obtain ⟨M1, hM1⟩ : ∃ M1, mGv1 M F e = M1 := ⟨_, rfl⟩
  have z36 : M1.1 8 0 36 = nI F := by rw [← hM1, mGv1, wI_rd]
  have zo : ∀ a b' d', ¬ (a = 8 ∧ d' = 36) → ¬ (a = 52 ∧ d' = F) → M1.1 a b' d' = M.1 a b' d' := fun a b' d' z1 z2 => by
    rw [← hM1, mGv1, wI_o _ _ _ _ _ _ _ _ (fun y => z1 ⟨y.1, y.2.2⟩), mPopS, wI_o _ _ _ _ _ _ _ _ (fun y => z2 ⟨y.1, y.2.2⟩)]
  have z2 : M1.2 = M.2 := by rw [← hM1, mGv1, wI_2, mPopS, wI_2]
  have fm1 : FM M M1 := ⟨fun c e' d' _ _ a3 _ a5 => zo c e' d' (fun z => a5 ⟨z.1, Or.inl z.2⟩) (fun z => a3 z.1), fun c e' d' _ => by rw [z2], fun c e' d' _ => by rw [z2]⟩
  obtain ⟨q1, q2, q3, q4, q5, q6⟩ := hE
  cases F with
  | zero =>
    have eX : xmLeave X2 = wL X1 7 0 14 (xmPopV X2) := by rw [xmLeave, eL, hX1, y6, if_pos (show nI 0 = 0 from rfl)]
    have eM : mGv0 M e q = wL M1 8 0 43 (if M.1 33 0 q = 1 then (M.1 53 0 (6 + e)).toInt64 else mDl (M.2.2 54 0 (6 + e))) := by rw [mGv0, hM1]
    rw [if_pos rfl, eX, eM]
    have fx : FX X (wL X1 7 0 14 (xmPopV X2)) := fx1.tr ⟨fun c e' d' _ _ _ _ => by rw [wL_1], fun c e' d' a1 _ _ => wL_o _ _ _ _ _ _ _ _ (fun z => a1 z.1)⟩
    have fm : FM M (wL M1 8 0 43 (if M.1 33 0 q = 1 then (M.1 53 0 (6 + e)).toInt64 else mDl (M.2.2 54 0 (6 + e)))) := fm1.tr ⟨fun c e' d' _ _ _ _ _ => by rw [wL_1], fun c e' d' a1 => wL_o _ _ _ _ _ _ _ _ (fun z => a1 ⟨z.1, z.2.2⟩), fun c e' d' _ => by rw [wL_d]⟩
    refine ⟨⟨⟨?_, ?_, ?_, ?_, ?_, ?_⟩, hS.f fx fm, hT.f fx fm, Or.inl ⟨?_, ?_⟩⟩, fx, fm⟩
    · rw [wL_1, wL_1, xk _ (by decide) (by decide) (by decide), zo _ _ _ (by decide) (by decide)]; exact q1
    · rw [wL_1, wL_1, xk _ (by decide) (by decide) (by decide), zo _ _ _ (by decide) (by decide)]; exact q2
    · rw [wL_1, wL_1, xk _ (by decide) (by decide) (by decide), zo _ _ _ (by decide) (by decide)]; exact q3
    · rw [wL_1, wL_1, xk _ (by decide) (by decide) (by decide), zo _ _ _ (by decide) (by decide)]; exact q4
    · rw [wL_1, wL_1, xk _ (by decide) (by decide) (by decide), zo _ _ _ (by decide) (by decide)]; exact q5
    · rw [wL_rd, wL_rd, hg3]
      have := p4.res (by omega)
      rw [Nat.mul_zero, Nat.zero_add] at this
      exact this
    · rw [wL_1]; exact y6
    · rw [wL_1]; exact z36
  | succ G =>
    obtain ⟨q', p', b', d', st', lo', L', ⟨a1, a2, a3, a4, a5, a6⟩, b1, b2, b3, b4, b5, b6, b7, b8⟩ := hR
    have n0 : ¬ nI (G + 1) = 0 := fun z => by
      have := (nI_eq (a := G + 1) (b := 0) (by omega) (by decide)).mp z
      omega
    have eX : xmLeave X2 = xmPush X1 (xmPopV X2) := by rw [xmLeave, eL, hX1, y6, if_neg n0]
    have eM : mGvN M G e d' = mPushS M1 (M.1 53 0 (12 * (G + 1) + 6 + e)) (M.2.2 54 0 (12 * (G + 1) + 6 + e)) G d' := by rw [mGvN, hM1]
    rw [if_neg (by omega), eX, Nat.add_sub_cancel, b1, nI_c (by omega), eM]
    have tp1 : TP X1 M1 G b' d' st' lo' := by
      refine ⟨y6, z36, by omega, b3, by omega, by rw [y7, b4], ?_, fun i hi => ?_, fun l hl => ?_⟩
      · rw [zo 52 0 G (fun z => absurd z.1 (by decide)) (fun z => by have := z.2; omega)]; exact b1
      · rw [yl, zo 53 0 _ (fun z => absurd z.1 (by decide)) (fun z => absurd z.1 (by decide)), z2]; exact b5.1 i hi
      · rw [yl, zo 53 0 _ (fun z => absurd z.1 (by decide)) (fun z => absurd z.1 (by decide)), z2]; exact b5.2 l hl
    obtain ⟨r1, r2, r3⟩ := tp1.push b2 (show gq = 1 ∨ gq = 2 by omega) p4
    have fx : FX X (xmPush X1 (xmPopV X2)) := fx1.tr r2.x2.f
    have fm : FM M (mPushS M1 (M.1 53 0 (12 * (G + 1) + 6 + e)) (M.2.2 54 0 (12 * (G + 1) + 6 + e)) G d') := fm1.tr r3.f
    have xk2 : ∀ d'', d'' ≠ 6 → d'' ≠ 7 → d'' ≠ 8 → (xmPush X1 (xmPopV X2)).1 7 0 d'' = X.1 7 0 d'' := fun d'' c1 c2 c3 => by
      rw [r2.1 7 0 d'' (fun z => c2 z.2.2)]; exact xk d'' c1 c2 c3
    have mk2 : ∀ d'', d'' ≠ 36 → (mPushS M1 (M.1 53 0 (12 * (G + 1) + 6 + e)) (M.2.2 54 0 (12 * (G + 1) + 6 + e)) G d').1 8 0 d'' = M.1 8 0 d'' := fun d'' c1 => by
      rw [r3.1 8 0 d'' (fun z => absurd z.1 (by decide)) (fun z => absurd z.1 (by decide)), zo 8 0 d'' (fun z => c1 z.2) (fun z => absurd z.1 (by decide))]
    have x20 : ∀ c d'', c = 21 ∨ c = 22 ∨ c = 23 → d'' < G + 1 → (xmPush X1 (xmPopV X2)).1 c 0 d'' = X.1 c 0 d'' := fun c d'' h1 h2 => by
      rw [r2.1 c 0 d'' (fun z => by have := z.1; omega), yo c 0 d'' (fun z => by have := z.1; omega), ox.1 c 0 d'' (fun z => by have := z.1; omega) (fun z => by have := z.2.2; omega)]
    have m50 : ∀ c d'', c = 50 ∨ c = 51 ∨ c = 52 → d'' < G + 1 → ¬ (c = 52 ∧ d'' = G) → (mPushS M1 (M.1 53 0 (12 * (G + 1) + 6 + e)) (M.2.2 54 0 (12 * (G + 1) + 6 + e)) G d').1 c 0 d'' = M.1 c 0 d'' := fun c d'' h1 h2 h3 => by
      rw [r3.1 c 0 d'' h3 (fun z => by have := z.1; omega), zo c 0 d'' (fun z => by have := z.1; omega) (fun z => by have := z.2; omega)]
    refine ⟨⟨⟨?_, ?_, ?_, ?_, ?_, ?_⟩, hS.f fx fm, hT.f fx fm, Or.inr ⟨G, by omega, r1.1, r1.2.1, fun _ => ⟨q', p', b', d' + 1, _, _, L', ⟨a1, ?_, ?_, ?_, ?_, ?_⟩, r1, ⟨?_, b6.2⟩, ?_, b8.o fx.s fm.s _ _ _ ?_ ?_⟩, p', ?_, fun _ => ?_⟩⟩, fx, fm⟩
    · rw [xk2 _ (by decide) (by decide) (by decide), mk2 _ (by decide)]; exact q1
    · rw [xk2 _ (by decide) (by decide) (by decide), mk2 _ (by decide)]; exact q2
    · rw [xk2 _ (by decide) (by decide) (by decide), mk2 _ (by decide)]; exact q3
    · rw [xk2 _ (by decide) (by decide) (by decide), mk2 _ (by decide)]; exact q4
    · rw [xk2 _ (by decide) (by decide) (by decide), mk2 _ (by decide)]; exact q5
    · rw [r2.2 7 0 14 (fun z => absurd z.1 (by decide)) (fun z => absurd z.1 (by decide)), yl, r3.2.1, z2]; exact q6
    · rw [x20 _ _ (Or.inl rfl) (by omega)]; exact a2
    · rw [m50 _ _ (Or.inl rfl) (by omega) (fun z => absurd z.1 (by decide))]; exact a3
    · rw [x20 _ _ (Or.inr (Or.inl rfl)) (by omega)]; exact a4
    · rw [m50 _ _ (Or.inr (Or.inl rfl)) (by omega) (fun z => absurd z.1 (by decide))]; exact a5
    · rw [x20 _ _ (Or.inr (Or.inr rfl)) (by omega)]; exact a6
    · rw [fx.s.2]; exact b6.1
    · rw [hgv] at b7
      exact b7.s fx.s fm.s
    · refine ⟨fun c d'' h1 h2 => x20 c d'' h1 (by omega), fun d'' hd => ?_, fun d'' hd => ?_⟩
      · rw [r2.2 19 0 d'' (fun z => by have := z.2; omega) (fun z => absurd z.1 (by decide)), yl]
      · rw [r2.2 20 0 d'' (fun z => absurd z.1 (by decide)) (fun z => by have := z.2; omega), yl]
    · refine ⟨fun c d'' h1 h2 => m50 c d'' h1 (by omega) (fun z => by have := z.2; omega), fun d'' hd => ⟨?_, ?_⟩⟩
      · rw [r3.1 53 0 d'' (fun z => absurd z.1 (by decide)) (fun z => by have := z.2; omega), zo 53 0 d'' (fun z => absurd z.1 (by decide)) (fun z => absurd z.1 (by decide))]
      · rw [r3.2.2 54 0 d'' (fun z => by have := z.2; omega), z2]
    · rw [x20 _ _ (Or.inr (Or.inl rfl)) (by omega)]; exact a4
    · rw [m50 _ _ (Or.inr (Or.inl rfl)) (by omega) (fun z => absurd z.1 (by decide))]; exact a5
