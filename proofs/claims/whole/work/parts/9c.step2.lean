/-! the two sides run alike: STEPs on one frame -/
theorem X2_tp {X M : MS} {F b d : Nat} {st lo : Nat → Nat} {v u : Int32} (h : TP X M F b d st lo) : TP (wI (wI X 7 0 8 v) 22 0 F u) M F b d st lo := by
  obtain ⟨t1, t2, t3, t4, t5, t6, t7, t8, t9⟩ := h
  refine ⟨?_, t2, t3, t4, t5, ?_, t7, t8, t9⟩
  · rw [wI_o _ _ _ _ _ _ _ _ (fun z => absurd z.1 (by decide)), wI_o _ _ _ _ _ _ _ _ (by decide)]; exact t1
  · rw [wI_o _ _ _ _ _ _ _ _ (fun z => absurd z.1 (by decide)), wI_o _ _ _ _ _ _ _ _ (by decide)]; exact t6
theorem X2_ox (X : MS) (F b : Nat) (v u : Int32) : OX2 X (wI (wI X 7 0 8 v) 22 0 F u) F b := ⟨fun c e d z1 z2 => by rw [wI_o _ _ _ _ _ _ _ _ z2, wI_o _ _ _ _ _ _ _ _ (fun y => z1 ⟨y.1, y.2.1, Or.inr y.2.2⟩)], fun c e d _ _ => by rw [wI_2, wI_2]⟩
theorem OX2.tr {A B C : MS} {F b : Nat} (h : OX2 A B F b) (g : OX2 B C F b) : OX2 A C F b := ⟨fun c e d y z => (g.1 c e d y z).trans (h.1 c e d y z), fun c e d y z => (g.2 c e d y z).trans (h.2 c e d y z)⟩
theorem OX.x2 {A B : MS} {F b : Nat} (h : OX A B F b) : OX2 A B F b := ⟨fun c e d z1 _ => h.1 c e d (fun y => z1 ⟨y.1, y.2.1, Or.inl y.2.2⟩), h.2⟩
theorem go_ox (X : MS) (F b : Nat) (u : Int32) : OX2 X (wI X 22 0 F u) F b := ⟨fun c e d _ z2 => wI_o _ _ _ _ _ _ _ _ z2, fun c e d _ _ => by rw [wI_2]⟩
theorem go_tp {X M : MS} {F b d : Nat} {st lo : Nat → Nat} {u : Int32} (h : TP X M F b d st lo) : TP (wI X 22 0 F u) M F b d st lo := by
  obtain ⟨t1, t2, t3, t4, t5, t6, t7, t8, t9⟩ := h
  refine ⟨?_, t2, t3, t4, t5, ?_, t7, t8, t9⟩
  · rw [wI_o _ _ _ _ _ _ _ _ (fun z => absurd z.1 (by decide))]; exact t1
  · rw [wI_o _ _ _ _ _ _ _ _ (fun z => absurd z.1 (by decide))]; exact t6
theorem xmGo_N {X : MS} {F : Nat} {u : Int32} (h6 : X.1 7 0 6 = nI (F + 1)) (hF8 : F < 8) : xmGo X u = wI X 22 0 F u := by
  have g := nI_guard (N := 8) (M := 8) rfl hF8 (by decide)
  rw [xmGo, h6, nI_m1, if_neg g.1, if_neg g.2, nI_c (by omega)]
theorem mNx0_N {p o : Nat} : mNx0 p (nI o) = nI (mjEnd p o) := by
  unfold mNx0 mjEnd
  split <;> rfl
theorem mNxt_N {M : MS} {F p d o g : Nat} (ho : o < 25) : (o ≠ 19 → o ≠ 20 → mNxt M F p d (nI o) g = nI (mjEnd p o)) ∧ (o = 19 → mNxt M F p d (nI o) g = nI g) ∧ (o = 20 → mNxt M F p d (nI o) g = if M.1 53 0 (12 * F + 6 + (d - 1)) = 0 then nI g else nI (mjEnd p o)) := by
  have c19 : nI o = (19 : Int32) ↔ o = 19 := nI_o ho (by decide)
  have c20 : nI o = (20 : Int32) ↔ o = 20 := nI_o ho (by decide)
  unfold mNxt
  rw [mNx0_N]
  simp only [c19, c20]
  refine ⟨fun h1 h2 => by rw [if_neg h1, if_neg h2], fun h => by rw [if_pos h], fun h => by rw [if_neg (by omega), if_pos h]⟩
theorem FX_7 (X : MS) (d : Nat) (v : Int32) : FX X (wI X 7 0 d v) := ⟨fun c e x a1 _ _ _ => wI_o _ _ _ _ _ _ _ _ (fun z => a1 z.1), fun c e x _ _ _ => by rw [wI_2]⟩
theorem J_stepS (D : DBL) {X M X2 : MS} {F b d k en q L lc stk mp p o g : Nat} {pl st lo : Nat → Nat} {f : Int32} {tk : Nat → Nat} (hE : EQ X M) (h9 : X.1 7 0 9 = 0) (hS : ST X M k en) (hT : TB X M) (hF : Fr1 X M k F q p b) (hTP : TP X M F b d st lo) (hL : X.1 4 q 5 = nI L ∧ L ≤ 48) (hR : Frs X M k F b q) (hOp : OpS X M k en q L lc stk mp pl p o g d st lo) (hKB : KB lc stk d st lo) (hfl : Fl X M q L (mjEnd p o) (afD M o g d st lo) (afS M o g d st lo) (afL o g d st lo)) (hlc : lc ≤ 6) (hs6 : stk ≤ 6) (hX2 : X2 = wI (wI X 7 0 8 (nI p)) 22 0 F (nI (mjEnd p o))) (hf : mHas (nI o) = true → f = nI g) (n19 : o ≠ 19) (n20 : o ≠ 20) (n21 : o ≠ 21) (n22 : o ≠ 22) : Run (xK X2 (nI o) f tk) (mSt2 M (mSt1 M F d (nI o) g) F p d (nI o) g) k en ∧ FX X (xK X2 (nI o) f tk) ∧ FM M (mSt2 M (mSt1 M F d (nI o) g) F p d (nI o) g) := by
  have ox := X2_ox X F b (nI p) (nI (mjEnd p o))
  have tp := X2_tp (v := nI p) (u := nI (mjEnd p o)) hTP
  rw [← hX2] at ox tp
  have fx := ox.f
  have hS2 := hS.f fx (FM.rf M)
  have hRP : RP X2 M en := hS2.1.2.2.2.2.2.1
  have h22 : X2.1 22 0 F = nI (mjEnd p o) := by rw [hX2, wI_rd]
  have h8 : X2.1 7 0 8 = nI p := by rw [hX2, wI_o _ _ _ _ _ _ _ _ (fun z => absurd z.1 (by decide)), wI_rd]
  have m44 : M.1 8 0 44 = 0 := hE.1.symm.trans h9
  have hout := J_simple D (tk := tk) (f := f) tp (hOp.j fx.j (JM.rf M)) hKB hRP hlc hs6 hf (hT.f fx (FM.rf M)) n19 n20 n21 n22
  rcases hout with ⟨s1, s2, s3⟩ | ⟨w, Xa, Ma, w1, w2, w3, w4, w5⟩
  · have hz : (mSt1 M F d (nI o) g).1 8 0 44 = 0 := by
      rw [s3.1 8 0 44 (fun z => absurd z.1 (by decide)) (fun z => absurd z.1 (by decide))]; exact m44
    rw [mSt2, if_pos hz, (mNxt_N hOp.1).1 n19 n20]
    have hp' : (xK X2 (nI o) f tk).1 22 0 F = nI (mjEnd p o) := by
      rw [s2.1 22 0 F (fun z => absurd z.1 (by decide))]; exact h22
    exact Run.nx hE h9 hS hT hF hL hR s1 (ox.tr s2.x2) s3 hp' hfl
  · have hz : ¬ (mSt1 M F d (nI o) g).1 8 0 44 = 0 := by
      rw [w5, mFailS, wI_o _ _ _ _ _ _ _ _ (by decide), wI_rd]; exact w1
    rw [mSt2, if_neg hz, w4, w5]
    have hxa := ox.tr w2.x2
    refine Run.fl (p := p) hE hS hT hTP.2.2.1 hTP.1 hTP.2.1 hxa.f (fun d' h1 h2 => hxa.1 7 0 d' (fun z => by have := z.2.2; omega) (fun z => absurd z.1 (by decide))) (hxa.2 _ _ _ (fun z => absurd z.1 (by decide)) (fun z => absurd z.1 (by decide))) ?_ ⟨mjEnd p o, ?_⟩ w3.f (fun d' => w3.1 8 0 d' (fun z => absurd z.1 (by decide)) (fun z => absurd z.1 (by decide))) (by rw [w3.2.1]) ?_ w1
    · rw [w2.1 7 0 8 (by decide)]; exact h8
    · rw [w2.1 22 0 F (fun z => absurd z.1 (by decide))]; exact h22
    · rw [w3.1 51 0 F (fun z => absurd z.1 (by decide)) (fun z => absurd z.1 (by decide))]; exact hF.2.2.2.2.1
theorem xK_19 (X : MS) (f : Int32) (tk : Nat → Nat) : xK X (nI 19) f tk = xmGo X f := by rw [(xK_v (by decide)).2.2.2.2.1 (by decide) (by decide), xmRest, if_pos (by decide)]
theorem xK_20 (X : MS) (f : Int32) (tk : Nat → Nat) : xK X (nI 20) f tk = if xmPopV X = 0 then xmGo (xmPopS X) f else xmPopS X := by rw [(xK_v (by decide)).2.2.2.2.1 (by decide) (by decide), xmRest, if_neg (by decide), if_pos (by decide)]
theorem tabs5 : tab 0 19 = 0 ∧ tab 2 19 = 0 ∧ tab 0 20 = 1 ∧ tab 1 20 = 1 ∧ tab 2 20 = 0 ∧ tab 0 22 = 1 ∧ tab 2 22 = 0 := by decide +kernel
theorem J_step19 {X M X2 : MS} {F b d k en q L lc stk mp gq p g : Nat} {pl l0 st lo : Nat → Nat} {f : Int32} {tk : Nat → Nat} (hE : EQ X M) (h9 : X.1 7 0 9 = 0) (hS : ST X M k en) (hT : TB X M) (hF : Fr1 X M k F q p b) (hTP : TP X M F b d st lo) (hL : X.1 4 q 5 = nI L ∧ L ≤ 48) (hR : Frs X M k F b q) (hJ : RJx X M k en q lc stk L mp gq pl l0) (hOp : OpS X M k en q L lc stk mp pl p 19 g d st lo) (hX2 : X2 = wI (wI X 7 0 8 (nI p)) 22 0 F (nI (mjEnd p 19))) (hf : f = nI g) : Run (xK X2 (nI 19) f tk) (mSt2 M (mSt1 M F d (nI 19) g) F p d (nI 19) g) k en ∧ FX X (xK X2 (nI 19) f tk) ∧ FM M (mSt2 M (mSt1 M F d (nI 19) g) F p d (nI 19) g) := by
  have ox := X2_ox X F b (nI p) (nI (mjEnd p 19))
  have tp := X2_tp (v := nI p) (u := nI (mjEnd p 19)) hTP
  rw [← hX2] at ox tp
  have m44 : M.1 8 0 44 = 0 := hE.1.symm.trans h9
  obtain ⟨t1, t2, -⟩ := tabs5
  obtain ⟨e1, e2⟩ := af_0 (n := 0) ((opP_t (st := st) (lo := lo) (M := M) (g := g) (d := d) (o := 19) (by decide)).trans t2) ((afN_t (by decide)).trans t1)
  have hj := hJ.jmp hOp (Or.inl rfl)
  rw [e1, e2, afL_n (by decide), Nat.sub_zero] at hj
  rw [xK_19, xmGo_N tp.1 hTP.2.2.1, (mSt1_v (by decide)).2.2.2.2.1 rfl, mSt2, if_pos m44, (mNxt_N (by decide)).2.1 rfl, hf]
  have tp2 : TP X2 M F b d (cut st d) lo := tp.kinds (fun i hi => (cut_at hi).symm) (fun l _ => Or.inr rfl)
  exact Run.nx hE h9 hS hT hF hL hR (go_tp tp2) (ox.tr (go_ox X2 F b _)) (OM.rf M F) (by rw [wI_rd]) hj
theorem J_step20 {X M X2 : MS} {F b d k en q L lc stk mp gq p g : Nat} {pl l0 st lo : Nat → Nat} {f : Int32} {tk : Nat → Nat} (hE : EQ X M) (h9 : X.1 7 0 9 = 0) (hS : ST X M k en) (hT : TB X M) (hF : Fr1 X M k F q p b) (hTP : TP X M F b d st lo) (hL : X.1 4 q 5 = nI L ∧ L ≤ 48) (hR : Frs X M k F b q) (hJ : RJx X M k en q lc stk L mp gq pl l0) (hOp : OpS X M k en q L lc stk mp pl p 20 g d st lo) (hfl : Fl X M q L (mjEnd p 20) (afD M 20 g d st lo) (afS M 20 g d st lo) (afL 20 g d st lo)) (hX2 : X2 = wI (wI X 7 0 8 (nI p)) 22 0 F (nI (mjEnd p 20))) (hf : f = nI g) : Run (xK X2 (nI 20) f tk) (mSt2 M (mSt1 M F d (nI 20) g) F p d (nI 20) g) k en ∧ FX X (xK X2 (nI 20) f tk) ∧ FM M (mSt2 M (mSt1 M F d (nI 20) g) F p d (nI 20) g) := by
  have ox := X2_ox X F b (nI p) (nI (mjEnd p 20))
  have tp := X2_tp (v := nI p) (u := nI (mjEnd p 20)) hTP
  rw [← hX2] at ox tp
  have m44 : M.1 8 0 44 = 0 := hE.1.symm.trans h9
  have h22 : X2.1 22 0 F = nI (mjEnd p 20) := by rw [hX2, wI_rd]
  obtain ⟨-, -, t0, t1, t2, -⟩ := tabs5
  have hN : opN M 20 g = 1 := (opN_t (by decide)).trans t0
  have hn := hOp.2.2.2.2.2.2.2.1
  have hok := hOp.2.2.2.2.2.2.2.2.1
  rw [hN] at hn
  obtain ⟨e, rfl⟩ : ∃ e, d = e + 1 := ⟨d - 1, by omega⟩
  obtain ⟨e1, e2⟩ := af_0 (n := 1) ((opP_t (st := st) (lo := lo) (M := M) (g := g) (d := e + 1) (o := 20) (by decide)).trans t2) ((afN_t (by decide)).trans t0)
  have hj := hJ.jmp hOp (Or.inr rfl)
  rw [e1, e2, afL_n (by decide), Nat.add_sub_cancel] at hj hfl
  have k0 := hok.2 0 (by rw [hN]; decide)
  rw [opW_t (by decide) (by decide), t1] at k0
  have k1 : st e = 1 := by
    have := k0.resolve_left (by decide)
    rw [show e + 1 - 1 - 0 = e by omega] at this
    exact this
  obtain ⟨p1, p2, p3, p4⟩ := tp.pop
  have ey := p4.1 k1
  have z44 : (mPopS M F e).1 8 0 44 = 0 := by
    rw [p3.1 8 0 44 (fun z => absurd z.1 (by decide)) (fun z => absurd z.1 (by decide))]; exact m44
  rw [xK_20, (mSt1_v (by decide)).2.2.2.2.2 rfl, Nat.add_sub_cancel, mSt2, if_pos z44, (mNxt_N (by decide)).2.2 rfl, Nat.add_sub_cancel, ey]
  by_cases c : M.1 53 0 (12 * F + 6 + e) = 0
  · rw [if_pos (i64_z.mpr c), if_pos c, xmGo_N p1.1 hTP.2.2.1, hf]
    exact Run.nx hE h9 hS hT hF hL hR (go_tp p1) ((ox.tr p2.x2).tr (go_ox _ F b _)) p3 (by rw [wI_rd]) hj
  · rw [if_neg (fun z => c (i64_z.mp z)), if_neg c]
    exact Run.nx hE h9 hS hT hF hL hR p1 (ox.tr p2.x2) p3 (by rw [p2.1 22 0 F (fun z => absurd z.1 (by decide))]; exact h22) hfl
