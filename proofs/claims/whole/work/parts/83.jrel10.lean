/-! the two sides judge alike: the OPs of a METHOD -/
/-- frames of a METHOD's judgement -/
def XQ (X X' : MS) (q : Nat) : Prop := JX X X' ∧ ∀ c d, c ≠ q → X'.1 17 c d = X.1 17 c d
def MJQ (M M' : MS) (q : Nat) : Prop := JM M M' ∧ ∀ a, a < 48 * q ∨ 48 * q + 48 ≤ a → M'.1 43 0 a = M.1 43 0 a ∧ M'.1 44 0 a = M.1 44 0 a ∧ ∀ i, i < 6 → M'.1 45 0 (6 * a + i) = M.1 45 0 (6 * a + i) ∧ M'.1 46 0 (6 * a + i) = M.1 46 0 (6 * a + i)
theorem XQ.rf (X : MS) (q : Nat) : XQ X X q := ⟨JX.rf X, fun _ _ _ => rfl⟩
theorem MJQ.rf (M : MS) (q : Nat) : MJQ M M q := ⟨JM.rf M, fun _ _ => ⟨rfl, rfl, fun _ _ => ⟨rfl, rfl⟩⟩⟩
theorem XQ.tr {A B C : MS} {q : Nat} (h : XQ A B q) (g : XQ B C q) : XQ A C q := ⟨h.1.tr g.1, fun c d z => (g.2 c d z).trans (h.2 c d z)⟩
theorem MJQ.tr {A B C : MS} {q : Nat} (h : MJQ A B q) (g : MJQ B C q) : MJQ A C q := ⟨h.1.tr g.1, fun a z => by
  obtain ⟨a1, a2, a3⟩ := h.2 a z
  obtain ⟨b1, b2, b3⟩ := g.2 a z
  exact ⟨b1.trans a1, b2.trans a2, fun i hi => ⟨(b3 i hi).1.trans (a3 i hi).1, (b3 i hi).2.trans (a3 i hi).2⟩⟩⟩
theorem XF.q {X X' : MS} {q p : Nat} (h : XF X X' q p) : XQ X X' q := ⟨h.1, fun c d z => h.2 c d (fun y => z y.1)⟩
theorem MF1.q {M M' : MS} {q p : Nat} (h : MF1 M M' (48 * q + p)) (hp : p < 48) : MJQ M M' q := ⟨h.1, fun a z => ⟨(h.2.1 a (by omega)).1, (h.2.1 a (by omega)).2, fun i hi => h.2.2 _ (by omega)⟩⟩
theorem JN.q {M M' : MS} (h : JN M M') (q : Nat) : MJQ M M' q := ⟨h.jm, fun a _ => ⟨h.1 _ _ _ ⟨by decide, by decide, fun z => absurd z (by decide)⟩, h.1 _ _ _ ⟨by decide, by decide, fun z => absurd z (by decide)⟩, fun i _ => ⟨h.1 _ _ _ ⟨by decide, by decide, fun z => absurd z (by decide)⟩, h.1 _ _ _ ⟨by decide, by decide, fun z => absurd z (by decide)⟩⟩⟩⟩
theorem wJ6 (X : MS) (q d : Nat) (v : Int32) : XQ X (wI X 6 0 d v) q := ⟨⟨fun b c d h6 _ => wI_o _ _ _ _ _ _ _ _ (fun z => h6 z.1), fun d => by rw [wI_2]⟩, fun c d _ => wI_o _ _ _ _ _ _ _ _ (fun z => absurd z.1 (by decide))⟩
/-- kinds that flow to a place: it is judged with kinds they fit, or it is the place at hand -/
def Flow (X M : MS) (q p : Nat) (h : Bool) (d : Nat) (st lo : Nat → Nat) (e d2 : Nat) (s2 l2 : Nat → Nat) : Prop := (e = p ∧ h = true ∧ d2 = d ∧ s2 = st ∧ l2 = lo) ∨ (e < p ∧ ∃ d3 s3 l3, JK X M q e d3 s3 l3 ∧ FitK d2 s2 l2 d3 s3 l3)
/-- a place judged, and sound -/
def Jdg (X M : MS) (k en q L lc stk mp : Nat) (pl : Nat → Nat) (F : Nat → Nat → (Nat → Nat) → (Nat → Nat) → Prop) (p' : Nat) : Prop := ∃ o g d1 s1 l1, M.1 37 0 (48 * q + p') = nI o ∧ OpS X M k en q L lc stk mp pl p' o g d1 s1 l1 ∧ JK X M q p' d1 s1 l1 ∧ KB lc stk d1 s1 l1 ∧ (∀ j, j < mp → pl j = p' → MK X M q lc stk j d1 s1 l1) ∧ (o ≠ 19 → o ≠ 22 → F (mjEnd p' o) (afD M o g d1 s1 l1) (afS M o g d1 s1 l1) (afL o g d1 s1 l1))
def NoJ (X M : MS) (q p' : Nat) : Prop := X.1 17 q p' = -1 ∧ M.1 43 0 (48 * q + p') = 0
theorem FitK.rf (d : Nat) (st lo : Nat → Nat) : FitK d st lo d st lo := ⟨rfl, fun _ _ => rfl, fun _ _ => Or.inr rfl⟩
theorem FitK.tr {d d' d2 : Nat} {st lo st' lo' s2 l2 : Nat → Nat} (h : FitK d st lo d' st' lo') (g : FitK d' st' lo' d2 s2 l2) : FitK d st lo d2 s2 l2 := ⟨h.1.trans g.1, fun i hi => (h.2.1 i hi).trans (g.2.1 i hi), fun l hl => by
  rcases g.2.2 l hl with z | z
  · exact Or.inl z
  · rcases h.2.2 l hl with y | y
    · exact Or.inl (z.trans y)
    · exact Or.inr (z.trans y)⟩
theorem JK.at {X M X' M' : MS} {q p p' d : Nat} {st lo : Nat → Nat} (h : JK X M q p' d st lo) (x : XF X X' q p) (m : MF1 M M' (48 * q + p)) (hne : p' ≠ p) : JK X' M' q p' d st lo :=
  h.same (x.2 _ _ (fun z => hne z.2)) (m.2.1 _ (by omega)).1 (m.2.1 _ (by omega)).2 (fun i hi => m.2.2 _ (by omega))
/-- the flow behind an OP -/
theorem Flow.next {X M X' M' : MS} {q p : Nat} {h h' : Bool} {d d' d1 e d2 p2 : Nat} {st lo st' lo' s1 l1 s2 l2 : Nat → Nat} (f : Flow X M q p h d st lo e d2 s2 l2) (x : XF X X' q p) (m : MF1 M M' (48 * q + p)) (hk : JK X' M' q p d1 s1 l1) (hfit : h = true → FitK d st lo d1 s1 l1) (hp2 : p < p2) : Flow X' M' q p2 h' d' st' lo' e d2 s2 l2 := by
  right
  rcases f with ⟨a1, a2, a3, a4, a5⟩ | ⟨a1, d3, s3, l3, a2, a3⟩
  · subst a1 a3 a4 a5
    exact ⟨hp2, d1, s1, l1, hk, hfit a2⟩
  · exact ⟨by omega, d3, s3, l3, a2.at x m (by omega), a3⟩
theorem mjEnd_gt (p o : Nat) : p < mjEnd p o ∧ mjEnd p o ≤ p + 2 := by unfold mjEnd; split <;> omega
/-- the judgement's invariant at a place -/
def JI (X M : MS) (k en q lc stk L mp gq : Nat) (pl : Nat → Nat) (p d : Nat) (st lo : Nat → Nat) (h : Bool) (l0 : Nat → Nat) : Prop :=
  Ctx X M k en q lc stk L mp gq pl ∧ KR X M lc stk d st lo ∧ X.1 6 0 2 = bI h ∧ M.1 8 0 32 = bI h ∧ M.1 8 0 28 = 0 ∧ p ≤ L ∧
  Flow X M q p h d st lo 0 0 (fun _ => 0) l0 ∧ ∀ p', p' < 48 → NoJ X M q p' ∨ (p' < p ∧ Jdg X M k en q L lc stk mp pl (Flow X M q p h d st lo) p')
theorem JI.next {X M X' M' : MS} {k en q lc stk L mp gq p d o : Nat} {pl st lo l0 : Nat → Nat} {h : Bool} {v : Int32} (hI : JI X M k en q lc stk L mp gq pl p d st lo h l0) (ho : M.1 37 0 (48 * q + p) = nI o) (hpL : p < L) (hJ : JOut X M k en q L lc stk mp pl p o d st lo h v X' M') (hv : v = 0) : ∃ d' st' lo' h', JI X' M' k en q lc stk L mp gq pl (mjEnd p o) d' st' lo' h' l0 := by
  obtain ⟨hC, hK, hx, hm, h28, hpl, hF0, hall⟩ := hI
  obtain ⟨b1, hx, hmf, hb⟩ := hJ
  rcases hb with ⟨w, w1, w2, -⟩ | ⟨-, g28, g, d1, s1, l1, hO, hJK, hKB, hKR, hx2, hm2, hfit, hmap⟩
  · exact absurd (w2.symm.trans hv) w1
  refine ⟨_, _, _, opGoes (nI o), hC.j hx.1 hmf.1, hKR, hx2, hm2, g28, hO.2.1, hF0.next hx hmf hJK hfit (mjEnd_gt p o).1, fun p' hp' => ?_⟩
  have hend := mjEnd_gt p o
  have hinj : ∀ j j', j < mp → j' < mp → pl j = pl j' → j = j' := fun j j' a b c => by
    have h5 := hC.2.2.2.1.2.2.2.2
    rcases Nat.lt_trichotomy j j' with z | z | z
    · have := h5 j j' z b; omega
    · exact z
    · have := h5 j' j z a; omega
  by_cases hpp : p' = p
  · subst hpp
    right
    refine ⟨hend.1, o, g, d1, s1, l1, (hmf.1.1 _ _ _ (NR_b (by decide) (by decide))).trans ho, hO, hJK, hKB, fun j hj hjp => ?_, fun z1 z2 => Or.inl ⟨rfl, ?_, rfl, rfl, rfl⟩⟩
    · rcases hmap with ⟨j', a, b, c⟩ | a
      · rw [hinj j j' hj a (hjp.trans b.symm)]; exact c
      · exact absurd hjp (a j hj)
    · rw [opGoes, Bool.and_eq_true, decide_eq_true_eq, decide_eq_true_eq, show (19 : Int32) = nI 19 from rfl, show (22 : Int32) = nI 22 from rfl, nI_o hO.1 (by decide), nI_o hO.1 (by decide)]
      exact ⟨z1, z2⟩
  · rcases hall p' hp' with ⟨a1, a2⟩ | ⟨a1, o', g', d', s', l', a2, a3, a4, a5, a6, a7⟩
    · exact Or.inl ⟨(hx.2 _ _ (fun z => hpp z.2)).trans a1, (hmf.2.1 _ (by omega)).1.trans a2⟩
    · right
      refine ⟨by omega, o', g', d', s', l', (hmf.1.1 _ _ _ (NR_b (by decide) (by decide))).trans a2, a3.j hx.1 hmf.1, a4.at hx hmf hpp, a5, fun j hj hjp => (a6 j hj hjp).j hx.1 hmf.1, fun z1 z2 => ?_⟩
      rw [afD_j hmf.1 o' g' d' s' l', afS_j hmf.1 o' g' d' s' l']
      exact (a7 z1 z2).next hx hmf hJK hfit hend.1
theorem mjGo_stop (q n p : Nat) (S : MS) (h : ¬ S.1 8 0 28 = 0) : mjGo q n p S = S := by
  cases n with
  | zero => rfl
  | succ n =>
    rw [mjGo]
    by_cases c : S.1 36 0 q ≤ nI p
    · rw [if_pos c]
    · rw [if_neg c, if_neg h]
/-- the OPs of a METHOD -/
theorem J_loop {k en q lc stk L mp gq : Nat} {pl l0 : Nat → Nat} {tk : Nat → Nat} : ∀ (n p : Nat) (X M : MS) (d : Nat) (st lo : Nat → Nat) (h : Bool), 50 ≤ p + n → JI X M k en q lc stk L mp gq pl p d st lo h l0 → (∀ j, j < 5 → X.1 4 j 1 = nI (tk j) ∧ tk j ≤ 3) → ∃ X' M', XQ X X' q ∧ MJQ M M' q ∧ mjGo q n p M = M' ∧
    ((∃ (w : Int32) (p' : Nat), w ≠ 0 ∧ p' < 48 ∧ jmGo q tk n p X = (w, X') ∧ X'.1 6 0 0 = nI p' ∧ M'.1 8 0 28 = w ∧ M'.1 8 0 29 = nI p') ∨
     (jmGo q tk n p X = mpGo X' q 9 0 ∧ ∃ d' st' lo' h', JI X' M' k en q lc stk L mp gq pl L d' st' lo' h' l0))
  | 0, p, X, M, d, st, lo, h, hn, hI, htk => by
    have h1 := hI.2.2.2.2.2.1
    have h2 := hI.1.2.2.1.2.2.2.2.1
    omega
  | n + 1, p, X, M, d, st, lo, h, hn, hI, htk => by
    have hpL := hI.2.2.2.2.2.1
    have hL48 := hI.1.2.2.1.2.2.2.2.1
    have x45 : X.1 4 q 5 = nI L := hI.1.2.2.1.2.2.2.2.2.2.2.2.2.1
    have m36 : M.1 36 0 q = nI L := hI.1.2.2.1.2.2.2.2.2.2.2.2.2.2
    rw [jmGo, mjGo, x45, m36]
    by_cases c1 : nI L ≤ nI p
    · have hp : p = L := by rw [nI_leI (by omega) (by omega)] at c1; omega
      subst hp
      rw [if_pos c1, if_pos c1]
      exact ⟨X, M, XQ.rf X q, MJQ.rf M q, rfl, Or.inr ⟨rfl, d, st, lo, h, hI⟩⟩
    · rw [if_neg c1, if_neg c1, if_pos hI.2.2.2.2.1]
      have hp : p < L := by rw [nI_leI (by omega) (by omega)] at c1; omega
      obtain ⟨b, b1, b2, b3⟩ := hI.1.2.2.2.2.1 p hp
      have hop : opAt M q p = b := by rw [opAt, b3, nI_c (by omega)]
      rw [hop]
      have hw := wJ6 X q 0 (nI p)
      have hI' : JI (wI X 6 0 0 (nI p)) M k en q lc stk L mp gq pl p d st lo h l0 := by
        obtain ⟨hC, hK, hx, hm, h28, hpl, hF0, hall⟩ := hI
        have hJKw : ∀ e d s l, JK X M q e d s l → JK (wI X 6 0 0 (nI p)) M q e d s l := fun e d s l z => z.same (wI_o _ _ _ _ _ _ _ _ (fun y => absurd y.1 (by decide))) rfl rfl (fun _ _ => ⟨rfl, rfl⟩)
        have hFw : ∀ e d2 s2 l2, Flow X M q p h d st lo e d2 s2 l2 → Flow (wI X 6 0 0 (nI p)) M q p h d st lo e d2 s2 l2 := fun e d2 s2 l2 z => by
          rcases z with z | ⟨z1, d3, s3, l3, z2, z3⟩
          · exact Or.inl z
          · exact Or.inr ⟨z1, d3, s3, l3, hJKw _ _ _ _ z2, z3⟩
        refine ⟨hC.j hw.1 (JM.rf M), hK.same (wI_o _ _ _ _ _ _ _ _ (by decide)) rfl (fun _ => rfl) (fun _ => rfl), (wI_o _ _ _ _ _ _ _ _ (by decide)).trans hx, hm, h28, hpl, hFw _ _ _ _ hF0, fun p' hp' => ?_⟩
        rcases hall p' hp' with ⟨a1, a2⟩ | ⟨a1, o', g', d', s', l', a2, a3, a4, a5, a6, a7⟩
        · exact Or.inl ⟨(wI_o _ _ _ _ _ _ _ _ (fun y => absurd y.1 (by decide))).trans a1, a2⟩
        · exact Or.inr ⟨a1, o', g', d', s', l', a2, a3.j hw.1 (JM.rf M), hJKw _ _ _ _ a4, a5, fun j hj hjp => (a6 j hj hjp).j hw.1 (JM.rf M), fun z1 z2 => hFw _ _ _ _ (a7 z1 z2)⟩
      have htk' : ∀ j, j < 5 → (wI X 6 0 0 (nI p)).1 4 j 1 = nI (tk j) ∧ tk j ≤ 3 := fun j hj => by rw [wI_o _ _ _ _ _ _ _ _ (fun z => absurd z.1 (by decide))]; exact htk j hj
      have hJ := J_op hI'.1 hI'.2.1 hp (wI_rd _ _ _ _ _) hI'.2.2.1 hI'.2.2.2.1 hI'.2.2.2.2.1 htk' b3 b1
      by_cases c2 : jopV (wI X 6 0 0 (nI p)) q tk = 0
      · obtain ⟨d', st', lo', h', hN⟩ := hI'.next b3 hp hJ c2
        obtain ⟨j1, j2, j3, -⟩ := hJ
        have hx2 : XQ X (jopS (wI X 6 0 0 (nI p)) q tk) q := hw.tr j2.q
        have hm2 : MJQ M (mjopS M q p b) q := j3.q (by omega)
        have htk2 : ∀ j, j < 5 → (jopS (wI X 6 0 0 (nI p)) q tk).1 4 j 1 = nI (tk j) ∧ tk j ≤ 3 := fun j hj => by rw [hx2.1.1 _ _ _ (by decide) (by first | decide | exact KX_ne (by decide))]; exact htk j hj
        have hcode : codeM (jopS (wI X 6 0 0 (nI p)) q tk) q (nI p) = nI b := by
          rw [codeM, hx2.1.1 _ _ _ (by decide) (by first | decide | exact KX_ne (by decide)), x45, if_pos ⟨nI_pos (by omega), c1, (nI_guard (N := 48) (M := 48) rfl (by omega) (by decide)).2⟩, nI_c (by omega), hx2.1.1 _ _ _ (by decide) (by first | decide | exact KX_ne (by decide))]
          exact b2
        rw [if_pos c2, hcode, mHas_iff]
        have key := J_loop n (mjEnd p b) (jopS (wI X 6 0 0 (nI p)) q tk) (mjopS M q p b) d' st' lo' h' (by have := (mjEnd_gt p b).1; omega) hN htk2
        obtain ⟨X', M', k1, k2, k3, k4⟩ := key
        refine ⟨X', M', hx2.tr k1, hm2.tr k2, ?_, ?_⟩
        · rw [← k3, mjEnd]
        · rw [mjEnd] at k4
          by_cases z : mHas (nI b) = true
          · rw [if_pos z] at k4 ⊢; exact k4
          · rw [if_neg z] at k4 ⊢; exact k4
      · obtain ⟨j1, j2, j3, j4⟩ := hJ
        rw [if_neg c2]
        rcases j4 with ⟨w, w1, w2, w3, w4⟩ | ⟨w1, -⟩
        · have hstop : mjGo q n (if mHas (nI b) = true then p + 2 else p + 1) (mjopS M q p b) = mjopS M q p b := mjGo_stop q n _ _ (by rw [w3]; exact w1)
          refine ⟨jopS (wI X 6 0 0 (nI p)) q tk, mjopS M q p b, hw.tr j2.q, j3.q (by omega), hstop, Or.inl ⟨w, p, w1, by omega, by rw [w2], j1, w3, w4⟩⟩
        · exact absurd w1 c2
