/-! THE CLAIM OUT OF ONE WALK OF THE LAW'S BODY. Your part is whole_start (and what it stands on); all else here is the same for every law, but numbers. -/
def R_law : String := "InstrumentFilesLaw"
def lw_P (b : Addr) (xs : List Int32) (args : Array Value) (s : State) : Prop := args = #[.ref b] ∧ s.IntsAt b xs ∧ xs.length ≤ 4608 ∧ (Jvm.Cond.and given_1 narrow_1).before args s = true
/-- what a walk over the start with the record d0 says of its end, said of the start itself -/
theorem lw_closed {s t : State} {o : Outcome} {d0 : Drawn} {L : List Loc} {k n : Nat} (hd0 : s.drawn.sameBut d0 lw_cs) (hv : ∃ v, o = .returned v) (hW : (s.setDrawn d0).WarmedH t.vm) (hs : (s.setDrawn d0).sameButNew ({ t with vm := s.vm } : State) L k n) : State.butDraws s t lw_cs (fun t1 => Framed s o t1 L k n) := by
  have h2 : t.drawn = d0 := congrArg State.drawn hs.1
  refine ⟨⟨hv, hW, State.sameButNew.setDrawn hs s.drawn⟩, ?_, by decide⟩
  rw [h2]
  exact hd0
def lw_Q (_ : Array Value) (s : State) (o : Outcome) (t : State) : Prop := o = .returned (some (.int 1)) ∧ State.butDraws s t lw_cs (fun t1 => Framed s o t1 [] 600000 7302250)
def lw_Z (below : List Frame) (a : Array Value) (s : State) : State → Prop := fun t => ∃ o, t.status = .running ∧ Ended t below o ∧ lw_Q a s o t
/-- the law's own end, with 1 on the stack, nothing written that was there before, its room as the claim has it; d0: the record of draws at this point (at the entry s.drawn: begin with 'refine W.base ?_' and 'have hd0 := Drawn.sameBut.refl s.drawn lw_cs') -/
theorem lw_ret {p : Program} {l : Launch} {e : Env} {s : State} {m : MethodId} {below : List Frame} {meth : Method} {c : Code} {b : Nat} {d0 : Drawn} (hd0 : s.drawn.sameBut d0 lw_cs) (hx : p.tables.exec = Jvm.exec) (hb : c.code = code) (hr : meth.sig.returnType = ret) (hlocks : meth.locks = false) {pc : Nat} {H : Heap} {ls : Array Slot} (hdg : decode code pc = .ok (.ireturn, 1)) : W p l e room_1 (s.setDrawn d0) m #[Value.ref b] below meth c H [] 600000 7302250 (lw_Z below #[Value.ref b] s) (F0 m pc ls [.int 1]) := by
  intro T hT X
  obtain ⟨fs, hret, hrun, hended, hW, hframe⟩ := X.leave (v := some (.int 1)) (hlocks := hlocks) (fun h => by rw [hr] at h; cases h)
  have hmeth' : T.vm.method? m = some meth := X.method'
  refine ⟨T.setFrames fs, ?_, .returned (some (.int 1)), hrun, hended, rfl, lw_closed hd0 ⟨_, rfl⟩ hW hframe⟩
  jvm_step X.here [X.here.top, hx, hb, hdg, hmeth', hr, ret, narrow_b1]
  (try refine ⟨rfl, ?_⟩); (try refine ⟨rfl, ?_⟩)
  first | (intro acts; rw [hret _ acts rfl rfl rfl]) | rw [hret _ _ rfl rfl rfl]
  exact Steps.refl _
/-- what holds at the law's entry: the machine, the code, the tables' words (any of lw_tbl by 'hts w (by decide +kernel)'), the script of L ints xs at the cell b, what the Statement gives of the start (any of its parts by flat_of_before) -/
def lw_At (p : Program) (s : State) (m : MethodId) (meth : Method) (c : Code) (b L : Nat) (xs : Nat → Int32) : Prop :=
  p.tables.exec = Jvm.exec ∧ c.code = code ∧ meth.sig.returnType = ret ∧ c.maxLocals = 4 ∧ s.vm.findClass R_law = some m.cls ∧ (∀ w ∈ lw_tbl, w.before #[Value.ref b] s = true) ∧ va_X b L xs s s.heap ∧ b < s.heap.size ∧ meth.locks = false ∧ (Jvm.Cond.and given_1 narrow_1).before #[Value.ref b] s = true
theorem law_f0 : ∀ j, j < 7 → defaultValue (tyF0 j) = vp_V f0_IF j := fun j hj => by
  match j, hj with
  | 0, _ => rfl
  | 1, _ => rfl
  | 2, _ => rfl
  | 3, _ => rfl
  | 4, _ => rfl
  | 5, _ => rfl
  | 6, _ => rfl
theorem law_f8 : ∀ j, j < 49 → defaultValue (tyF8 j) = vp_V f0_M j := fun j hj => by
  match j, hj with
  | 0, _ => rfl
  | 1, _ => rfl
  | 2, _ => rfl
  | 3, _ => rfl
  | 4, _ => rfl
  | 5, _ => rfl
  | 6, _ => rfl
  | 7, _ => rfl
  | 8, _ => rfl
  | 9, _ => rfl
  | 10, _ => rfl
  | 11, _ => rfl
  | 12, _ => rfl
  | 13, _ => rfl
  | 14, _ => rfl
  | 15, _ => rfl
  | 16, _ => rfl
  | 17, _ => rfl
  | 18, _ => rfl
  | 19, _ => rfl
  | 20, _ => rfl
  | 21, _ => rfl
  | 22, _ => rfl
  | 23, _ => rfl
  | 24, _ => rfl
  | 25, _ => rfl
  | 26, _ => rfl
  | 27, _ => rfl
  | 28, _ => rfl
  | 29, _ => rfl
  | 30, _ => rfl
  | 31, _ => rfl
  | 32, _ => rfl
  | 33, _ => rfl
  | 34, _ => rfl
  | 35, _ => rfl
  | 36, _ => rfl
  | 37, _ => rfl
  | 38, _ => rfl
  | 39, _ => rfl
  | 40, _ => rfl
  | 41, _ => rfl
  | 42, _ => rfl
  | 43, _ => rfl
  | 44, _ => rfl
  | 45, _ => rfl
  | 46, _ => rfl
  | 47, _ => rfl
  | 48, _ => rfl
  | k + 49, h => exact absurd h (by omega)
/-- from the loop's head on -/
theorem law_body {p : Program} {l : Launch} {e : Env} {s : State} {m : MethodId} {below : List Frame} {meth : Method} {c : Code} {G : GG} (hflags : l.flags = flags0) {b L : Nat} {xs : Nat → Int32} (hL : L ≤ 4608) (C0 : lw_At p s m meth c b L xs) (hst : STA G (fun q : Nat => s.heap.size ≤ q) s s.heap) (hK : va_K G.2.2.1 clsL (tyl G) s) (hD : va_D (fun q : Nat => s.heap.size ≤ q) (wld G S0)) :
    WS p l e room_1 s m #[Value.ref b] below meth c G (fun q : Nat => s.heap.size ≤ q) 4 600000 7302250 (lw_Z below #[Value.ref b] s) 18 [some (.inl (.ref b)), some (.inr (0, 0)), some (.inr (8, 0)), some (.inl (.int (nI 0)))] [] S0 := by
  obtain ⟨hx, hb, hr, hml, hown, hts, hX, hbl, hlocks, hgv⟩ := id C0
  have htg : ∀ w ∈ lw_gd, w.before #[Value.ref b] s = true := fun w hw => hts w (gd_tbl hw)
  have hbA : ¬ (fun q : Nat => s.heap.size ≤ q) b := Nat.not_le.mpr hbl
  have hAD : ∀ q, AD G q → s.heap.size ≤ q := fun q h => by
    obtain ⟨o, ho, rfl⟩ := h
    obtain ⟨k, hk⟩ := List.getElem?_of_mem ho
    exact hD.2 k _ (wld_get (k := o.1) (i := o.2) hk)
  have X : CX p s m #[Value.ref b] meth c G (fun q : Nat => s.heap.size ≤ q) c_L_law "InstrumentFilesLaw" 4 (some .boolean) := ⟨hx, hb, hml, hown, htg, hK, hAD, ⟨hst, st_nw hts⟩, hr, hlocks⟩
  refine law_loop X hX hbl hbA hL (fun S1 x3 => ?_) (L + 1) 0 (by omega) (Nat.zero_le _) S0 RR_0
  refine ws_iconst (v := 1) X d_L_law_677 rfl ?_
  intro H locs ls hP hD hS hl
  refine va_forget (fun q hq => hS.2.2 q hq) ?_
  exact lw_ret (d0 := s.drawn) (Drawn.sameBut.refl s.drawn lw_cs) hx hb hr hlocks d_L_law_678.1
set_option maxHeartbeats 4000000 in
set_option maxRecDepth 100000 in
theorem whole_start {p : Program} {e : Env} {s : State} {m : MethodId} {below : List Frame} {meth : Method} {c : Code} (l : Launch) (hflags : l.flags = flags0) {b L : Nat} {xs : Nat → Int32} (hL : L ≤ 4608) (C0 : lw_At p s m meth c b L xs) : W p l e room_1 s m #[Value.ref b] below meth c s.heap [] 0 0 (lw_Z below #[Value.ref b] s) (entryFrame m ([Value.ref b] : List Value).toArray 4) := by
  obtain ⟨hx, hb, hr, hml, hown, hts, hX, hbl, hlocks, hgv⟩ := id C0
  have htg : ∀ w ∈ lw_gd, w.before #[Value.ref b] s = true := fun w hw => hts w (gd_tbl hw)
  have hbA : ¬ (fun q : Nat => s.heap.size ≤ q) b := Nat.not_le.mpr hbl
  obtain ⟨D, hK0⟩ := st_kn htg
  obtain ⟨st, hst⟩ := st_sta (A := fun q : Nat => s.heap.size ≤ q) hts hgv (fun a h => Nat.not_le.mpr h)
  have hP0 : va_P D clsL [] s.heap := fun k q h => by simp at h
  have hD0 : va_D (fun q : Nat => s.heap.size ≤ q) [] := ⟨fun i j p q h => by simp at h, fun k q h => by simp at h⟩
  have hl0 := lv_entry ([.ref b]) (n := 4) (Nat.le_of_ble_eq_true rfl)
  rw [lg_entry_eq]
  generalize (lg_sl ([.ref b]) ++ List.replicate (4 - (lg_sl ([.ref b])).length) Slot.unset).toArray = ls0 at hl0 ⊢
  have hl0 : lv_has ls0 4 [(0, .ref b)] := hl0
  have X : CNw p s m #[Value.ref b] c (fun q : Nat => s.heap.size ≤ q) c_L_law "InstrumentFilesLaw" 4 := ⟨hx, hb, hml, hown, htg, st_nwm hts, fun _ h => h⟩
  have key : WC p l e room_1 s m #[Value.ref b] below meth c D (fun q : Nat => s.heap.size ≤ q) 4 0 0 (lw_Z below #[Value.ref b] s) 0 [(0, .ref b)] [] [] [] := by
    refine wc_new (T := TF0) (N := 7) (k := 0) (fs := f0_IF) X rfl tyF0_ok cl_L_7 it_IF in_IF law_f0 ⟨by decide, by decide⟩ d_L_law_0 (fun q0 => ?_)
    refine wc_dup X d_L_law_3 ?_
    refine wc_callI X C_IF ml_L_9 in_IF ic_IF ii_IF rfl (by decide +kernel) (by show (1 + 0 : Nat) ≤ 8; decide) ⟨by decide, by decide⟩ ⟨by decide, by decide⟩ d_L_law_4 (fun u tyu hu => ?_)
    obtain ⟨a, b1, g, rfl, rfl⟩ := hu
    refine wc_astore_n X d_L_law_7 rfl (by decide) rfl ?_
    refine wc_new (T := TF8) (N := 49) (k := 8) (fs := f0_M) X rfl tyF8_ok cl_L_10 it_M in_M law_f8 ⟨by decide, by decide⟩ d_L_law_8 (fun hM => ?_)
    refine wc_dup X d_L_law_11 ?_
    refine wc_callI X C_M ml_L_12 in_M ic_M ii_M rfl (by decide +kernel) (by show (1 + 0 : Nat) ≤ 8; decide) ⟨by decide, by decide⟩ ⟨by decide, by decide⟩ d_L_law_12 (fun u tyu hu => ?_)
    obtain ⟨aM, bM, rfl, rfl⟩ := hu
    refine wc_astore_n X d_L_law_15 rfl (by decide) rfl ?_
    refine wc_iconst (v := 0) X d_L_law_16 (by decide) ?_
    refine wc_istore_n X d_L_law_17 rfl (by decide) rfl ?_
    intro H locs ls hK hP hD hS hl
    have hK : va_K D clsL (ifT b1 ++ mdT bM) s := hK
    have hP : va_P D clsL (ifW q0 a b1 g ++ mdW hM aM bM) H := hP
    have hD : va_D (fun q : Nat => s.heap.size ≤ q) (ifW q0 a b1 g ++ mdW hM aM bM) := hD
    have hP1 : va_P D clsL (wld (lawG D st q0 hM a b1 g aM bM) S0) H := hP.sub lawP (fm_map (lawW_map D st q0 hM a b1 g aM bM))
    have hD1 : va_D (fun q : Nat => s.heap.size ≤ q) (wld (lawG D st q0 hM a b1 g aM bM) S0) := hD.sub lawP lawP_nd (lawW_map D st q0 hM a b1 g aM bM)
    have hK1 : va_K D clsL (tyl (lawG D st q0 hM a b1 g aM bM)) s := hK.sub lawPT (lawT_map D st q0 hM a b1 g aM bM)
    have hl1 : lv_has ls 4 (asl (lawG D st q0 hM a b1 g aM bM) 0 [some (.inl (.ref b)), some (.inr (0, 0)), some (.inr (8, 0)), some (.inl (.int (nI 0)))]) := lv_sub hl [3, 2, 1, 0] rfl
    refine W.widen (k := 600000) (n := 7302250) (by decide) (by decide) ?_
    exact law_body (G := lawG D st q0 hM a b1 g aM bM) hflags hL C0 hst hK1 hD1 H locs ls hP1 hD1 hS hl1
  exact key s.heap [] ls0 hK0 hP0 hD0 va_S.rf hl0
