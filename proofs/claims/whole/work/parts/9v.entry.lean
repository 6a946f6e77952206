/-! what holds at the law's entry -/
def given0 : Cond := Jvm.Cond.and given_1 narrow_1
set_option maxRecDepth 20000 in
theorem st_arr : ∀ k : Fin 3, Cond.arrayOf (.static "InstrumentFiles$Ops" (stn k.1) "[I") .int ∈ flatC given0 := by decide +kernel
set_option maxRecDepth 20000 in
theorem st_len : ∀ k : Fin 3, Cond.eq (.length (.static "InstrumentFiles$Ops" (stn k.1) "[I")) (.int 25) ∈ flatC given0 := by decide +kernel
set_option maxRecDepth 20000 in
theorem st_el : ∀ k : Fin 3, ∀ j : Fin 25, Cond.eq (.elem (.static "InstrumentFiles$Ops" (stn k.1) "[I") (.int (Int32.ofNat j.1))) (.int ((stv k.1).getD j.1 0)) ∈ flatC given0 := by decide +kernel
set_option maxRecDepth 20000 in
theorem st_lay0 : Cond.laysStatic "InstrumentFiles$Ops" "TAKEN" "[I" ∈ lw_tbl := List.mem_append_right _ (List.mem_append_right _ (List.mem_append_right _ ((List.mem_append_left _ (List.mem_of_getElem? (i := 30) rfl)))))
set_option maxRecDepth 20000 in
theorem st_lay1 : Cond.laysStatic "InstrumentFiles$Ops" "TAKEN_KIND" "[I" ∈ lw_tbl := List.mem_append_right _ (List.mem_append_right _ (List.mem_append_right _ ((List.mem_append_left _ (List.mem_of_getElem? (i := 35) rfl)))))
set_option maxRecDepth 20000 in
theorem st_lay2 : Cond.laysStatic "InstrumentFiles$Ops" "PUSHED_KIND" "[I" ∈ lw_tbl := List.mem_append_right _ (List.mem_append_right _ (List.mem_append_right _ ((List.mem_append_left _ (List.mem_of_getElem? (i := 42) rfl)))))
set_option maxRecDepth 20000 in
theorem in_Ops : Cond.initialized "InstrumentFiles$Ops" ∈ lw_gd := mem_1 12 rfl rfl
set_option maxRecDepth 20000 in
theorem st_over : Cond.arrayOver (.object "InstrumentFiles$Method") ∈ lw_tbl := List.mem_append_right _ (List.mem_append_left _ (List.mem_of_getElem? (i := 67) rfl))
theorem st_sta {s : State} {args : Array Value} {A : Nat → Prop} (hts : ∀ w ∈ lw_tbl, w.before args s = true) (hg : given0.before args s = true) (hA : ∀ a : Nat, a < s.heap.size → ¬ A a) : ∃ st : Nat → Nat, ∀ k, k < 3 → va_Z "InstrumentFiles$Ops" (stn k) "[I" (.ref (st k)) A s s.heap ∧ va_T .int (st k) 25 (fun j => .int ((stv k).getD j 0)) A s s.heap := by
  have hs := flat_of_before _ hg
  have key : ∀ k : Nat, ∃ t : Nat, k < 3 → va_Z "InstrumentFiles$Ops" (stn k) "[I" (.ref t) A s s.heap ∧ va_T .int t 25 (fun j => .int ((stv k).getD j 0)) A s s.heap := by
    intro k
    by_cases hk : k < 3
    · obtain ⟨t, h1, h2⟩ := va_Tof (tm := .static "InstrumentFiles$Ops" (stn k) "[I") (ty := .int) (N := 25) (f := fun j => .int ((stv k).getD j 0)) (A := A) (by decide) (hs _ (st_arr ⟨k, hk⟩)) (va_eqt (hs _ (st_len ⟨k, hk⟩))) (fun j hj => va_eqt (hs _ (st_el ⟨k, hk⟩ ⟨j, hj⟩))) hA
      refine ⟨t, fun _ => ⟨va_Zof (hts _ ?_) (hts _ (gd_tbl in_Ops)) h1 hA, h2⟩⟩
      rcases (show k = 0 ∨ k = 1 ∨ k = 2 by omega) with rfl | rfl | rfl
      · exact st_lay0
      · exact st_lay1
      · exact st_lay2
    · exact ⟨0, fun h => absurd h hk⟩
  exact ⟨fun k => Classical.choose (key k), fun k hk => Classical.choose_spec (key k) hk⟩
theorem st_nw {s : State} {args : Array Value} (hts : ∀ w ∈ lw_tbl, w.before args s = true) : NW s := fun w hw => by
  have hw1 := (List.mem_filter.mp hw).1
  have hw2 := (List.mem_filter.mp hw).2
  cases w <;> first | (cases hw2; done) | exact va_Nw.of rfl (hts _ hw1)
theorem st_nwm {s : State} {args : Array Value} (hts : ∀ w ∈ lw_tbl, w.before args s = true) : NWm s := ⟨fun w hw => by
  have hw1 := (List.mem_filter.mp hw).1
  have hw2 := (List.mem_filter.mp hw).2
  cases w <;> first | (cases hw2; done) | exact va_Nw.of rfl (hts _ hw1), va_AO.of (hts _ st_over)⟩
set_option maxRecDepth 20000 in
theorem st_kn {s : State} {args : Array Value} (hts : ∀ w ∈ lw_gd, w.before args s = true) : ∃ D : va_G, va_K D clsL [] s := by
  have key : ∀ k : Nat, ∃ (cC : ClassId) (iS : Nat → Nat), ∀ q, clsL[k]? = some q → u_Kn s q.1 q.2.1 q.2.2 cC iS := by
    intro k
    match k with
    | 0 =>
      obtain ⟨c, i, h⟩ := u_known (C := "InstrumentFiles") (T := TF0) (N := 7) (n := 7) hts (cls_in _ (List.mem_of_getElem? (i := 0) rfl)) (hts _ it_IF)
      exact ⟨c, i, fun q hq => by cases hq; exact h⟩
    | 1 =>
      obtain ⟨c, i, h⟩ := u_known (C := "InstrumentFiles$Tape") (T := TF1) (N := 2) (n := 2) hts (cls_in _ (List.mem_of_getElem? (i := 1) rfl)) (hts _ it_Tape)
      exact ⟨c, i, fun q hq => by cases hq; exact h⟩
    | 2 =>
      obtain ⟨c, i, h⟩ := u_known (C := "InstrumentFiles$Program") (T := TF2) (N := 4) (n := 4) hts (cls_in _ (List.mem_of_getElem? (i := 2) rfl)) (hts _ it_Prog)
      exact ⟨c, i, fun q hq => by cases hq; exact h⟩
    | 3 =>
      obtain ⟨c, i, h⟩ := u_known (C := "InstrumentFiles$Pool") (T := TF3) (N := 4) (n := 4) hts (cls_in _ (List.mem_of_getElem? (i := 3) rfl)) (hts _ it_Pool)
      exact ⟨c, i, fun q hq => by cases hq; exact h⟩
    | 4 =>
      obtain ⟨c, i, h⟩ := u_known (C := "InstrumentFiles$Method") (T := TF4) (N := 13) (n := 13) hts (cls_in _ (List.mem_of_getElem? (i := 4) rfl)) (hts _ it_Meth)
      exact ⟨c, i, fun q hq => by cases hq; exact h⟩
    | 5 =>
      obtain ⟨c, i, h⟩ := u_known (C := "InstrumentFiles$Reader") (T := TF5) (N := 2) (n := 2) hts (cls_in _ (List.mem_of_getElem? (i := 5) rfl)) (hts _ it_Read)
      exact ⟨c, i, fun q hq => by cases hq; exact h⟩
    | 6 =>
      obtain ⟨c, i, h⟩ := u_known (C := "InstrumentFiles$Judge") (T := TF6) (N := 3) (n := 3) hts (cls_in _ (List.mem_of_getElem? (i := 6) rfl)) (hts _ it_Judge)
      exact ⟨c, i, fun q hq => by cases hq; exact h⟩
    | 7 =>
      obtain ⟨c, i, h⟩ := u_known (C := "InstrumentFiles$Machine") (T := TF7) (N := 15) (n := 15) hts (cls_in _ (List.mem_of_getElem? (i := 7) rfl)) (hts _ it_Mach)
      exact ⟨c, i, fun q hq => by cases hq; exact h⟩
    | 8 =>
      obtain ⟨c, i, h⟩ := u_known (C := "InstrumentFilesModel") (T := TF8) (N := 49) (n := 49) hts (cls_in _ (List.mem_of_getElem? (i := 8) rfl)) (hts _ it_M)
      exact ⟨c, i, fun q hq => by cases hq; exact h⟩
    | k + 9 => exact ⟨0, fun _ => 0, fun q hq => by simp at hq⟩
  exact ⟨(fun k => Classical.choose (key k), fun k => Classical.choose (Classical.choose_spec (key k))), fun k q hq => Classical.choose_spec (Classical.choose_spec (key k)) q hq, fun k q h => by simp at h⟩
theorem wc_astore_n {p : Program} {l : Launch} {e : Env} {R : Room} {s : State} {m : MethodId} {args : Array Value} {below : List Frame} {meth : Method} {c : Code} {D : va_G} {A : Nat → Prop} {cells slots : Nat} {Q : State → Prop} {cc : ByteArray} {own : String} {nL pc nxt : Nat} {lv : List (Nat × Value)} {st : List Value} {ws : va_W} {tys : TY} (X : CNw p s m args c A cc own nL) {i q : Nat} {k : Fin 4} {lv' : List (Nat × Value)} (hdg : DC cc pc (.astore_n k) 1 nxt) (hi : (k : Nat) = i) (hn : i < nL) (hlv : (i, Value.ref q) :: lv.filter (fun q => !(q.1 == i) && !(q.1 + 1 == i && q.2.category == 2)) = lv') (K : WC p l e R s m args below meth c D A nL cells slots Q nxt lv' st ws tys) : WC p l e R s m args below meth c D A nL cells slots Q pc lv (.ref q :: st) ws tys := by
  obtain ⟨h1, rfl⟩ := hdg
  exact fun H locs ls hK hP hD hS hl => lv_astore_n X.1 X.2.1 h1 hi hl hn hlv (fun ls2 hl2 => K H locs ls2 hK hP hD hS hl2)
