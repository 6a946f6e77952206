/-! the law's calls: the model's contract with the class's answer -/
def tkx (S : MS) : Nat → Nat := fun j => (S.1 4 j 1).toNatClampNeg
theorem L_callx {S : MS} (h : RR S S) (m : Int32) (a b c : Int64) (s : Int32) : ∃ (IX IM : MS → Prop) (n : Nat), (∀ S1, IX S1 → ¬ S1.1 7 0 6 ≤ 0 → S1.1 7 0 9 = 0 → opPre (tkx S) (xmStep S1) ∧ IX (xmOp (xmStep S1) (tkx S))) ∧ (okG S m = true → asideM S m.toNatClampNeg = false → IX (call0 S m a b c)) ∧ (∀ S, IM S → ¬ S.1 8 0 36 ≤ 0 → S.1 8 0 44 = 0 → StpPre (mInc S) ∧ IM (mStp (mInc S))) ∧ (∀ S, IM S → ¬ S.1 8 0 36 ≤ 0 → ∃ F, F < 8 ∧ S.1 8 0 36 = nI (F + 1)) ∧ (callXS (tkx S) S m a b c s).1 8 0 9 = nI n ∧ n ≤ 5 ∧ (∀ q, q < n → ∃ t, t ≤ 3 ∧ (callXS (tkx S) S m a b c s).1 31 0 q = nI t) ∧ (∀ q t, q < n → (callXS (tkx S) S m a b c s).1 31 0 q = nI t → t ≤ 3 → ¬ (callXS (tkx S) S m a b c s).1 47 0 q = 3 → IM (mCs1 (callXS (tkx S) S m a b c s) q t a b c)) ∧ callXV (tkx S) S m a b c s = mCalV (callXS (tkx S) S m a b c s) m a b c s ∧ RR (mCalS (callXS (tkx S) S m a b c s) m a b c s) (mCalS (callXS (tkx S) S m a b c s) m a b c s) := by
  have htkd : ∀ j, j < 5 → S.1 4 j 1 = nI (tkx S j) ∧ tkx S j ≤ 3 := fun j hj => by
    obtain ⟨-, -, t, t1, t2⟩ := h.2.2.1 j hj
    rw [tkx, t2, nI_c (by omega)]; exact ⟨rfl, t1⟩
  obtain ⟨IX, -, -, i1, i2, -⟩ := J_callG h htkd m a b c s
  have g := h.pre (callXS_c (tkx S) S m a b c s (CW.rf S))
  obtain ⟨-, IM, n, -, -, i3, i4, i5, i6, i7, i8, i9, i10⟩ := J_callG g htkd m a b c s
  exact ⟨IX, IM, n, i1, i2, i3, i4, i5, i6, i7, i8, i9, i10.lk (mCalS_w _ m a b c s (MWr.rf _))⟩
theorem LM_feed {S : MS} (h : RR S S) (w : Int64) (n : Int32) : MetE y_M_feed c_M_feed 5 ((some .int)) 1 22 [.inr (8, 0), .inl (.long w), .inl (.int n)] (feedS S w n) (some (.inl (.int (feedV S w n)))) (mFeedS (feedS S w n) w n) := by
  obtain ⟨e, -, s1, hs, h5⟩ := L_feed h w n
  rw [e]; exact m_M_feed _ w n s1 hs h5
theorem LM_wipe {S : MS} (h : RR S S) : MetE y_M_wipe c_M_wipe 2 ((some .int)) 0 0 [.inr (8, 0)] (wI S 1 0 1 0) (some (.inl (.int (S.1 1 0 1)))) (wI (wI S 1 0 1 0) 8 0 1 0) := by
  obtain ⟨e, -⟩ := L_wipe h
  rw [e]; exact m_M_wipe _
theorem LM_alter {S : MS} (h : RR S S) (i m : Int32) : MetE y_M_alter c_M_alter 3 ((some .int)) 1 22 [.inr (8, 0), .inl (.int i), .inl (.int m)] (alterS S i m) (some (.inl (.int (alterV S i m)))) (mAltS (alterS S i m) i m) := by
  obtain ⟨e, -, h5⟩ := L_alter h i m
  rw [e]; exact m_M_alter _ i m h5
theorem LM_at {S : MS} (h : RR S S) (i : Int32) : MetE y_M_at c_M_at 2 ((some .int)) 1 22 [.inr (8, 0), .inl (.int i)] S (some (.inl (.int (atV S i)))) S := by
  obtain ⟨e, h5⟩ := L_at h i
  rw [e]; exact m_M_at _ i h5
theorem LM_fault {S : MS} (h : RR S S) : MetE y_M_fault c_M_fault 1 ((some .int)) 0 0 [.inr (8, 0)] S (some (.inl (.int (S.1 0 0 5)))) S := by
  rw [J_fault h]; exact m_M_fault _
theorem LM_table {S : MS} (h : RR S S) (i : Int32) (b : Int64) : MetE y_M_table c_M_table 4 ((some .int)) 2 45 [.inr (8, 0), .inl (.int i), .inl (.long b)] (xmTab S i (dCanon b)) (some (.inl (.int (tableV i)))) (mTabS (xmTab S i (dCanon b)) i b) := by
  rw [(L_table h i b).1]; exact m_M_table _ i b
theorem LM_method {S : MS} (h : RR S S) (m w : Int32) : MetE y_M_method c_M_method 3 ((some .int)) 2 43 [.inr (8, 0), .inl (.int m), .inl (.int w)] S (some (.inl (.int (methodV S m w)))) S := by
  obtain ⟨e, k, k1, k2⟩ := J_method h m w
  rw [e]; exact m_M_method _ m w k k1 k2
theorem LM_pool {S : MS} (h : RR S S) (e w : Int32) : MetE y_M_pool c_M_pool 3 ((some .long)) 2 45 [.inr (8, 0), .inl (.int e), .inl (.int w)] S (some (.inl (.long (poolV S e w)))) S := by
  obtain ⟨e1, k, k1, k2⟩ := J_pool h e w
  rw [e1]; exact m_M_pool _ e w k k1 k2
theorem LM_kind {S : MS} (h : RR S S) (m p k : Int32) : MetE y_M_kind c_M_kind 5 ((some .int)) 2 43 [.inr (8, 0), .inl (.int m), .inl (.int p), .inl (.int k)] S (some (.inl (.int (kindV S m p k)))) S := by
  obtain ⟨e1, n, n1, n2, n3⟩ := J_kind h m p k
  rw [e1]; exact m_M_kind _ m p k n n1 n2 n3
theorem LM_result {S : MS} (h : RR S S) : MetE y_M_result c_M_result 1 ((some .long)) 0 0 [.inr (8, 0)] S (some (.inl (.long (S.2.1 7 0 14)))) S := by
  rw [J_result h]; exact m_M_result _
theorem LM_told {S : MS} (h : RR S S) (w : Int32) : MetE y_M_told c_M_told 2 ((some .int)) 1 22 [.inr (8, 0), .inl (.int w)] S (some (.inl (.int (toldV S w)))) S := by
  rw [J_told h w]; exact m_M_told _ w
theorem LM_count {S : MS} (h : RR S S) (w : Int32) : MetE y_M_count c_M_count 2 ((some .int)) 0 0 [.inr (8, 0), .inl (.int w)] S (some (.inl (.int (countV S w)))) S := by
  rw [J_count h w]; exact m_M_count _ w
theorem LX_call {S : MS} (h : RR S S) (m : Int32) (a b c : Int64) (k : Int32) : MetE y_IF_call c_IF_call 10 ((some .int)) 6 162 [.inr (0, 0), .inl (.int m), .inl (.long a), .inl (.long b), .inl (.long c), .inl (.int k)] S (some (.inl (.int (callXV (tkx S) S m a b c k)))) (callXS (tkx S) S m a b c k) := by
  obtain ⟨IX, IM, n, i1, i2, -⟩ := L_callx h m a b c k
  exact m_IF_call S m a b c k (tkx S) IX i1 i2
theorem LM_call {S : MS} (h : RR S S) (m : Int32) (a b c : Int64) (k : Int32) : MetE y_M_call c_M_call 10 ((some .int)) 6 152 [.inr (8, 0), .inl (.int m), .inl (.long a), .inl (.long b), .inl (.long c), .inl (.int k)] (callXS (tkx S) S m a b c k) (some (.inl (.int (callXV (tkx S) S m a b c k)))) (mCalS (callXS (tkx S) S m a b c k) m a b c k) := by
  obtain ⟨IX, IM, n, -, -, i3, i4, i5, i6, i7, i8, i9, -⟩ := L_callx h m a b c k
  rw [i9]; exact m_M_call _ m a b c k n IM i3 i4 i5 i6 i7 i8
theorem LR_call {S : MS} (h : RR S S) (m : Int32) (a b c : Int64) (k : Int32) : RR (mCalS (callXS (tkx S) S m a b c k) m a b c k) (mCalS (callXS (tkx S) S m a b c k) m a b c k) := by
  obtain ⟨IX, IM, n, -, -, i3, i4, i5, i6, i7, i8, i9, i10⟩ := L_callx h m a b c k
  exact i10
section LAW
variable {p : Program} {l : Launch} {e0 : Env} {s : State} {m0 : MethodId} {args : Array Value} {below : List Frame} {meth : Method} {c0 : Code} {G : GG} {A : Nat → Prop} {Q : State → Prop} {S : MS} {b L : Nat} {xs : Nat → Int32} {i : Int32}
set_option maxHeartbeats 2000000 in
theorem law_feed (X : CX p s m0 args meth c0 G A c_L_law "InstrumentFilesLaw" 4 (some .boolean)) (hX : va_X b L xs s s.heap) (hbl : b < s.heap.size) (hbA : ¬ A b) (h1 : vp_in (i + 1) L) (h2 : vp_in (i + 2) L) (h3 : vp_in (i + 3) L) (h4 : vp_in (i + 4) L) (h5 : vp_in (i + 5) L) (h6 : vp_in (i + 6) L) (h7 : vp_in (i + 7) L) (h8 : vp_in (i + 8) L) (hR : RR S S) (K : ∀ S1, RR S1 S1 → WS p l e0 room_1 s m0 args below meth c0 G A 4 600000 7302250 Q 671 [some (.inl (.ref b)), some (.inr (0, 0)), some (.inr (8, 0)), some (.inl (.int i))] [] (S1)) : WS p l e0 room_1 s m0 args below meth c0 G A 4 600000 7302250 Q 108 [some (.inl (.ref b)), some (.inr (0, 0)), some (.inr (8, 0)), some (.inl (.int i))] [] (S) := by
  refine ws_aload_n (i := 1) X d_L_law_108 rfl rfl ?_
  refine ws_aRload_n (i := 0) X d_L_law_109 rfl rfl ?_
  refine ws_iload_n (i := 3) X d_L_law_110 rfl rfl ?_
  refine ws_iconst (v := 1) X d_L_law_111 rfl ?_
  refine ws_iadd X d_L_law_112 ?_
  refine ws_sld X hX hbl hbA (h1) d_L_law_113 ?_
  refine ws_i2l X d_L_law_114 ?_
  refine ws_bipush (v := 32) X d_L_law_115 rfl ?_
  refine ws_lshl X d_L_law_117 ?_
  refine ws_aRload_n (i := 0) X d_L_law_118 rfl rfl ?_
  refine ws_iload_n (i := 3) X d_L_law_119 rfl rfl ?_
  refine ws_iconst (v := 2) X d_L_law_120 rfl ?_
  refine ws_iadd X d_L_law_121 ?_
  refine ws_sld X hX hbl hbA (h2) d_L_law_122 ?_
  refine ws_i2l X d_L_law_123 ?_
  refine ws_ldc2 X d_L_law_124 ct_L_13 ?_
  refine ws_land X d_L_law_127 ?_
  refine ws_lor X d_L_law_128 ?_
  refine ws_aRload_n (i := 0) X d_L_law_129 rfl rfl ?_
  refine ws_iload_n (i := 3) X d_L_law_130 rfl rfl ?_
  refine ws_iconst (v := 3) X d_L_law_131 rfl ?_
  refine ws_iadd X d_L_law_132 ?_
  refine ws_sld X hX hbl hbA (h3) d_L_law_133 ?_
  refine ws_callV1 X (m_IF_feed _ _ _) cv_IF_feed ml_L_15 ob0 rfl rfl (Nat.le_of_ble_eq_true rfl) ⟨Nat.le_of_ble_eq_true rfl, Nat.le_of_ble_eq_true rfl⟩ ⟨Nat.le_refl _, Nat.le_refl _⟩ d_L_law_134 ?_
  refine ws_aload_n (i := 2) X d_L_law_137 rfl rfl ?_
  refine ws_aRload_n (i := 0) X d_L_law_138 rfl rfl ?_
  refine ws_iload_n (i := 3) X d_L_law_139 rfl rfl ?_
  refine ws_iconst (v := 1) X d_L_law_140 rfl ?_
  refine ws_iadd X d_L_law_141 ?_
  refine ws_sld X hX hbl hbA (h1) d_L_law_142 ?_
  refine ws_i2l X d_L_law_143 ?_
  refine ws_bipush (v := 32) X d_L_law_144 rfl ?_
  refine ws_lshl X d_L_law_146 ?_
  refine ws_aRload_n (i := 0) X d_L_law_147 rfl rfl ?_
  refine ws_iload_n (i := 3) X d_L_law_148 rfl rfl ?_
  refine ws_iconst (v := 2) X d_L_law_149 rfl ?_
  refine ws_iadd X d_L_law_150 ?_
  refine ws_sld X hX hbl hbA (h2) d_L_law_151 ?_
  refine ws_i2l X d_L_law_152 ?_
  refine ws_ldc2 X d_L_law_153 ct_L_13 ?_
  refine ws_land X d_L_law_156 ?_
  refine ws_lor X d_L_law_157 ?_
  refine ws_aRload_n (i := 0) X d_L_law_158 rfl rfl ?_
  refine ws_iload_n (i := 3) X d_L_law_159 rfl rfl ?_
  refine ws_iconst (v := 3) X d_L_law_160 rfl ?_
  refine ws_iadd X d_L_law_161 ?_
  refine ws_sld X hX hbl hbA (h3) d_L_law_162 ?_
  refine ws_callV1 X (LM_feed hR _ _) cv_M_feed ml_L_19 ob8 rfl rfl (Nat.le_of_ble_eq_true rfl) ⟨Nat.le_of_ble_eq_true rfl, Nat.le_of_ble_eq_true rfl⟩ ⟨Nat.le_refl _, Nat.le_refl _⟩ d_L_law_163 ?_
  refine ws_icmp_eq X d_L_law_166 (fun h166 => ?_) (fun h166 => ?_)
  · exact K _ ((L_feed hR _ _).2.1)
  · exact absurd rfl h166
set_option maxHeartbeats 2000000 in
theorem law_wipe (X : CX p s m0 args meth c0 G A c_L_law "InstrumentFilesLaw" 4 (some .boolean)) (hX : va_X b L xs s s.heap) (hbl : b < s.heap.size) (hbA : ¬ A b) (h1 : vp_in (i + 1) L) (h2 : vp_in (i + 2) L) (h3 : vp_in (i + 3) L) (h4 : vp_in (i + 4) L) (h5 : vp_in (i + 5) L) (h6 : vp_in (i + 6) L) (h7 : vp_in (i + 7) L) (h8 : vp_in (i + 8) L) (hR : RR S S) (K : ∀ S1, RR S1 S1 → WS p l e0 room_1 s m0 args below meth c0 G A 4 600000 7302250 Q 671 [some (.inl (.ref b)), some (.inr (0, 0)), some (.inr (8, 0)), some (.inl (.int i))] [] (S1)) : WS p l e0 room_1 s m0 args below meth c0 G A 4 600000 7302250 Q 171 [some (.inl (.ref b)), some (.inr (0, 0)), some (.inr (8, 0)), some (.inl (.int i))] [] (S) := by
  refine ws_aload_n (i := 1) X d_L_law_171 rfl rfl ?_
  refine ws_callV1 X (m_IF_wipe _) cv_IF_wipe ml_L_20 ob0 rfl rfl (Nat.le_of_ble_eq_true rfl) ⟨Nat.le_of_ble_eq_true rfl, Nat.le_of_ble_eq_true rfl⟩ ⟨Nat.le_refl _, Nat.le_refl _⟩ d_L_law_172 ?_
  refine ws_aload_n (i := 2) X d_L_law_175 rfl rfl ?_
  refine ws_callV1 X (LM_wipe hR) cv_M_wipe ml_L_24 ob8 rfl rfl (Nat.le_of_ble_eq_true rfl) ⟨Nat.le_of_ble_eq_true rfl, Nat.le_of_ble_eq_true rfl⟩ ⟨Nat.le_refl _, Nat.le_refl _⟩ d_L_law_176 ?_
  refine ws_icmp_eq X d_L_law_179 (fun h179 => ?_) (fun h179 => ?_)
  · exact K _ ((L_wipe hR).2)
  · exact absurd rfl h179
set_option maxHeartbeats 2000000 in
theorem law_alter (X : CX p s m0 args meth c0 G A c_L_law "InstrumentFilesLaw" 4 (some .boolean)) (hX : va_X b L xs s s.heap) (hbl : b < s.heap.size) (hbA : ¬ A b) (h1 : vp_in (i + 1) L) (h2 : vp_in (i + 2) L) (h3 : vp_in (i + 3) L) (h4 : vp_in (i + 4) L) (h5 : vp_in (i + 5) L) (h6 : vp_in (i + 6) L) (h7 : vp_in (i + 7) L) (h8 : vp_in (i + 8) L) (hR : RR S S) (K : ∀ S1, RR S1 S1 → WS p l e0 room_1 s m0 args below meth c0 G A 4 600000 7302250 Q 671 [some (.inl (.ref b)), some (.inr (0, 0)), some (.inr (8, 0)), some (.inl (.int i))] [] (S1)) : WS p l e0 room_1 s m0 args below meth c0 G A 4 600000 7302250 Q 184 [some (.inl (.ref b)), some (.inr (0, 0)), some (.inr (8, 0)), some (.inl (.int i))] [] (S) := by
  refine ws_aload_n (i := 1) X d_L_law_184 rfl rfl ?_
  refine ws_aRload_n (i := 0) X d_L_law_185 rfl rfl ?_
  refine ws_iload_n (i := 3) X d_L_law_186 rfl rfl ?_
  refine ws_iconst (v := 1) X d_L_law_187 rfl ?_
  refine ws_iadd X d_L_law_188 ?_
  refine ws_sld X hX hbl hbA (h1) d_L_law_189 ?_
  refine ws_aRload_n (i := 0) X d_L_law_190 rfl rfl ?_
  refine ws_iload_n (i := 3) X d_L_law_191 rfl rfl ?_
  refine ws_iconst (v := 2) X d_L_law_192 rfl ?_
  refine ws_iadd X d_L_law_193 ?_
  refine ws_sld X hX hbl hbA (h2) d_L_law_194 ?_
  refine ws_callV1 X (m_IF_alter _ _ _) cv_IF_alter ml_L_25 ob0 rfl rfl (Nat.le_of_ble_eq_true rfl) ⟨Nat.le_of_ble_eq_true rfl, Nat.le_of_ble_eq_true rfl⟩ ⟨Nat.le_refl _, Nat.le_refl _⟩ d_L_law_195 ?_
  refine ws_aload_n (i := 2) X d_L_law_198 rfl rfl ?_
  refine ws_aRload_n (i := 0) X d_L_law_199 rfl rfl ?_
  refine ws_iload_n (i := 3) X d_L_law_200 rfl rfl ?_
  refine ws_iconst (v := 1) X d_L_law_201 rfl ?_
  refine ws_iadd X d_L_law_202 ?_
  refine ws_sld X hX hbl hbA (h1) d_L_law_203 ?_
  refine ws_aRload_n (i := 0) X d_L_law_204 rfl rfl ?_
  refine ws_iload_n (i := 3) X d_L_law_205 rfl rfl ?_
  refine ws_iconst (v := 2) X d_L_law_206 rfl ?_
  refine ws_iadd X d_L_law_207 ?_
  refine ws_sld X hX hbl hbA (h2) d_L_law_208 ?_
  refine ws_callV1 X (LM_alter hR _ _) cv_M_alter ml_L_29 ob8 rfl rfl (Nat.le_of_ble_eq_true rfl) ⟨Nat.le_of_ble_eq_true rfl, Nat.le_of_ble_eq_true rfl⟩ ⟨Nat.le_refl _, Nat.le_refl _⟩ d_L_law_209 ?_
  refine ws_icmp_eq X d_L_law_212 (fun h212 => ?_) (fun h212 => ?_)
  · exact K _ ((L_alter hR _ _).2.1)
  · exact absurd rfl h212
set_option maxHeartbeats 2000000 in
theorem law_at (X : CX p s m0 args meth c0 G A c_L_law "InstrumentFilesLaw" 4 (some .boolean)) (hX : va_X b L xs s s.heap) (hbl : b < s.heap.size) (hbA : ¬ A b) (h1 : vp_in (i + 1) L) (h2 : vp_in (i + 2) L) (h3 : vp_in (i + 3) L) (h4 : vp_in (i + 4) L) (h5 : vp_in (i + 5) L) (h6 : vp_in (i + 6) L) (h7 : vp_in (i + 7) L) (h8 : vp_in (i + 8) L) (hR : RR S S) (K : ∀ S1, RR S1 S1 → WS p l e0 room_1 s m0 args below meth c0 G A 4 600000 7302250 Q 671 [some (.inl (.ref b)), some (.inr (0, 0)), some (.inr (8, 0)), some (.inl (.int i))] [] (S1)) : WS p l e0 room_1 s m0 args below meth c0 G A 4 600000 7302250 Q 217 [some (.inl (.ref b)), some (.inr (0, 0)), some (.inr (8, 0)), some (.inl (.int i))] [] (S) := by
  refine ws_aload_n (i := 1) X d_L_law_217 rfl rfl ?_
  refine ws_aRload_n (i := 0) X d_L_law_218 rfl rfl ?_
  refine ws_iload_n (i := 3) X d_L_law_219 rfl rfl ?_
  refine ws_iconst (v := 1) X d_L_law_220 rfl ?_
  refine ws_iadd X d_L_law_221 ?_
  refine ws_sld X hX hbl hbA (h1) d_L_law_222 ?_
  refine ws_callV1 X (m_IF_at _ _) cv_IF_at ml_L_30 ob0 rfl rfl (Nat.le_of_ble_eq_true rfl) ⟨Nat.le_of_ble_eq_true rfl, Nat.le_of_ble_eq_true rfl⟩ ⟨Nat.le_refl _, Nat.le_refl _⟩ d_L_law_223 ?_
  refine ws_aload_n (i := 2) X d_L_law_226 rfl rfl ?_
  refine ws_aRload_n (i := 0) X d_L_law_227 rfl rfl ?_
  refine ws_iload_n (i := 3) X d_L_law_228 rfl rfl ?_
  refine ws_iconst (v := 1) X d_L_law_229 rfl ?_
  refine ws_iadd X d_L_law_230 ?_
  refine ws_sld X hX hbl hbA (h1) d_L_law_231 ?_
  refine ws_callV1 X (LM_at hR _) cv_M_at ml_L_34 ob8 rfl rfl (Nat.le_of_ble_eq_true rfl) ⟨Nat.le_of_ble_eq_true rfl, Nat.le_of_ble_eq_true rfl⟩ ⟨Nat.le_refl _, Nat.le_refl _⟩ d_L_law_232 ?_
  refine ws_icmp_eq X d_L_law_235 (fun h235 => ?_) (fun h235 => ?_)
  · exact K _ (hR)
  · exact absurd rfl h235
set_option maxHeartbeats 2000000 in
theorem law_seal (X : CX p s m0 args meth c0 G A c_L_law "InstrumentFilesLaw" 4 (some .boolean)) (hX : va_X b L xs s s.heap) (hbl : b < s.heap.size) (hbA : ¬ A b) (h1 : vp_in (i + 1) L) (h2 : vp_in (i + 2) L) (h3 : vp_in (i + 3) L) (h4 : vp_in (i + 4) L) (h5 : vp_in (i + 5) L) (h6 : vp_in (i + 6) L) (h7 : vp_in (i + 7) L) (h8 : vp_in (i + 8) L) (hR : RR S S) (K : ∀ S1, RR S1 S1 → WS p l e0 room_1 s m0 args below meth c0 G A 4 600000 7302250 Q 671 [some (.inl (.ref b)), some (.inr (0, 0)), some (.inr (8, 0)), some (.inl (.int i))] [] (S1)) : WS p l e0 room_1 s m0 args below meth c0 G A 4 600000 7302250 Q 240 [some (.inl (.ref b)), some (.inr (0, 0)), some (.inr (8, 0)), some (.inl (.int i))] [] (S) := by
  rcases L_seal hR with ⟨z1, z2⟩ | ⟨k, k5, z1, z2, e, r⟩
  · skip
    refine ws_aload_n (i := 1) X d_L_law_240 rfl rfl ?_
    refine ws_callV1 X (m_IF_seal_0 _ z1) cv_IF_seal ml_L_35 ob0 rfl rfl (Nat.le_of_ble_eq_true rfl) ⟨Nat.le_of_ble_eq_true rfl, Nat.le_of_ble_eq_true rfl⟩ ⟨Nat.le_refl _, Nat.le_refl _⟩ d_L_law_241 ?_
    refine ws_aload_n (i := 2) X d_L_law_244 rfl rfl ?_
    refine ws_callV1 X (m_M_seal_0 _ z2) cv_M_seal ml_L_38 ob8 rfl rfl (Nat.le_of_ble_eq_true rfl) ⟨Nat.le_of_ble_eq_true rfl, Nat.le_of_ble_eq_true rfl⟩ ⟨Nat.le_refl _, Nat.le_refl _⟩ d_L_law_245 ?_
    refine ws_icmp_eq X d_L_law_248 (fun h248 => ?_) (fun h248 => ?_)
    · exact K _ hR
    · exact absurd rfl h248
  · skip
    refine ws_aload_n (i := 1) X d_L_law_240 rfl rfl ?_
    refine ws_callV1 X (m_IF_seal_s _ k k5 z1) cv_IF_seal ml_L_35 ob0 rfl rfl (Nat.le_of_ble_eq_true rfl) ⟨Nat.le_of_ble_eq_true rfl, Nat.le_of_ble_eq_true rfl⟩ ⟨Nat.le_refl _, Nat.le_refl _⟩ d_L_law_241 ?_
    refine ws_aload_n (i := 2) X d_L_law_244 rfl rfl ?_
    refine ws_callV1 X (m_M_seal_s _ k k5 z2) cv_M_seal ml_L_38 ob8 rfl rfl (Nat.le_of_ble_eq_true rfl) ⟨Nat.le_of_ble_eq_true rfl, Nat.le_of_ble_eq_true rfl⟩ ⟨Nat.le_refl _, Nat.le_refl _⟩ d_L_law_245 ?_
    refine ws_icmp_eq X d_L_law_248 (fun h248 => ?_) (fun h248 => ?_)
    · exact K _ r
    · exact absurd e h248
set_option maxHeartbeats 2000000 in
theorem law_read (X : CX p s m0 args meth c0 G A c_L_law "InstrumentFilesLaw" 4 (some .boolean)) (hX : va_X b L xs s s.heap) (hbl : b < s.heap.size) (hbA : ¬ A b) (h1 : vp_in (i + 1) L) (h2 : vp_in (i + 2) L) (h3 : vp_in (i + 3) L) (h4 : vp_in (i + 4) L) (h5 : vp_in (i + 5) L) (h6 : vp_in (i + 6) L) (h7 : vp_in (i + 7) L) (h8 : vp_in (i + 8) L) (hR : RR S S) (K : ∀ S1, RR S1 S1 → WS p l e0 room_1 s m0 args below meth c0 G A 4 600000 7302250 Q 671 [some (.inl (.ref b)), some (.inr (0, 0)), some (.inr (8, 0)), some (.inl (.int i))] [] (S1)) : WS p l e0 room_1 s m0 args below meth c0 G A 4 600000 7302250 Q 253 [some (.inl (.ref b)), some (.inr (0, 0)), some (.inr (8, 0)), some (.inl (.int i))] [] (S) := by
  obtain ⟨tk, k, k', en, hG, j1, j2, j3, j4, j5⟩ := L_read hR
  refine ws_aload_n (i := 1) X d_L_law_253 rfl rfl ?_
  refine ws_callV1 X (m_IF_read _ tk k hG) cv_IF_read ml_L_39 ob0 rfl rfl (Nat.le_of_ble_eq_true rfl) ⟨Nat.le_of_ble_eq_true rfl, Nat.le_of_ble_eq_true rfl⟩ ⟨Nat.le_refl _, Nat.le_refl _⟩ d_L_law_254 ?_
  refine ws_aload_n (i := 2) X d_L_law_257 rfl rfl ?_
  refine ws_callV1 X (m_M_read _ k' en j1 j2 j3) cv_M_read ml_L_42 ob8 rfl rfl (Nat.le_of_ble_eq_true rfl) ⟨Nat.le_of_ble_eq_true rfl, Nat.le_of_ble_eq_true rfl⟩ ⟨Nat.le_refl _, Nat.le_refl _⟩ d_L_law_258 ?_
  refine ws_icmp_eq X d_L_law_261 (fun h261 => ?_) (fun h261 => ?_)
  · exact K _ j5
  · exact absurd j4 h261
set_option maxHeartbeats 2000000 in
theorem law_fault (X : CX p s m0 args meth c0 G A c_L_law "InstrumentFilesLaw" 4 (some .boolean)) (hX : va_X b L xs s s.heap) (hbl : b < s.heap.size) (hbA : ¬ A b) (h1 : vp_in (i + 1) L) (h2 : vp_in (i + 2) L) (h3 : vp_in (i + 3) L) (h4 : vp_in (i + 4) L) (h5 : vp_in (i + 5) L) (h6 : vp_in (i + 6) L) (h7 : vp_in (i + 7) L) (h8 : vp_in (i + 8) L) (hR : RR S S) (K : ∀ S1, RR S1 S1 → WS p l e0 room_1 s m0 args below meth c0 G A 4 600000 7302250 Q 671 [some (.inl (.ref b)), some (.inr (0, 0)), some (.inr (8, 0)), some (.inl (.int i))] [] (S1)) : WS p l e0 room_1 s m0 args below meth c0 G A 4 600000 7302250 Q 266 [some (.inl (.ref b)), some (.inr (0, 0)), some (.inr (8, 0)), some (.inl (.int i))] [] (S) := by
  refine ws_aload_n (i := 1) X d_L_law_266 rfl rfl ?_
  refine ws_callV1 X (m_IF_fault _) cv_IF_fault ml_L_43 ob0 rfl rfl (Nat.le_of_ble_eq_true rfl) ⟨Nat.le_of_ble_eq_true rfl, Nat.le_of_ble_eq_true rfl⟩ ⟨Nat.le_refl _, Nat.le_refl _⟩ d_L_law_267 ?_
  refine ws_aload_n (i := 2) X d_L_law_270 rfl rfl ?_
  refine ws_callV1 X (LM_fault hR) cv_M_fault ml_L_46 ob8 rfl rfl (Nat.le_of_ble_eq_true rfl) ⟨Nat.le_of_ble_eq_true rfl, Nat.le_of_ble_eq_true rfl⟩ ⟨Nat.le_refl _, Nat.le_refl _⟩ d_L_law_271 ?_
  refine ws_icmp_eq X d_L_law_274 (fun h274 => ?_) (fun h274 => ?_)
  · exact K _ (hR)
  · exact absurd rfl h274
set_option maxHeartbeats 2000000 in
theorem law_table (X : CX p s m0 args meth c0 G A c_L_law "InstrumentFilesLaw" 4 (some .boolean)) (hX : va_X b L xs s s.heap) (hbl : b < s.heap.size) (hbA : ¬ A b) (h1 : vp_in (i + 1) L) (h2 : vp_in (i + 2) L) (h3 : vp_in (i + 3) L) (h4 : vp_in (i + 4) L) (h5 : vp_in (i + 5) L) (h6 : vp_in (i + 6) L) (h7 : vp_in (i + 7) L) (h8 : vp_in (i + 8) L) (hR : RR S S) (K : ∀ S1, RR S1 S1 → WS p l e0 room_1 s m0 args below meth c0 G A 4 600000 7302250 Q 671 [some (.inl (.ref b)), some (.inr (0, 0)), some (.inr (8, 0)), some (.inl (.int i))] [] (S1)) : WS p l e0 room_1 s m0 args below meth c0 G A 4 600000 7302250 Q 279 [some (.inl (.ref b)), some (.inr (0, 0)), some (.inr (8, 0)), some (.inl (.int i))] [] (S) := by
  refine ws_aload_n (i := 1) X d_L_law_279 rfl rfl ?_
  refine ws_aRload_n (i := 0) X d_L_law_280 rfl rfl ?_
  refine ws_iload_n (i := 3) X d_L_law_281 rfl rfl ?_
  refine ws_iconst (v := 1) X d_L_law_282 rfl ?_
  refine ws_iadd X d_L_law_283 ?_
  refine ws_sld X hX hbl hbA (h1) d_L_law_284 ?_
  refine ws_aRload_n (i := 0) X d_L_law_285 rfl rfl ?_
  refine ws_iload_n (i := 3) X d_L_law_286 rfl rfl ?_
  refine ws_iconst (v := 2) X d_L_law_287 rfl ?_
  refine ws_iadd X d_L_law_288 ?_
  refine ws_sld X hX hbl hbA (h2) d_L_law_289 ?_
  refine ws_i2l X d_L_law_290 ?_
  refine ws_bipush (v := 32) X d_L_law_291 rfl ?_
  refine ws_lshl X d_L_law_293 ?_
  refine ws_aRload_n (i := 0) X d_L_law_294 rfl rfl ?_
  refine ws_iload_n (i := 3) X d_L_law_295 rfl rfl ?_
  refine ws_iconst (v := 3) X d_L_law_296 rfl ?_
  refine ws_iadd X d_L_law_297 ?_
  refine ws_sld X hX hbl hbA (h3) d_L_law_298 ?_
  refine ws_i2l X d_L_law_299 ?_
  refine ws_ldc2 X d_L_law_300 ct_L_13 ?_
  refine ws_land X d_L_law_303 ?_
  refine ws_lor X d_L_law_304 ?_
  refine ws_callV1 X (m_IF_table _ _ _) cv_IF_table ml_L_47 ob0 rfl rfl (Nat.le_of_ble_eq_true rfl) ⟨Nat.le_of_ble_eq_true rfl, Nat.le_of_ble_eq_true rfl⟩ ⟨Nat.le_refl _, Nat.le_refl _⟩ d_L_law_305 ?_
  refine ws_aload_n (i := 2) X d_L_law_308 rfl rfl ?_
  refine ws_aRload_n (i := 0) X d_L_law_309 rfl rfl ?_
  refine ws_iload_n (i := 3) X d_L_law_310 rfl rfl ?_
  refine ws_iconst (v := 1) X d_L_law_311 rfl ?_
  refine ws_iadd X d_L_law_312 ?_
  refine ws_sld X hX hbl hbA (h1) d_L_law_313 ?_
  refine ws_aRload_n (i := 0) X d_L_law_314 rfl rfl ?_
  refine ws_iload_n (i := 3) X d_L_law_315 rfl rfl ?_
  refine ws_iconst (v := 2) X d_L_law_316 rfl ?_
  refine ws_iadd X d_L_law_317 ?_
  refine ws_sld X hX hbl hbA (h2) d_L_law_318 ?_
  refine ws_i2l X d_L_law_319 ?_
  refine ws_bipush (v := 32) X d_L_law_320 rfl ?_
  refine ws_lshl X d_L_law_322 ?_
  refine ws_aRload_n (i := 0) X d_L_law_323 rfl rfl ?_
  refine ws_iload_n (i := 3) X d_L_law_324 rfl rfl ?_
  refine ws_iconst (v := 3) X d_L_law_325 rfl ?_
  refine ws_iadd X d_L_law_326 ?_
  refine ws_sld X hX hbl hbA (h3) d_L_law_327 ?_
  refine ws_i2l X d_L_law_328 ?_
  refine ws_ldc2 X d_L_law_329 ct_L_13 ?_
  refine ws_land X d_L_law_332 ?_
  refine ws_lor X d_L_law_333 ?_
  refine ws_callV1 X (LM_table hR _ _) cv_M_table ml_L_51 ob8 rfl rfl (Nat.le_of_ble_eq_true rfl) ⟨Nat.le_of_ble_eq_true rfl, Nat.le_of_ble_eq_true rfl⟩ ⟨Nat.le_refl _, Nat.le_refl _⟩ d_L_law_334 ?_
  refine ws_icmp_eq X d_L_law_337 (fun h337 => ?_) (fun h337 => ?_)
  · exact K _ ((L_table hR _ _).2)
  · exact absurd rfl h337
set_option maxHeartbeats 2000000 in
theorem law_method (X : CX p s m0 args meth c0 G A c_L_law "InstrumentFilesLaw" 4 (some .boolean)) (hX : va_X b L xs s s.heap) (hbl : b < s.heap.size) (hbA : ¬ A b) (h1 : vp_in (i + 1) L) (h2 : vp_in (i + 2) L) (h3 : vp_in (i + 3) L) (h4 : vp_in (i + 4) L) (h5 : vp_in (i + 5) L) (h6 : vp_in (i + 6) L) (h7 : vp_in (i + 7) L) (h8 : vp_in (i + 8) L) (hR : RR S S) (K : ∀ S1, RR S1 S1 → WS p l e0 room_1 s m0 args below meth c0 G A 4 600000 7302250 Q 671 [some (.inl (.ref b)), some (.inr (0, 0)), some (.inr (8, 0)), some (.inl (.int i))] [] (S1)) : WS p l e0 room_1 s m0 args below meth c0 G A 4 600000 7302250 Q 342 [some (.inl (.ref b)), some (.inr (0, 0)), some (.inr (8, 0)), some (.inl (.int i))] [] (S) := by
  refine ws_aload_n (i := 1) X d_L_law_342 rfl rfl ?_
  refine ws_aRload_n (i := 0) X d_L_law_343 rfl rfl ?_
  refine ws_iload_n (i := 3) X d_L_law_344 rfl rfl ?_
  refine ws_iconst (v := 1) X d_L_law_345 rfl ?_
  refine ws_iadd X d_L_law_346 ?_
  refine ws_sld X hX hbl hbA (h1) d_L_law_347 ?_
  refine ws_aRload_n (i := 0) X d_L_law_348 rfl rfl ?_
  refine ws_iload_n (i := 3) X d_L_law_349 rfl rfl ?_
  refine ws_iconst (v := 2) X d_L_law_350 rfl ?_
  refine ws_iadd X d_L_law_351 ?_
  refine ws_sld X hX hbl hbA (h2) d_L_law_352 ?_
  refine ws_callV1 X (m_IF_method _ _ _) cv_IF_method ml_L_52 ob0 rfl rfl (Nat.le_of_ble_eq_true rfl) ⟨Nat.le_of_ble_eq_true rfl, Nat.le_of_ble_eq_true rfl⟩ ⟨Nat.le_refl _, Nat.le_refl _⟩ d_L_law_353 ?_
  refine ws_aload_n (i := 2) X d_L_law_356 rfl rfl ?_
  refine ws_aRload_n (i := 0) X d_L_law_357 rfl rfl ?_
  refine ws_iload_n (i := 3) X d_L_law_358 rfl rfl ?_
  refine ws_iconst (v := 1) X d_L_law_359 rfl ?_
  refine ws_iadd X d_L_law_360 ?_
  refine ws_sld X hX hbl hbA (h1) d_L_law_361 ?_
  refine ws_aRload_n (i := 0) X d_L_law_362 rfl rfl ?_
  refine ws_iload_n (i := 3) X d_L_law_363 rfl rfl ?_
  refine ws_iconst (v := 2) X d_L_law_364 rfl ?_
  refine ws_iadd X d_L_law_365 ?_
  refine ws_sld X hX hbl hbA (h2) d_L_law_366 ?_
  refine ws_callV1 X (LM_method hR _ _) cv_M_method ml_L_55 ob8 rfl rfl (Nat.le_of_ble_eq_true rfl) ⟨Nat.le_of_ble_eq_true rfl, Nat.le_of_ble_eq_true rfl⟩ ⟨Nat.le_refl _, Nat.le_refl _⟩ d_L_law_367 ?_
  refine ws_icmp_eq X d_L_law_370 (fun h370 => ?_) (fun h370 => ?_)
  · exact K _ (hR)
  · exact absurd rfl h370
set_option maxHeartbeats 2000000 in
theorem law_pool (X : CX p s m0 args meth c0 G A c_L_law "InstrumentFilesLaw" 4 (some .boolean)) (hX : va_X b L xs s s.heap) (hbl : b < s.heap.size) (hbA : ¬ A b) (h1 : vp_in (i + 1) L) (h2 : vp_in (i + 2) L) (h3 : vp_in (i + 3) L) (h4 : vp_in (i + 4) L) (h5 : vp_in (i + 5) L) (h6 : vp_in (i + 6) L) (h7 : vp_in (i + 7) L) (h8 : vp_in (i + 8) L) (hR : RR S S) (K : ∀ S1, RR S1 S1 → WS p l e0 room_1 s m0 args below meth c0 G A 4 600000 7302250 Q 671 [some (.inl (.ref b)), some (.inr (0, 0)), some (.inr (8, 0)), some (.inl (.int i))] [] (S1)) : WS p l e0 room_1 s m0 args below meth c0 G A 4 600000 7302250 Q 375 [some (.inl (.ref b)), some (.inr (0, 0)), some (.inr (8, 0)), some (.inl (.int i))] [] (S) := by
  refine ws_aload_n (i := 1) X d_L_law_375 rfl rfl ?_
  refine ws_aRload_n (i := 0) X d_L_law_376 rfl rfl ?_
  refine ws_iload_n (i := 3) X d_L_law_377 rfl rfl ?_
  refine ws_iconst (v := 1) X d_L_law_378 rfl ?_
  refine ws_iadd X d_L_law_379 ?_
  refine ws_sld X hX hbl hbA (h1) d_L_law_380 ?_
  refine ws_aRload_n (i := 0) X d_L_law_381 rfl rfl ?_
  refine ws_iload_n (i := 3) X d_L_law_382 rfl rfl ?_
  refine ws_iconst (v := 2) X d_L_law_383 rfl ?_
  refine ws_iadd X d_L_law_384 ?_
  refine ws_sld X hX hbl hbA (h2) d_L_law_385 ?_
  refine ws_callV1 X (m_IF_pool _ _ _) cv_IF_pool ml_L_56 ob0 rfl rfl (Nat.le_of_ble_eq_true rfl) ⟨Nat.le_of_ble_eq_true rfl, Nat.le_of_ble_eq_true rfl⟩ ⟨Nat.le_refl _, Nat.le_refl _⟩ d_L_law_386 ?_
  refine ws_aload_n (i := 2) X d_L_law_389 rfl rfl ?_
  refine ws_aRload_n (i := 0) X d_L_law_390 rfl rfl ?_
  refine ws_iload_n (i := 3) X d_L_law_391 rfl rfl ?_
  refine ws_iconst (v := 1) X d_L_law_392 rfl ?_
  refine ws_iadd X d_L_law_393 ?_
  refine ws_sld X hX hbl hbA (h1) d_L_law_394 ?_
  refine ws_aRload_n (i := 0) X d_L_law_395 rfl rfl ?_
  refine ws_iload_n (i := 3) X d_L_law_396 rfl rfl ?_
  refine ws_iconst (v := 2) X d_L_law_397 rfl ?_
  refine ws_iadd X d_L_law_398 ?_
  refine ws_sld X hX hbl hbA (h2) d_L_law_399 ?_
  refine ws_callV1 X (LM_pool hR _ _) cv_M_pool ml_L_60 ob8 rfl rfl (Nat.le_of_ble_eq_true rfl) ⟨Nat.le_of_ble_eq_true rfl, Nat.le_of_ble_eq_true rfl⟩ ⟨Nat.le_refl _, Nat.le_refl _⟩ d_L_law_400 ?_
  refine ws_lcmp_eq X d_L_law_403 d_L_law_404 (fun h403 => ?_) (fun h403 => ?_)
  · exact K _ (hR)
  · exact absurd rfl h403
set_option maxHeartbeats 2000000 in
theorem law_kind (X : CX p s m0 args meth c0 G A c_L_law "InstrumentFilesLaw" 4 (some .boolean)) (hX : va_X b L xs s s.heap) (hbl : b < s.heap.size) (hbA : ¬ A b) (h1 : vp_in (i + 1) L) (h2 : vp_in (i + 2) L) (h3 : vp_in (i + 3) L) (h4 : vp_in (i + 4) L) (h5 : vp_in (i + 5) L) (h6 : vp_in (i + 6) L) (h7 : vp_in (i + 7) L) (h8 : vp_in (i + 8) L) (hR : RR S S) (K : ∀ S1, RR S1 S1 → WS p l e0 room_1 s m0 args below meth c0 G A 4 600000 7302250 Q 671 [some (.inl (.ref b)), some (.inr (0, 0)), some (.inr (8, 0)), some (.inl (.int i))] [] (S1)) : WS p l e0 room_1 s m0 args below meth c0 G A 4 600000 7302250 Q 409 [some (.inl (.ref b)), some (.inr (0, 0)), some (.inr (8, 0)), some (.inl (.int i))] [] (S) := by
  refine ws_aload_n (i := 1) X d_L_law_409 rfl rfl ?_
  refine ws_aRload_n (i := 0) X d_L_law_410 rfl rfl ?_
  refine ws_iload_n (i := 3) X d_L_law_411 rfl rfl ?_
  refine ws_iconst (v := 1) X d_L_law_412 rfl ?_
  refine ws_iadd X d_L_law_413 ?_
  refine ws_sld X hX hbl hbA (h1) d_L_law_414 ?_
  refine ws_aRload_n (i := 0) X d_L_law_415 rfl rfl ?_
  refine ws_iload_n (i := 3) X d_L_law_416 rfl rfl ?_
  refine ws_iconst (v := 2) X d_L_law_417 rfl ?_
  refine ws_iadd X d_L_law_418 ?_
  refine ws_sld X hX hbl hbA (h2) d_L_law_419 ?_
  refine ws_aRload_n (i := 0) X d_L_law_420 rfl rfl ?_
  refine ws_iload_n (i := 3) X d_L_law_421 rfl rfl ?_
  refine ws_iconst (v := 3) X d_L_law_422 rfl ?_
  refine ws_iadd X d_L_law_423 ?_
  refine ws_sld X hX hbl hbA (h3) d_L_law_424 ?_
  refine ws_callV1 X (m_IF_kind _ _ _ _) cv_IF_kind ml_L_61 ob0 rfl rfl (Nat.le_of_ble_eq_true rfl) ⟨Nat.le_of_ble_eq_true rfl, Nat.le_of_ble_eq_true rfl⟩ ⟨Nat.le_refl _, Nat.le_refl _⟩ d_L_law_425 ?_
  refine ws_aload_n (i := 2) X d_L_law_428 rfl rfl ?_
  refine ws_aRload_n (i := 0) X d_L_law_429 rfl rfl ?_
  refine ws_iload_n (i := 3) X d_L_law_430 rfl rfl ?_
  refine ws_iconst (v := 1) X d_L_law_431 rfl ?_
  refine ws_iadd X d_L_law_432 ?_
  refine ws_sld X hX hbl hbA (h1) d_L_law_433 ?_
  refine ws_aRload_n (i := 0) X d_L_law_434 rfl rfl ?_
  refine ws_iload_n (i := 3) X d_L_law_435 rfl rfl ?_
  refine ws_iconst (v := 2) X d_L_law_436 rfl ?_
  refine ws_iadd X d_L_law_437 ?_
  refine ws_sld X hX hbl hbA (h2) d_L_law_438 ?_
  refine ws_aRload_n (i := 0) X d_L_law_439 rfl rfl ?_
  refine ws_iload_n (i := 3) X d_L_law_440 rfl rfl ?_
  refine ws_iconst (v := 3) X d_L_law_441 rfl ?_
  refine ws_iadd X d_L_law_442 ?_
  refine ws_sld X hX hbl hbA (h3) d_L_law_443 ?_
  refine ws_callV1 X (LM_kind hR _ _ _) cv_M_kind ml_L_65 ob8 rfl rfl (Nat.le_of_ble_eq_true rfl) ⟨Nat.le_of_ble_eq_true rfl, Nat.le_of_ble_eq_true rfl⟩ ⟨Nat.le_refl _, Nat.le_refl _⟩ d_L_law_444 ?_
  refine ws_icmp_eq X d_L_law_447 (fun h447 => ?_) (fun h447 => ?_)
  · exact K _ (hR)
  · exact absurd rfl h447
set_option maxHeartbeats 2000000 in
theorem law_call (X : CX p s m0 args meth c0 G A c_L_law "InstrumentFilesLaw" 4 (some .boolean)) (hX : va_X b L xs s s.heap) (hbl : b < s.heap.size) (hbA : ¬ A b) (h1 : vp_in (i + 1) L) (h2 : vp_in (i + 2) L) (h3 : vp_in (i + 3) L) (h4 : vp_in (i + 4) L) (h5 : vp_in (i + 5) L) (h6 : vp_in (i + 6) L) (h7 : vp_in (i + 7) L) (h8 : vp_in (i + 8) L) (hR : RR S S) (K : ∀ S1, RR S1 S1 → WS p l e0 room_1 s m0 args below meth c0 G A 4 600000 7302250 Q 671 [some (.inl (.ref b)), some (.inr (0, 0)), some (.inr (8, 0)), some (.inl (.int i))] [] (S1)) : WS p l e0 room_1 s m0 args below meth c0 G A 4 600000 7302250 Q 452 [some (.inl (.ref b)), some (.inr (0, 0)), some (.inr (8, 0)), some (.inl (.int i))] [] (S) := by
  refine ws_aload_n (i := 1) X d_L_law_452 rfl rfl ?_
  refine ws_aRload_n (i := 0) X d_L_law_453 rfl rfl ?_
  refine ws_iload_n (i := 3) X d_L_law_454 rfl rfl ?_
  refine ws_iconst (v := 1) X d_L_law_455 rfl ?_
  refine ws_iadd X d_L_law_456 ?_
  refine ws_sld X hX hbl hbA (h1) d_L_law_457 ?_
  refine ws_aRload_n (i := 0) X d_L_law_458 rfl rfl ?_
  refine ws_iload_n (i := 3) X d_L_law_459 rfl rfl ?_
  refine ws_iconst (v := 2) X d_L_law_460 rfl ?_
  refine ws_iadd X d_L_law_461 ?_
  refine ws_sld X hX hbl hbA (h2) d_L_law_462 ?_
  refine ws_i2l X d_L_law_463 ?_
  refine ws_bipush (v := 32) X d_L_law_464 rfl ?_
  refine ws_lshl X d_L_law_466 ?_
  refine ws_aRload_n (i := 0) X d_L_law_467 rfl rfl ?_
  refine ws_iload_n (i := 3) X d_L_law_468 rfl rfl ?_
  refine ws_iconst (v := 3) X d_L_law_469 rfl ?_
  refine ws_iadd X d_L_law_470 ?_
  refine ws_sld X hX hbl hbA (h3) d_L_law_471 ?_
  refine ws_i2l X d_L_law_472 ?_
  refine ws_ldc2 X d_L_law_473 ct_L_13 ?_
  refine ws_land X d_L_law_476 ?_
  refine ws_lor X d_L_law_477 ?_
  refine ws_aRload_n (i := 0) X d_L_law_478 rfl rfl ?_
  refine ws_iload_n (i := 3) X d_L_law_479 rfl rfl ?_
  refine ws_iconst (v := 4) X d_L_law_480 rfl ?_
  refine ws_iadd X d_L_law_481 ?_
  refine ws_sld X hX hbl hbA (h4) d_L_law_482 ?_
  refine ws_i2l X d_L_law_483 ?_
  refine ws_bipush (v := 32) X d_L_law_484 rfl ?_
  refine ws_lshl X d_L_law_486 ?_
  refine ws_aRload_n (i := 0) X d_L_law_487 rfl rfl ?_
  refine ws_iload_n (i := 3) X d_L_law_488 rfl rfl ?_
  refine ws_iconst (v := 5) X d_L_law_489 rfl ?_
  refine ws_iadd X d_L_law_490 ?_
  refine ws_sld X hX hbl hbA (h5) d_L_law_491 ?_
  refine ws_i2l X d_L_law_492 ?_
  refine ws_ldc2 X d_L_law_493 ct_L_13 ?_
  refine ws_land X d_L_law_496 ?_
  refine ws_lor X d_L_law_497 ?_
  refine ws_aRload_n (i := 0) X d_L_law_498 rfl rfl ?_
  refine ws_iload_n (i := 3) X d_L_law_499 rfl rfl ?_
  refine ws_bipush (v := 6) X d_L_law_500 rfl ?_
  refine ws_iadd X d_L_law_502 ?_
  refine ws_sld X hX hbl hbA (h6) d_L_law_503 ?_
  refine ws_i2l X d_L_law_504 ?_
  refine ws_bipush (v := 32) X d_L_law_505 rfl ?_
  refine ws_lshl X d_L_law_507 ?_
  refine ws_aRload_n (i := 0) X d_L_law_508 rfl rfl ?_
  refine ws_iload_n (i := 3) X d_L_law_509 rfl rfl ?_
  refine ws_bipush (v := 7) X d_L_law_510 rfl ?_
  refine ws_iadd X d_L_law_512 ?_
  refine ws_sld X hX hbl hbA (h7) d_L_law_513 ?_
  refine ws_i2l X d_L_law_514 ?_
  refine ws_ldc2 X d_L_law_515 ct_L_13 ?_
  refine ws_land X d_L_law_518 ?_
  refine ws_lor X d_L_law_519 ?_
  refine ws_aRload_n (i := 0) X d_L_law_520 rfl rfl ?_
  refine ws_iload_n (i := 3) X d_L_law_521 rfl rfl ?_
  refine ws_bipush (v := 8) X d_L_law_522 rfl ?_
  refine ws_iadd X d_L_law_524 ?_
  refine ws_sld X hX hbl hbA (h8) d_L_law_525 ?_
  refine ws_callV1 X (LX_call hR _ _ _ _ _) cv_IF_call ml_L_66 ob0 rfl rfl (Nat.le_of_ble_eq_true rfl) ⟨Nat.le_of_ble_eq_true rfl, Nat.le_of_ble_eq_true rfl⟩ ⟨Nat.le_refl _, Nat.le_refl _⟩ d_L_law_526 ?_
  refine ws_aload_n (i := 2) X d_L_law_529 rfl rfl ?_
  refine ws_aRload_n (i := 0) X d_L_law_530 rfl rfl ?_
  refine ws_iload_n (i := 3) X d_L_law_531 rfl rfl ?_
  refine ws_iconst (v := 1) X d_L_law_532 rfl ?_
  refine ws_iadd X d_L_law_533 ?_
  refine ws_sld X hX hbl hbA (h1) d_L_law_534 ?_
  refine ws_aRload_n (i := 0) X d_L_law_535 rfl rfl ?_
  refine ws_iload_n (i := 3) X d_L_law_536 rfl rfl ?_
  refine ws_iconst (v := 2) X d_L_law_537 rfl ?_
  refine ws_iadd X d_L_law_538 ?_
  refine ws_sld X hX hbl hbA (h2) d_L_law_539 ?_
  refine ws_i2l X d_L_law_540 ?_
  refine ws_bipush (v := 32) X d_L_law_541 rfl ?_
  refine ws_lshl X d_L_law_543 ?_
  refine ws_aRload_n (i := 0) X d_L_law_544 rfl rfl ?_
  refine ws_iload_n (i := 3) X d_L_law_545 rfl rfl ?_
  refine ws_iconst (v := 3) X d_L_law_546 rfl ?_
  refine ws_iadd X d_L_law_547 ?_
  refine ws_sld X hX hbl hbA (h3) d_L_law_548 ?_
  refine ws_i2l X d_L_law_549 ?_
  refine ws_ldc2 X d_L_law_550 ct_L_13 ?_
  refine ws_land X d_L_law_553 ?_
  refine ws_lor X d_L_law_554 ?_
  refine ws_aRload_n (i := 0) X d_L_law_555 rfl rfl ?_
  refine ws_iload_n (i := 3) X d_L_law_556 rfl rfl ?_
  refine ws_iconst (v := 4) X d_L_law_557 rfl ?_
  refine ws_iadd X d_L_law_558 ?_
  refine ws_sld X hX hbl hbA (h4) d_L_law_559 ?_
  refine ws_i2l X d_L_law_560 ?_
  refine ws_bipush (v := 32) X d_L_law_561 rfl ?_
  refine ws_lshl X d_L_law_563 ?_
  refine ws_aRload_n (i := 0) X d_L_law_564 rfl rfl ?_
  refine ws_iload_n (i := 3) X d_L_law_565 rfl rfl ?_
  refine ws_iconst (v := 5) X d_L_law_566 rfl ?_
  refine ws_iadd X d_L_law_567 ?_
  refine ws_sld X hX hbl hbA (h5) d_L_law_568 ?_
  refine ws_i2l X d_L_law_569 ?_
  refine ws_ldc2 X d_L_law_570 ct_L_13 ?_
  refine ws_land X d_L_law_573 ?_
  refine ws_lor X d_L_law_574 ?_
  refine ws_aRload_n (i := 0) X d_L_law_575 rfl rfl ?_
  refine ws_iload_n (i := 3) X d_L_law_576 rfl rfl ?_
  refine ws_bipush (v := 6) X d_L_law_577 rfl ?_
  refine ws_iadd X d_L_law_579 ?_
  refine ws_sld X hX hbl hbA (h6) d_L_law_580 ?_
  refine ws_i2l X d_L_law_581 ?_
  refine ws_bipush (v := 32) X d_L_law_582 rfl ?_
  refine ws_lshl X d_L_law_584 ?_
  refine ws_aRload_n (i := 0) X d_L_law_585 rfl rfl ?_
  refine ws_iload_n (i := 3) X d_L_law_586 rfl rfl ?_
  refine ws_bipush (v := 7) X d_L_law_587 rfl ?_
  refine ws_iadd X d_L_law_589 ?_
  refine ws_sld X hX hbl hbA (h7) d_L_law_590 ?_
  refine ws_i2l X d_L_law_591 ?_
  refine ws_ldc2 X d_L_law_592 ct_L_13 ?_
  refine ws_land X d_L_law_595 ?_
  refine ws_lor X d_L_law_596 ?_
  refine ws_aRload_n (i := 0) X d_L_law_597 rfl rfl ?_
  refine ws_iload_n (i := 3) X d_L_law_598 rfl rfl ?_
  refine ws_bipush (v := 8) X d_L_law_599 rfl ?_
  refine ws_iadd X d_L_law_601 ?_
  refine ws_sld X hX hbl hbA (h8) d_L_law_602 ?_
  refine ws_callV1 X (LM_call hR _ _ _ _ _) cv_M_call ml_L_70 ob8 rfl rfl (Nat.le_of_ble_eq_true rfl) ⟨Nat.le_of_ble_eq_true rfl, Nat.le_of_ble_eq_true rfl⟩ ⟨Nat.le_refl _, Nat.le_refl _⟩ d_L_law_603 ?_
  refine ws_icmp_eq X d_L_law_606 (fun h606 => ?_) (fun h606 => ?_)
  · exact K _ (LR_call hR _ _ _ _ _)
  · exact absurd rfl h606
set_option maxHeartbeats 2000000 in
theorem law_result (X : CX p s m0 args meth c0 G A c_L_law "InstrumentFilesLaw" 4 (some .boolean)) (hX : va_X b L xs s s.heap) (hbl : b < s.heap.size) (hbA : ¬ A b) (h1 : vp_in (i + 1) L) (h2 : vp_in (i + 2) L) (h3 : vp_in (i + 3) L) (h4 : vp_in (i + 4) L) (h5 : vp_in (i + 5) L) (h6 : vp_in (i + 6) L) (h7 : vp_in (i + 7) L) (h8 : vp_in (i + 8) L) (hR : RR S S) (K : ∀ S1, RR S1 S1 → WS p l e0 room_1 s m0 args below meth c0 G A 4 600000 7302250 Q 671 [some (.inl (.ref b)), some (.inr (0, 0)), some (.inr (8, 0)), some (.inl (.int i))] [] (S1)) : WS p l e0 room_1 s m0 args below meth c0 G A 4 600000 7302250 Q 611 [some (.inl (.ref b)), some (.inr (0, 0)), some (.inr (8, 0)), some (.inl (.int i))] [] (S) := by
  refine ws_aload_n (i := 1) X d_L_law_611 rfl rfl ?_
  refine ws_callV1 X (m_IF_result _) cv_IF_result ml_L_71 ob0 rfl rfl (Nat.le_of_ble_eq_true rfl) ⟨Nat.le_of_ble_eq_true rfl, Nat.le_of_ble_eq_true rfl⟩ ⟨Nat.le_refl _, Nat.le_refl _⟩ d_L_law_612 ?_
  refine ws_aload_n (i := 2) X d_L_law_615 rfl rfl ?_
  refine ws_callV1 X (LM_result hR) cv_M_result ml_L_75 ob8 rfl rfl (Nat.le_of_ble_eq_true rfl) ⟨Nat.le_of_ble_eq_true rfl, Nat.le_of_ble_eq_true rfl⟩ ⟨Nat.le_refl _, Nat.le_refl _⟩ d_L_law_616 ?_
  refine ws_lcmp_eq X d_L_law_619 d_L_law_620 (fun h619 => ?_) (fun h619 => ?_)
  · exact K _ (hR)
  · exact absurd rfl h619
set_option maxHeartbeats 2000000 in
theorem law_told (X : CX p s m0 args meth c0 G A c_L_law "InstrumentFilesLaw" 4 (some .boolean)) (hX : va_X b L xs s s.heap) (hbl : b < s.heap.size) (hbA : ¬ A b) (h1 : vp_in (i + 1) L) (h2 : vp_in (i + 2) L) (h3 : vp_in (i + 3) L) (h4 : vp_in (i + 4) L) (h5 : vp_in (i + 5) L) (h6 : vp_in (i + 6) L) (h7 : vp_in (i + 7) L) (h8 : vp_in (i + 8) L) (hR : RR S S) (K : ∀ S1, RR S1 S1 → WS p l e0 room_1 s m0 args below meth c0 G A 4 600000 7302250 Q 671 [some (.inl (.ref b)), some (.inr (0, 0)), some (.inr (8, 0)), some (.inl (.int i))] [] (S1)) : WS p l e0 room_1 s m0 args below meth c0 G A 4 600000 7302250 Q 625 [some (.inl (.ref b)), some (.inr (0, 0)), some (.inr (8, 0)), some (.inl (.int i))] [] (S) := by
  refine ws_aload_n (i := 1) X d_L_law_625 rfl rfl ?_
  refine ws_aRload_n (i := 0) X d_L_law_626 rfl rfl ?_
  refine ws_iload_n (i := 3) X d_L_law_627 rfl rfl ?_
  refine ws_iconst (v := 1) X d_L_law_628 rfl ?_
  refine ws_iadd X d_L_law_629 ?_
  refine ws_sld X hX hbl hbA (h1) d_L_law_630 ?_
  refine ws_callV1 X (m_IF_told _ _) cv_IF_told ml_L_76 ob0 rfl rfl (Nat.le_of_ble_eq_true rfl) ⟨Nat.le_of_ble_eq_true rfl, Nat.le_of_ble_eq_true rfl⟩ ⟨Nat.le_refl _, Nat.le_refl _⟩ d_L_law_631 ?_
  refine ws_aload_n (i := 2) X d_L_law_634 rfl rfl ?_
  refine ws_aRload_n (i := 0) X d_L_law_635 rfl rfl ?_
  refine ws_iload_n (i := 3) X d_L_law_636 rfl rfl ?_
  refine ws_iconst (v := 1) X d_L_law_637 rfl ?_
  refine ws_iadd X d_L_law_638 ?_
  refine ws_sld X hX hbl hbA (h1) d_L_law_639 ?_
  refine ws_callV1 X (LM_told hR _) cv_M_told ml_L_79 ob8 rfl rfl (Nat.le_of_ble_eq_true rfl) ⟨Nat.le_of_ble_eq_true rfl, Nat.le_of_ble_eq_true rfl⟩ ⟨Nat.le_refl _, Nat.le_refl _⟩ d_L_law_640 ?_
  refine ws_icmp_eq X d_L_law_643 (fun h643 => ?_) (fun h643 => ?_)
  · exact K _ (hR)
  · exact absurd rfl h643
set_option maxHeartbeats 2000000 in
theorem law_count (X : CX p s m0 args meth c0 G A c_L_law "InstrumentFilesLaw" 4 (some .boolean)) (hX : va_X b L xs s s.heap) (hbl : b < s.heap.size) (hbA : ¬ A b) (h1 : vp_in (i + 1) L) (h2 : vp_in (i + 2) L) (h3 : vp_in (i + 3) L) (h4 : vp_in (i + 4) L) (h5 : vp_in (i + 5) L) (h6 : vp_in (i + 6) L) (h7 : vp_in (i + 7) L) (h8 : vp_in (i + 8) L) (hR : RR S S) (K : ∀ S1, RR S1 S1 → WS p l e0 room_1 s m0 args below meth c0 G A 4 600000 7302250 Q 671 [some (.inl (.ref b)), some (.inr (0, 0)), some (.inr (8, 0)), some (.inl (.int i))] [] (S1)) : WS p l e0 room_1 s m0 args below meth c0 G A 4 600000 7302250 Q 648 [some (.inl (.ref b)), some (.inr (0, 0)), some (.inr (8, 0)), some (.inl (.int i))] [] (S) := by
  refine ws_aload_n (i := 1) X d_L_law_648 rfl rfl ?_
  refine ws_aRload_n (i := 0) X d_L_law_649 rfl rfl ?_
  refine ws_iload_n (i := 3) X d_L_law_650 rfl rfl ?_
  refine ws_iconst (v := 1) X d_L_law_651 rfl ?_
  refine ws_iadd X d_L_law_652 ?_
  refine ws_sld X hX hbl hbA (h1) d_L_law_653 ?_
  refine ws_callV1 X (m_IF_count _ _) cv_IF_count ml_L_80 ob0 rfl rfl (Nat.le_of_ble_eq_true rfl) ⟨Nat.le_of_ble_eq_true rfl, Nat.le_of_ble_eq_true rfl⟩ ⟨Nat.le_refl _, Nat.le_refl _⟩ d_L_law_654 ?_
  refine ws_aload_n (i := 2) X d_L_law_657 rfl rfl ?_
  refine ws_aRload_n (i := 0) X d_L_law_658 rfl rfl ?_
  refine ws_iload_n (i := 3) X d_L_law_659 rfl rfl ?_
  refine ws_iconst (v := 1) X d_L_law_660 rfl ?_
  refine ws_iadd X d_L_law_661 ?_
  refine ws_sld X hX hbl hbA (h1) d_L_law_662 ?_
  refine ws_callV1 X (LM_count hR _) cv_M_count ml_L_83 ob8 rfl rfl (Nat.le_of_ble_eq_true rfl) ⟨Nat.le_of_ble_eq_true rfl, Nat.le_of_ble_eq_true rfl⟩ ⟨Nat.le_refl _, Nat.le_refl _⟩ d_L_law_663 ?_
  refine ws_icmp_eq X d_L_law_666 (fun h666 => ?_) (fun h666 => ?_)
  · exact K _ (hR)
  · exact absurd rfl h666
theorem law_ge {L i : Nat} (hL : L ≤ 4608) (hi : i ≤ L) (h : ¬ (Int32.ofNat L - 9 < nI i)) : i + 9 ≤ L := by
  by_cases c : 9 ≤ L
  · have e : Int32.ofNat L - 9 = nI (L - 9) := nI_sub (a := L) (b := 9) c
    rw [e] at h
    have h2 : ¬ (L - 9 < i) := fun z => h (nI_lt z (by omega))
    omega
  · exfalso
    have key : ∀ L : Fin 9, ∀ i : Fin 10, (i : Nat) ≤ L → Int32.ofNat L - 9 < nI i := by decide +kernel
    exact h (key ⟨L, by omega⟩ ⟨i, by omega⟩ hi)
set_option maxHeartbeats 2000000 in
theorem law_loop (X : CX p s m0 args meth c0 G A c_L_law "InstrumentFilesLaw" 4 (some .boolean)) (hX : va_X b L xs s s.heap) (hbl : b < s.heap.size) (hbA : ¬ A b) (hL : L ≤ 4608) (KE : ∀ S1 x3, WS p l e0 room_1 s m0 args below meth c0 G A 4 600000 7302250 Q 677 [some (.inl (.ref b)), some (.inr (0, 0)), some (.inr (8, 0)), some (.inl (.int x3))] [] (S1)) : ∀ (n i : Nat), L < i + 9 * n → i ≤ L → ∀ S, RR S S → WS p l e0 room_1 s m0 args below meth c0 G A 4 600000 7302250 Q 18 [some (.inl (.ref b)), some (.inr (0, 0)), some (.inr (8, 0)), some (.inl (.int (nI i)))] [] (S) := by
  intro n
  induction n with
  | zero => exact fun i h1 h2 => absurd h1 (by omega)
  | succ n ih =>
    intro i hin hi S hR
    refine ws_iload_n (i := 3) X d_L_law_18 rfl rfl ?_
    refine ws_aRload_n (i := 0) X d_L_law_19 rfl rfl ?_
    refine ws_slen X hX hbl hbA d_L_law_20 ?_
    refine ws_bipush (v := 9) X d_L_law_21 rfl ?_
    refine ws_isub X d_L_law_23 ?_
    refine ws_icmp_gt X d_L_law_24 (fun h24 => ?_) (fun h24 => ?_)
    · exact KE _ _
    · have hlt : i + 9 ≤ L := law_ge hL hi h24
      have hv : ∀ k, k < 9 → vp_in (nI (i + k)) L := fun k hk => vp_in_nI (by omega) (by omega)
      have h0 : vp_in (nI i) L := hv 0 (by decide)
      have KK : ∀ S1, RR S1 S1 → WS p l e0 room_1 s m0 args below meth c0 G A 4 600000 7302250 Q 671 [some (.inl (.ref b)), some (.inr (0, 0)), some (.inr (8, 0)), some (.inl (.int (nI i)))] [] (S1) := fun S1 hR1 => by
        refine ws_iinc (i := 3) (v := nI (i + 9)) X d_L_law_671 rfl (nI_add i 9) (by decide) rfl ?_
        refine ws_goto X d_L_law_674 ?_
        exact ih (i + 9) (by omega) (by omega) S1 hR1
      have h1 : vp_in (nI i + 1) L := by
        rw [show nI i + 1 = nI (i + 1) from nI_add i 1]; exact hv 1 (by decide)
      have h2 : vp_in (nI i + 2) L := by
        rw [show nI i + 2 = nI (i + 2) from nI_add i 2]; exact hv 2 (by decide)
      have h3 : vp_in (nI i + 3) L := by
        rw [show nI i + 3 = nI (i + 3) from nI_add i 3]; exact hv 3 (by decide)
      have h4 : vp_in (nI i + 4) L := by
        rw [show nI i + 4 = nI (i + 4) from nI_add i 4]; exact hv 4 (by decide)
      have h5 : vp_in (nI i + 5) L := by
        rw [show nI i + 5 = nI (i + 5) from nI_add i 5]; exact hv 5 (by decide)
      have h6 : vp_in (nI i + 6) L := by
        rw [show nI i + 6 = nI (i + 6) from nI_add i 6]; exact hv 6 (by decide)
      have h7 : vp_in (nI i + 7) L := by
        rw [show nI i + 7 = nI (i + 7) from nI_add i 7]; exact hv 7 (by decide)
      have h8 : vp_in (nI i + 8) L := by
        rw [show nI i + 8 = nI (i + 8) from nI_add i 8]; exact hv 8 (by decide)
      refine ws_aRload_n (i := 0) X d_L_law_27 rfl rfl ?_
      refine ws_iload_n (i := 3) X d_L_law_28 rfl rfl ?_
      refine ws_sld X hX hbl hbA (h0) d_L_law_29 ?_
      refine ws_bipush (v := 15) X d_L_law_30 rfl ?_
      refine ws_iand X d_L_law_32 ?_
      refine ws_tsw X [(0, 108), (1, 171), (2, 184), (3, 217), (4, 240), (5, 253), (6, 266), (7, 279), (8, 342), (9, 375), (10, 409), (11, 452), (12, 611), (13, 625), (14, 648)] d_L_law_33 (fun j hj => by
          have hj2 : j < 15 := by omega
          match j, hj2 with
          | 0, _ => exact ⟨_, 108, rfl, rfl, by decide⟩
          | 1, _ => exact ⟨_, 171, rfl, rfl, by decide⟩
          | 2, _ => exact ⟨_, 184, rfl, rfl, by decide⟩
          | 3, _ => exact ⟨_, 217, rfl, rfl, by decide⟩
          | 4, _ => exact ⟨_, 240, rfl, rfl, by decide⟩
          | 5, _ => exact ⟨_, 253, rfl, rfl, by decide⟩
          | 6, _ => exact ⟨_, 266, rfl, rfl, by decide⟩
          | 7, _ => exact ⟨_, 279, rfl, rfl, by decide⟩
          | 8, _ => exact ⟨_, 342, rfl, rfl, by decide⟩
          | 9, _ => exact ⟨_, 375, rfl, rfl, by decide⟩
          | 10, _ => exact ⟨_, 409, rfl, rfl, by decide⟩
          | 11, _ => exact ⟨_, 452, rfl, rfl, by decide⟩
          | 12, _ => exact ⟨_, 611, rfl, rfl, by decide⟩
          | 13, _ => exact ⟨_, 625, rfl, rfl, by decide⟩
          | 14, _ => exact ⟨_, 648, rfl, rfl, by decide⟩) (tgt := 671) rfl (And.intro (fun h33 => ?_) (And.intro (fun h33 => ?_) (And.intro (fun h33 => ?_) (And.intro (fun h33 => ?_) (And.intro (fun h33 => ?_) (And.intro (fun h33 => ?_) (And.intro (fun h33 => ?_) (And.intro (fun h33 => ?_) (And.intro (fun h33 => ?_) (And.intro (fun h33 => ?_) (And.intro (fun h33 => ?_) (And.intro (fun h33 => ?_) (And.intro (fun h33 => ?_) (And.intro (fun h33 => ?_) (And.intro (fun h33 => ?_) (trivial)))))))))))))))) (fun h33 => ?_)
      · exact law_feed X hX hbl hbA h1 h2 h3 h4 h5 h6 h7 h8 hR KK
      · exact law_wipe X hX hbl hbA h1 h2 h3 h4 h5 h6 h7 h8 hR KK
      · exact law_alter X hX hbl hbA h1 h2 h3 h4 h5 h6 h7 h8 hR KK
      · exact law_at X hX hbl hbA h1 h2 h3 h4 h5 h6 h7 h8 hR KK
      · exact law_seal X hX hbl hbA h1 h2 h3 h4 h5 h6 h7 h8 hR KK
      · exact law_read X hX hbl hbA h1 h2 h3 h4 h5 h6 h7 h8 hR KK
      · exact law_fault X hX hbl hbA h1 h2 h3 h4 h5 h6 h7 h8 hR KK
      · exact law_table X hX hbl hbA h1 h2 h3 h4 h5 h6 h7 h8 hR KK
      · exact law_method X hX hbl hbA h1 h2 h3 h4 h5 h6 h7 h8 hR KK
      · exact law_pool X hX hbl hbA h1 h2 h3 h4 h5 h6 h7 h8 hR KK
      · exact law_kind X hX hbl hbA h1 h2 h3 h4 h5 h6 h7 h8 hR KK
      · exact law_call X hX hbl hbA h1 h2 h3 h4 h5 h6 h7 h8 hR KK
      · exact law_result X hX hbl hbA h1 h2 h3 h4 h5 h6 h7 h8 hR KK
      · exact law_told X hX hbl hbA h1 h2 h3 h4 h5 h6 h7 h8 hR KK
      · exact law_count X hX hbl hbA h1 h2 h3 h4 h5 h6 h7 h8 hR KK
      · exact KK _ hR
end LAW
