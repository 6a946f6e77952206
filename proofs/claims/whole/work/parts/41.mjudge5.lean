/-! the model judges: whether an op's byte names an entry -/
def mEny (S : MS) (m : Nat) (o : Int32) (g : Nat) : Bool :=
  if o = 1 then decide (¬ S.1 8 0 4 ≤ nI g) && decide (S.1 26 0 g = 1)
  else if o = 2 then decide (¬ S.1 8 0 4 ≤ nI g) && decide (S.1 26 0 g = 2)
  else if o = 3 then decide (¬ S.1 34 0 m ≤ nI g)
  else if o = 4 then decide (¬ S.1 34 0 m ≤ nI g)
  else if o = 21 then decide (¬ S.1 8 0 9 ≤ nI g)
  else if o = 24 then decide (¬ S.1 8 0 4 ≤ nI g) && decide (S.1 26 0 g = 3) && mLst S g
  else true
theorem m_M_isEntry (S : MS) (m g en : Nat) (o : Int32) (hm : m < 5) (hg : g < 256) (hE : S.1 8 0 4 = nI en) (hen : en ≤ 16) : MetE y_M_isEntry c_M_isEntry 4 ((some .boolean)) 2 49 [.inr (8, 0), .inl (.int (nI m)), .inl (.int o), .inl (.int (nI g))] S (some (.inl (.int (bI (mEny S m o g))))) (S) := by
  refine MetS.of (lv0 := [some (.inr (8, 0)), some (.inl (.int (nI m))), some (.inl (.int o)), some (.inl (.int (nI g)))]) pn_M rfl (Nat.le_of_ble_eq_true rfl) (fun p0 l0 e0 s0 m0 args below meth c0 G X => ?_)
  have hcm := nI_c (i := m) (by omega)
  have hcg := nI_c (i := g) (by omega)
  have hinm : vp_in (nI m) 5 := vp_in_nI hm (by omega)
  have hlt : ∀ h : ¬ S.1 8 0 4 ≤ nI g, g < 16 := fun h => by rw [hE, nI_leI (by omega) (by omega)] at h; omega
  have hin : ∀ h : ¬ S.1 8 0 4 ≤ nI g, vp_in (nI g) 16 := fun h => vp_in_nI (hlt h) (by omega)
  refine ws_iload_n (i := 2) X d_M_isEntry_0 rfl rfl ?_
  refine ws_lsw X [(1, 60), (2, 84), (3, 108), (4, 108), (21, 124), (24, 138)] d_M_isEntry_1 (by decide) (fun v off hm => by
      have hm : (v, off) ∈ [((1 : Int), (59 : Int)), ((2 : Int), (83 : Int)), ((3 : Int), (107 : Int)), ((4 : Int), (107 : Int)), ((21 : Int), (123 : Int)), ((24 : Int), (137 : Int))] := hm
      simp only [List.mem_cons, Prod.mk.injEq, List.not_mem_nil, or_false] at hm
      rcases hm with ⟨rfl, rfl⟩ | ⟨rfl, rfl⟩ | ⟨rfl, rfl⟩ | ⟨rfl, rfl⟩ | ⟨rfl, rfl⟩ | ⟨rfl, rfl⟩
      · exact ⟨60, by decide, by decide⟩
      · exact ⟨84, by decide, by decide⟩
      · exact ⟨108, by decide, by decide⟩
      · exact ⟨108, by decide, by decide⟩
      · exact ⟨124, by decide, by decide⟩
      · exact ⟨138, by decide, by decide⟩) (tgt := 170) rfl (And.intro (fun h1 => ?_) (And.intro (fun h1 => ?_) (And.intro (fun h1 => ?_) (And.intro (fun h1 => ?_) (And.intro (fun h1 => ?_) (And.intro (fun h1 => ?_) (trivial))))))) (fun h1 => ?_)
  · have h1 : o = 1 := h1
    subst h1
    refine ws_iload_n (i := 3) X d_M_isEntry_60 rfl rfl ?_
    refine ws_aload_n (i := 0) X d_M_isEntry_61 rfl rfl ?_
    refine ws_getI X fl_M_138 ob8 d_M_isEntry_62 ?_
    refine ws_icmp_ge X d_M_isEntry_65 (fun h65 => ?_) (fun h65 => ?_)
    · refine ws_iconst (v := 0) X d_M_isEntry_82 rfl ?_
      refine ws_zret X (rfl) d_M_isEntry_83 ?_
      exact ⟨by simp [mEny, bI, eq_true h65], rfl⟩
    · refine ws_aload_n (i := 0) X d_M_isEntry_68 rfl rfl ?_
      refine ws_getR X fl_M_17 ob8 d_M_isEntry_69 ?_
      refine ws_iload_n (i := 3) X d_M_isEntry_72 rfl rfl ?_
      refine ws_iald X ak26 ob26 (hin (by assumption)) d_M_isEntry_73 ?_
      rw [hcg]
      refine ws_iconst (v := 1) X d_M_isEntry_74 rfl ?_
      refine ws_icmp_ne X d_M_isEntry_75 (fun h75 => ?_) (fun h75 => ?_)
      · refine ws_iconst (v := 0) X d_M_isEntry_82 rfl ?_
        refine ws_zret X (rfl) d_M_isEntry_83 ?_
        exact ⟨by simp [mEny, bI, eq_false h65, eq_false h75], rfl⟩
      · refine ws_iconst (v := 1) X d_M_isEntry_78 rfl ?_
        refine ws_goto X d_M_isEntry_79 ?_
        refine ws_zret X (rfl) d_M_isEntry_83 ?_
        exact ⟨by simp [mEny, bI, eq_false h65, eq_true h75], rfl⟩
  · have h1 : o = 2 := h1
    subst h1
    refine ws_iload_n (i := 3) X d_M_isEntry_84 rfl rfl ?_
    refine ws_aload_n (i := 0) X d_M_isEntry_85 rfl rfl ?_
    refine ws_getI X fl_M_138 ob8 d_M_isEntry_86 ?_
    refine ws_icmp_ge X d_M_isEntry_89 (fun h89 => ?_) (fun h89 => ?_)
    · refine ws_iconst (v := 0) X d_M_isEntry_106 rfl ?_
      refine ws_zret X (rfl) d_M_isEntry_107 ?_
      exact ⟨by simp [mEny, bI, eq_true h89], rfl⟩
    · refine ws_aload_n (i := 0) X d_M_isEntry_92 rfl rfl ?_
      refine ws_getR X fl_M_17 ob8 d_M_isEntry_93 ?_
      refine ws_iload_n (i := 3) X d_M_isEntry_96 rfl rfl ?_
      refine ws_iald X ak26 ob26 (hin (by assumption)) d_M_isEntry_97 ?_
      rw [hcg]
      refine ws_iconst (v := 2) X d_M_isEntry_98 rfl ?_
      refine ws_icmp_ne X d_M_isEntry_99 (fun h99 => ?_) (fun h99 => ?_)
      · refine ws_iconst (v := 0) X d_M_isEntry_106 rfl ?_
        refine ws_zret X (rfl) d_M_isEntry_107 ?_
        exact ⟨by simp [mEny, bI, eq_false h89, eq_false h99], rfl⟩
      · refine ws_iconst (v := 1) X d_M_isEntry_102 rfl ?_
        refine ws_goto X d_M_isEntry_103 ?_
        refine ws_zret X (rfl) d_M_isEntry_107 ?_
        exact ⟨by simp [mEny, bI, eq_false h89, eq_true h99], rfl⟩
  · have h1 : o = 3 := h1
    subst h1
    refine ws_iload_n (i := 3) X d_M_isEntry_108 rfl rfl ?_
    refine ws_aload_n (i := 0) X d_M_isEntry_109 rfl rfl ?_
    refine ws_getR X fl_M_42 ob8 d_M_isEntry_110 ?_
    refine ws_iload_n (i := 1) X d_M_isEntry_113 rfl rfl ?_
    refine ws_iald X ak34 ob34 (by assumption) d_M_isEntry_114 ?_
    rw [hcm]
    refine ws_icmp_ge X d_M_isEntry_115 (fun h115 => ?_) (fun h115 => ?_)
    · refine ws_iconst (v := 0) X d_M_isEntry_122 rfl ?_
      refine ws_zret X (rfl) d_M_isEntry_123 ?_
      exact ⟨by simp [mEny, bI, eq_true h115], rfl⟩
    · refine ws_iconst (v := 1) X d_M_isEntry_118 rfl ?_
      refine ws_goto X d_M_isEntry_119 ?_
      refine ws_zret X (rfl) d_M_isEntry_123 ?_
      exact ⟨by simp [mEny, bI, eq_false h115], rfl⟩
  · have h1 : o = 4 := h1
    subst h1
    refine ws_iload_n (i := 3) X d_M_isEntry_108 rfl rfl ?_
    refine ws_aload_n (i := 0) X d_M_isEntry_109 rfl rfl ?_
    refine ws_getR X fl_M_42 ob8 d_M_isEntry_110 ?_
    refine ws_iload_n (i := 1) X d_M_isEntry_113 rfl rfl ?_
    refine ws_iald X ak34 ob34 (by assumption) d_M_isEntry_114 ?_
    rw [hcm]
    refine ws_icmp_ge X d_M_isEntry_115 (fun h115 => ?_) (fun h115 => ?_)
    · refine ws_iconst (v := 0) X d_M_isEntry_122 rfl ?_
      refine ws_zret X (rfl) d_M_isEntry_123 ?_
      exact ⟨by simp [mEny, bI, eq_true h115], rfl⟩
    · refine ws_iconst (v := 1) X d_M_isEntry_118 rfl ?_
      refine ws_goto X d_M_isEntry_119 ?_
      refine ws_zret X (rfl) d_M_isEntry_123 ?_
      exact ⟨by simp [mEny, bI, eq_false h115], rfl⟩
  · have h1 : o = 21 := h1
    subst h1
    refine ws_iload_n (i := 3) X d_M_isEntry_124 rfl rfl ?_
    refine ws_aload_n (i := 0) X d_M_isEntry_125 rfl rfl ?_
    refine ws_getI X fl_M_162 ob8 d_M_isEntry_126 ?_
    refine ws_icmp_ge X d_M_isEntry_129 (fun h129 => ?_) (fun h129 => ?_)
    · refine ws_iconst (v := 0) X d_M_isEntry_136 rfl ?_
      refine ws_zret X (rfl) d_M_isEntry_137 ?_
      exact ⟨by simp [mEny, bI, eq_true h129], rfl⟩
    · refine ws_iconst (v := 1) X d_M_isEntry_132 rfl ?_
      refine ws_goto X d_M_isEntry_133 ?_
      refine ws_zret X (rfl) d_M_isEntry_137 ?_
      exact ⟨by simp [mEny, bI, eq_false h129], rfl⟩
  · have h1 : o = 24 := h1
    subst h1
    refine ws_iload_n (i := 3) X d_M_isEntry_138 rfl rfl ?_
    refine ws_aload_n (i := 0) X d_M_isEntry_139 rfl rfl ?_
    refine ws_getI X fl_M_138 ob8 d_M_isEntry_140 ?_
    refine ws_icmp_ge X d_M_isEntry_143 (fun h143 => ?_) (fun h143 => ?_)
    · refine ws_iconst (v := 0) X d_M_isEntry_168 rfl ?_
      refine ws_zret X (rfl) d_M_isEntry_169 ?_
      exact ⟨by simp [mEny, bI, eq_true h143], rfl⟩
    · refine ws_aload_n (i := 0) X d_M_isEntry_146 rfl rfl ?_
      refine ws_getR X fl_M_17 ob8 d_M_isEntry_147 ?_
      refine ws_iload_n (i := 3) X d_M_isEntry_150 rfl rfl ?_
      refine ws_iald X ak26 ob26 (hin (by assumption)) d_M_isEntry_151 ?_
      rw [hcg]
      refine ws_iconst (v := 3) X d_M_isEntry_152 rfl ?_
      refine ws_icmp_ne X d_M_isEntry_153 (fun h153 => ?_) (fun h153 => ?_)
      · refine ws_iconst (v := 0) X d_M_isEntry_168 rfl ?_
        refine ws_zret X (rfl) d_M_isEntry_169 ?_
        exact ⟨by simp [mEny, bI, eq_false h143, eq_false h153], rfl⟩
      · refine ws_aload_n (i := 0) X d_M_isEntry_156 rfl rfl ?_
        refine ws_iload_n (i := 3) X d_M_isEntry_157 rfl rfl ?_
        refine ws_callV1 X (m_M_isListed S g (hlt (by assumption))) cv_M_isListed ml_M_213 ob8 rfl rfl (Nat.le_of_ble_eq_true rfl) ⟨Nat.le_of_ble_eq_true rfl, Nat.le_of_ble_eq_true rfl⟩ ⟨Nat.zero_le _, Nat.zero_le _⟩ d_M_isEntry_158 ?_
        refine ws_ifB_eq X d_M_isEntry_161 (fun h161 => ?_) (fun h161 => ?_)
        · refine ws_iconst (v := 0) X d_M_isEntry_168 rfl ?_
          refine ws_zret X (rfl) d_M_isEntry_169 ?_
          exact ⟨by simp [mEny, bI, eq_false h143, eq_true h153, h161], rfl⟩
        · refine ws_iconst (v := 1) X d_M_isEntry_164 rfl ?_
          refine ws_goto X d_M_isEntry_165 ?_
          refine ws_zret X (rfl) d_M_isEntry_169 ?_
          exact ⟨by simp [mEny, bI, eq_false h143, eq_true h153, h161], rfl⟩
  · have g1_0 : ¬ o = 1 := fun z => h1 1 59 (by decide) (by rw [z]; rfl)
    have g1_1 : ¬ o = 2 := fun z => h1 2 83 (by decide) (by rw [z]; rfl)
    have g1_2 : ¬ o = 3 := fun z => h1 3 107 (by decide) (by rw [z]; rfl)
    have g1_3 : ¬ o = 4 := fun z => h1 4 107 (by decide) (by rw [z]; rfl)
    have g1_4 : ¬ o = 21 := fun z => h1 21 123 (by decide) (by rw [z]; rfl)
    have g1_5 : ¬ o = 24 := fun z => h1 24 137 (by decide) (by rw [z]; rfl)
    refine ws_iconst (v := 1) X d_M_isEntry_170 rfl ?_
    refine ws_zret X (rfl) d_M_isEntry_171 ?_
    exact ⟨by simp [mEny, bI, eq_false g1_0, eq_false g1_1, eq_false g1_2, eq_false g1_3, eq_false g1_4, eq_false g1_5], rfl⟩


