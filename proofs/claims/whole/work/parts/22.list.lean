/-! Grammar.list -/
/-- the three parts one by one -/
theorem Ch_all {k f s g : Nat → Int32} {p : Nat} {X : Nat → Prop} (h1 : (k p = 4 ∨ k p = 5 ∨ k p = 6 ∨ k p = 7) → ∀ c, c < 40 → f p = nI c → X c) (h2 : (k p = 4 ∨ k p = 5 ∨ k p = 6 ∨ k p = 8 ∨ k p = 9) → k p ≠ 8 → ∀ c, c < 40 → s p = nI c → X c) (h3 : k p = 10 → ∀ d, d < 4 → f p = nI d → ∀ c, c < 40 → g d = nI c → X c) : ∀ c, c < 40 → Ch k f s g p c → X c := by
  rintro c hc (⟨a, b⟩ | ⟨a, b, e⟩ | ⟨a, d, hd, b, e⟩)
  · exact h1 a c hc b
  · exact h2 a b c hc e
  · exact h3 a d hd b c hc e
theorem nI_i {a b : Nat} (ha : a < 40) (hb : b < 40) (h : nI a = nI b) : a = b := (nI_eq (by omega) (by omega)).mp h
set_option maxHeartbeats 4000000 in
set_option maxRecDepth 100000 in
theorem lp_G_list_124 {Z : vg_Z} (hst : vg_St Z) {G : vg_G} {post : Option Value → va_W → Prop} {d : Nat} (C : vg_C Z (M_G_list d) G) (hQ : vg_Rt Z G 0 0 post) (ad : Nat → Nat) (σ : sg) (n : Nat) (H : Nat → Nat) (hW : WG (σ.1 2) (σ.1 3) (σ.1 4) (σ.1 6) n H) (p l m : Nat) (o : Nat → Int32) (sn : Int64) (hp : p < n) (hL : ls_I (σ.1 2) (σ.1 3) (σ.1 4) (σ.1 6) n o m sn) (hS : ls_S n H o m sn (H p)) (hl : l + H p ≤ 32) (hun : lb sn p = false) (hpost : ∀ o' m' sn', ls_P (σ.1 2) (σ.1 3) (σ.1 4) (σ.1 6) n H p o m sn o' m' sn' → post none (wd Z ad (stL σ o' m' sn')))  : ∀ (o1 : Nat → Int32) (m1 : Nat) (sn1 : Int64), ls_Q (σ.1 2) (σ.1 3) (σ.1 4) (σ.1 6) n H p o m sn o1 m1 sn1 → (∀ c, c < 40 → Ch (σ.1 2) (σ.1 3) (σ.1 4) (σ.1 6) p c → ∃ i, i < m1 ∧ ot o1 i = c) → vg_K Z (M_G_list d) G 0 0 124 [(3, .int (σ.1 2 p)), (0, .ref (ad 1)), (1, .int (nI p)), (2, .int (nI l))] [] (wd Z ad (stL σ o1 m1 sn1)) := by
  intro o1 m1 sn1 hq hall
  have hr := lsQ_room hW.1 hL hp hun hq
  have hn := hW.1
  refine vg_aload_n C d_G_list_124 rfl ?_
  refine wr_get C d_G_list_125 f_G_27 rfl rfl rfl rfl ?_
  refine vg_aload_n C d_G_list_128 rfl ?_
  refine wr_get C d_G_list_129 f_G_61 rfl rfl rfl rfl ?_
  rw [stL_m]
  refine vg_iload_n C d_G_list_132 rfl ?_
  refine wr_iast C d_G_list_133 rfl rfl (by exact vp_in_nI hr.1 (by decide)) ?_
  rw [nI_clamp (by omega), stL_o, stL_ord]
  refine vg_aload_n C d_G_list_134 rfl ?_
  refine vg_dup C d_G_list_135 rfl ?_
  refine wr_get C d_G_list_136 f_G_61 rfl rfl rfl rfl ?_
  rw [stL_m]
  refine vg_iconst (v := 1) C d_G_list_139 (by decide) ?_
  refine vg_iadd C d_G_list_140 ?_
  rw [nI_1]
  refine wr_puti C d_G_list_141 f_G_61 p_G_7 rfl rfl rfl rfl rfl (Nat.le_of_ble_eq_true rfl) (wf_iG7 _ _ _) ?_
  rw [stL_list]
  exact vg_return C hQ d_G_list_144 rfl (hpost _ _ _ (lsQ_push hW.1 hL hp hun hq hall))
set_option maxHeartbeats 4000000 in
set_option maxRecDepth 100000 in
theorem lp_G_list_85 {Z : vg_Z} (hst : vg_St Z) {G : vg_G} {post : Option Value → va_W → Prop} {d : Nat} (C : vg_C Z (M_G_list d) G) (hQ : vg_Rt Z G 0 0 post) (ad : Nat → Nat) (σ : sg) (n : Nat) (H : Nat → Nat) (hW : WG (σ.1 2) (σ.1 3) (σ.1 4) (σ.1 6) n H) (p l m : Nat) (o : Nat → Int32) (sn : Int64) (hp : p < n) (hL : ls_I (σ.1 2) (σ.1 3) (σ.1 4) (σ.1 6) n o m sn) (hS : ls_S n H o m sn (H p)) (hl : l + H p ≤ 32) (hun : lb sn p = false) (hpost : ∀ o' m' sn', ls_P (σ.1 2) (σ.1 3) (σ.1 4) (σ.1 6) n H p o m sn o' m' sn' → post none (wd Z ad (stL σ o' m' sn'))) (hd : H p ≤ d) (ih : ∀ d9, d = d9 + 1 → ∀ (c : Nat) (o9 : Nat → Int32) (m9 : Nat) (sn9 : Int64), c < n → H c ≤ d9 → l + 1 + H c ≤ 32 → ls_I (σ.1 2) (σ.1 3) (σ.1 4) (σ.1 6) n o9 m9 sn9 → ls_S n H o9 m9 sn9 (H c) → vg_T Z (M_G_list d9) 0 0 [.ref (ad 1), .int (nI c), .int (nI (l + 1))] (wd Z ad (stL σ o9 m9 sn9)) (fun v w => v = none ∧ ∃ o' m' sn', ls_P (σ.1 2) (σ.1 3) (σ.1 4) (σ.1 6) n H c o9 m9 sn9 o' m' sn' ∧ w = wd Z ad (stL σ o' m' sn'))) : ∀ (o1 : Nat → Int32) (m1 : Nat) (sn1 : Int64), ls_Q (σ.1 2) (σ.1 3) (σ.1 4) (σ.1 6) n H p o m sn o1 m1 sn1 → (∀ c, c < 40 → (((σ.1 2 p = 4 ∨ σ.1 2 p = 5 ∨ σ.1 2 p = 6 ∨ σ.1 2 p = 7) ∧ σ.1 3 p = nI c) ∨ ((σ.1 2 p = 4 ∨ σ.1 2 p = 5 ∨ σ.1 2 p = 6 ∨ σ.1 2 p = 8 ∨ σ.1 2 p = 9) ∧ σ.1 2 p ≠ 8 ∧ σ.1 4 p = nI c)) → ∃ i, i < m1 ∧ ot o1 i = c) → vg_K Z (M_G_list d) G 0 0 85 [(3, .int (σ.1 2 p)), (0, .ref (ad 1)), (1, .int (nI p)), (2, .int (nI l))] [] (wd Z ad (stL σ o1 m1 sn1)) := by
  intro o1 m1 sn1 hq h12
  have hn := hW.1
  refine vg_iload_n C d_G_list_85 rfl ?_
  refine vg_bipush (v := 10) C d_G_list_86 (by decide) ?_
  refine vg_icmp_ne (tgt := 124) C d_G_list_88 (by decide) (fun c_88 => ?_) (fun c_88 => ?_)
  · skip
    first
      | exact lp_G_list_124 hst C hQ ad σ n H hW p l m o sn hp hL hS hl hun hpost o1 m1 sn1 hq (Ch_all (fun a c hc b => h12 c hc (Or.inl ⟨a, b⟩)) (fun a a2 c hc b => h12 c hc (Or.inr ⟨a, a2, b⟩)) (fun a => absurd a c_88))
      | exact lp_G_list_124 hst C hQ ad σ n H hW p l m o sn hp hL hS hl hun hpost o1 m1 sn1 hq (Ch_all (fun a c hc b => h12 c hc (Or.inl ⟨a, b⟩)) (fun a a2 c hc b => h12 c hc (Or.inr ⟨a, a2, b⟩)) (fun _ d2 hd2 e2 c hc e3 => by rw [hfd] at e2; cases nI_i (by omega) (by omega) e2; exact absurd (e3.symm.trans c_103) (nI_nm1 (by omega))))
      | (obtain ⟨x1, x2, x3, x4⟩ := lsQ_call hq (by omega) hcH (Or.inr (Or.inr ⟨c_88, dd, hd4, hfd, hgc⟩)) hP2
         exact lp_G_list_124 hst C hQ ad σ n H hW p l m o sn hp hL hS hl hun hpost o2 m2 sn2 x1 (Ch_all (fun a c hc b => by obtain ⟨i, h1, h2⟩ := h12 c hc (Or.inl ⟨a, b⟩); exact ⟨i, by omega, by rw [ot_of (x4 i h1)]; exact h2⟩) (fun a a2 c hc b => by obtain ⟨i, h1, h2⟩ := h12 c hc (Or.inr ⟨a, a2, b⟩); exact ⟨i, by omega, by rw [ot_of (x4 i h1)]; exact h2⟩) (fun _ d2 hd2 e2 c9 hc9 e3 => by rw [hfd] at e2; cases nI_i (by omega) (by omega) e2; rw [hgc] at e3; cases nI_i (by omega) hc9 e3; exact x2)))
  · skip
    obtain ⟨dd, hd4, hfd, hgd⟩ := (hW.2 p hp).2.2 c_88
    refine vg_aload_n C d_G_list_91 rfl ?_
    refine wr_get C d_G_list_92 f_G_24 rfl rfl rfl rfl ?_
    refine vg_aload_n C d_G_list_95 rfl ?_
    refine wr_get C d_G_list_96 f_G_15 rfl rfl rfl rfl ?_
    refine vg_iload_n C d_G_list_99 rfl ?_
    refine wr_iald C d_G_list_100 rfl rfl (by exact vp_in_nI (by omega) (by decide)) ?_
    rw [nI_clamp (by omega), stL_ne _ _ _ _ (by decide) (by decide), hfd]
    refine wr_iald C d_G_list_101 rfl rfl (by exact vp_in_nI hd4 (by decide)) ?_
    rw [nI_clamp (by omega), stL_ne _ _ _ _ (by decide) (by decide)]
    refine vg_iconst (v := (-1)) C d_G_list_102 (by decide) ?_
    refine vg_icmp_eq (tgt := 124) C d_G_list_103 (by decide) (fun c_103 => ?_) (fun c_103 => ?_)
    · skip
      first
        | exact lp_G_list_124 hst C hQ ad σ n H hW p l m o sn hp hL hS hl hun hpost o1 m1 sn1 hq (Ch_all (fun a c hc b => h12 c hc (Or.inl ⟨a, b⟩)) (fun a a2 c hc b => h12 c hc (Or.inr ⟨a, a2, b⟩)) (fun a => absurd a c_88))
        | exact lp_G_list_124 hst C hQ ad σ n H hW p l m o sn hp hL hS hl hun hpost o1 m1 sn1 hq (Ch_all (fun a c hc b => h12 c hc (Or.inl ⟨a, b⟩)) (fun a a2 c hc b => h12 c hc (Or.inr ⟨a, a2, b⟩)) (fun _ d2 hd2 e2 c hc e3 => by rw [hfd] at e2; cases nI_i (by omega) (by omega) e2; exact absurd (e3.symm.trans c_103) (nI_nm1 (by omega))))
        | (obtain ⟨x1, x2, x3, x4⟩ := lsQ_call hq (by omega) hcH (Or.inr (Or.inr ⟨c_88, dd, hd4, hfd, hgc⟩)) hP2
           exact lp_G_list_124 hst C hQ ad σ n H hW p l m o sn hp hL hS hl hun hpost o2 m2 sn2 x1 (Ch_all (fun a c hc b => by obtain ⟨i, h1, h2⟩ := h12 c hc (Or.inl ⟨a, b⟩); exact ⟨i, by omega, by rw [ot_of (x4 i h1)]; exact h2⟩) (fun a a2 c hc b => by obtain ⟨i, h1, h2⟩ := h12 c hc (Or.inr ⟨a, a2, b⟩); exact ⟨i, by omega, by rw [ot_of (x4 i h1)]; exact h2⟩) (fun _ d2 hd2 e2 c9 hc9 e3 => by rw [hfd] at e2; cases nI_i (by omega) (by omega) e2; rw [hgc] at e3; cases nI_i (by omega) hc9 e3; exact x2)))
    · skip
      obtain ⟨c, hc, hgc, hcH⟩ := hgd.resolve_left c_103
      obtain ⟨d9, rfl⟩ : ∃ d9, d = d9 + 1 := ⟨d - 1, by omega⟩
      refine vg_aload_n C d_G_list_106 rfl ?_
      refine vg_aload_n C d_G_list_107 rfl ?_
      refine wr_get C d_G_list_108 f_G_24 rfl rfl rfl rfl ?_
      refine vg_aload_n C d_G_list_111 rfl ?_
      refine wr_get C d_G_list_112 f_G_15 rfl rfl rfl rfl ?_
      refine vg_iload_n C d_G_list_115 rfl ?_
      refine wr_iald C d_G_list_116 rfl rfl (by exact vp_in_nI (by omega) (by decide)) ?_
      rw [nI_clamp (by omega), stL_ne _ _ _ _ (by decide) (by decide), hfd]
      refine wr_iald C d_G_list_117 rfl rfl (by exact vp_in_nI hd4 (by decide)) ?_
      rw [nI_clamp (by omega), stL_ne _ _ _ _ (by decide) (by decide), hgc]
      refine vg_iload_n C d_G_list_118 rfl ?_
      refine vg_iconst (v := 1) C d_G_list_119 (by decide) ?_
      refine vg_iadd C d_G_list_120 ?_
      rw [nI_1]
      refine wr_callV (As := [_, _]) C (ih _ rfl c _ _ _ hc (by omega) (by omega) hq.1 (lsQ_S hW.1 hS hq hcH)) (l_G_list_G_list d9) k_G_57 rfl rfl rfl rfl rfl (Nat.le_of_ble_eq_true rfl) d_G_list_121 ⟨Nat.le_of_ble_eq_true rfl, Nat.le_of_ble_eq_true rfl⟩ (fun v_121 w_121 h_121 => ?_)
      obtain ⟨rfl, o2, m2, sn2, hP2, rfl⟩ := h_121
      first
        | exact lp_G_list_124 hst C hQ ad σ n H hW p l m o sn hp hL hS hl hun hpost o1 m1 sn1 hq (Ch_all (fun a c hc b => h12 c hc (Or.inl ⟨a, b⟩)) (fun a a2 c hc b => h12 c hc (Or.inr ⟨a, a2, b⟩)) (fun a => absurd a c_88))
        | exact lp_G_list_124 hst C hQ ad σ n H hW p l m o sn hp hL hS hl hun hpost o1 m1 sn1 hq (Ch_all (fun a c hc b => h12 c hc (Or.inl ⟨a, b⟩)) (fun a a2 c hc b => h12 c hc (Or.inr ⟨a, a2, b⟩)) (fun _ d2 hd2 e2 c hc e3 => by rw [hfd] at e2; cases nI_i (by omega) (by omega) e2; exact absurd (e3.symm.trans c_103) (nI_nm1 (by omega))))
        | (obtain ⟨x1, x2, x3, x4⟩ := lsQ_call hq (by omega) hcH (Or.inr (Or.inr ⟨c_88, dd, hd4, hfd, hgc⟩)) hP2
           exact lp_G_list_124 hst C hQ ad σ n H hW p l m o sn hp hL hS hl hun hpost o2 m2 sn2 x1 (Ch_all (fun a c hc b => by obtain ⟨i, h1, h2⟩ := h12 c hc (Or.inl ⟨a, b⟩); exact ⟨i, by omega, by rw [ot_of (x4 i h1)]; exact h2⟩) (fun a a2 c hc b => by obtain ⟨i, h1, h2⟩ := h12 c hc (Or.inr ⟨a, a2, b⟩); exact ⟨i, by omega, by rw [ot_of (x4 i h1)]; exact h2⟩) (fun _ d2 hd2 e2 c9 hc9 e3 => by rw [hfd] at e2; cases nI_i (by omega) (by omega) e2; rw [hgc] at e3; cases nI_i (by omega) hc9 e3; exact x2)))
set_option maxHeartbeats 4000000 in
set_option maxRecDepth 100000 in
theorem lp_G_list_59 {Z : vg_Z} (hst : vg_St Z) {G : vg_G} {post : Option Value → va_W → Prop} {d : Nat} (C : vg_C Z (M_G_list d) G) (hQ : vg_Rt Z G 0 0 post) (ad : Nat → Nat) (σ : sg) (n : Nat) (H : Nat → Nat) (hW : WG (σ.1 2) (σ.1 3) (σ.1 4) (σ.1 6) n H) (p l m : Nat) (o : Nat → Int32) (sn : Int64) (hp : p < n) (hL : ls_I (σ.1 2) (σ.1 3) (σ.1 4) (σ.1 6) n o m sn) (hS : ls_S n H o m sn (H p)) (hl : l + H p ≤ 32) (hun : lb sn p = false) (hpost : ∀ o' m' sn', ls_P (σ.1 2) (σ.1 3) (σ.1 4) (σ.1 6) n H p o m sn o' m' sn' → post none (wd Z ad (stL σ o' m' sn'))) (hd : H p ≤ d) (ih : ∀ d9, d = d9 + 1 → ∀ (c : Nat) (o9 : Nat → Int32) (m9 : Nat) (sn9 : Int64), c < n → H c ≤ d9 → l + 1 + H c ≤ 32 → ls_I (σ.1 2) (σ.1 3) (σ.1 4) (σ.1 6) n o9 m9 sn9 → ls_S n H o9 m9 sn9 (H c) → vg_T Z (M_G_list d9) 0 0 [.ref (ad 1), .int (nI c), .int (nI (l + 1))] (wd Z ad (stL σ o9 m9 sn9)) (fun v w => v = none ∧ ∃ o' m' sn', ls_P (σ.1 2) (σ.1 3) (σ.1 4) (σ.1 6) n H c o9 m9 sn9 o' m' sn' ∧ w = wd Z ad (stL σ o' m' sn'))) : ∀ (o1 : Nat → Int32) (m1 : Nat) (sn1 : Int64), ls_Q (σ.1 2) (σ.1 3) (σ.1 4) (σ.1 6) n H p o m sn o1 m1 sn1 → (∀ c, c < 40 → (σ.1 2 p = 4 ∨ σ.1 2 p = 5 ∨ σ.1 2 p = 6 ∨ σ.1 2 p = 7) ∧ σ.1 3 p = nI c → ∃ i, i < m1 ∧ ot o1 i = c) → vg_K Z (M_G_list d) G 0 0 59 [(3, .int (σ.1 2 p)), (0, .ref (ad 1)), (1, .int (nI p)), (2, .int (nI l))] [] (wd Z ad (stL σ o1 m1 sn1)) := by
  intro o1 m1 sn1 hq h1
  have hn := hW.1
  refine vg_iload_n C d_G_list_59 rfl ?_
  refine vg_callS (As := [_]) C (c_G_isMadeOfSecond Z hst ad _ (σ.1 2 p)) (l_G_list_G_isMadeOfSecond d) k_G_45 rfl rfl (Nat.le_of_ble_eq_true rfl) d_G_list_60 ⟨Nat.le_of_ble_eq_true rfl, Nat.le_of_ble_eq_true rfl⟩ (fun v_60 w_60 h_60 => ?_)
  obtain ⟨rfl, rfl⟩ := h_60
  refine vg_if_eq (tgt := 85) C d_G_list_63 (by decide) (fun c_63 => ?_) (fun c_63 => ?_)
  · rw [bI_eq] at c_63; simp only [decide_eq_false_iff_not, decide_eq_true_eq, Bool.not_eq_false, Classical.not_not] at c_63
    first
      | exact lp_G_list_85 hst C hQ ad σ n H hW p l m o sn hp hL hS hl hun hpost hd ih o1 m1 sn1 hq (fun c hc h => h.elim (fun a => h1 c hc a) (fun a => absurd a.1 c_63))
      | exact lp_G_list_85 hst C hQ ad σ n H hW p l m o sn hp hL hS hl hun hpost hd ih o1 m1 sn1 hq (fun c hc h => h.elim (fun a => h1 c hc a) (fun a => absurd c_69 a.2.1))
      | (obtain ⟨x1, x2, x3, x4⟩ := lsQ_call hq (by omega) hcH (Or.inr (Or.inl ⟨c_63, c_69, hsc⟩)) hP2
         exact lp_G_list_85 hst C hQ ad σ n H hW p l m o sn hp hL hS hl hun hpost hd ih o2 m2 sn2 x1 (fun c9 hc9 h => h.elim (fun a => by obtain ⟨i, y1, y2⟩ := h1 c9 hc9 a; exact ⟨i, by omega, by rw [ot_of (x4 i y1)]; exact y2⟩) (fun a => by have e3 := a.2.2; rw [hsc] at e3; cases nI_i (by omega) hc9 e3; exact x2)))
  · rw [bI_eq] at c_63; simp only [decide_eq_false_iff_not, decide_eq_true_eq, Bool.not_eq_false, Classical.not_not] at c_63
    refine vg_iload_n C d_G_list_66 rfl ?_
    refine vg_bipush (v := 8) C d_G_list_67 (by decide) ?_
    refine vg_icmp_eq (tgt := 85) C d_G_list_69 (by decide) (fun c_69 => ?_) (fun c_69 => ?_)
    · skip
      first
        | exact lp_G_list_85 hst C hQ ad σ n H hW p l m o sn hp hL hS hl hun hpost hd ih o1 m1 sn1 hq (fun c hc h => h.elim (fun a => h1 c hc a) (fun a => absurd a.1 c_63))
        | exact lp_G_list_85 hst C hQ ad σ n H hW p l m o sn hp hL hS hl hun hpost hd ih o1 m1 sn1 hq (fun c hc h => h.elim (fun a => h1 c hc a) (fun a => absurd c_69 a.2.1))
        | (obtain ⟨x1, x2, x3, x4⟩ := lsQ_call hq (by omega) hcH (Or.inr (Or.inl ⟨c_63, c_69, hsc⟩)) hP2
           exact lp_G_list_85 hst C hQ ad σ n H hW p l m o sn hp hL hS hl hun hpost hd ih o2 m2 sn2 x1 (fun c9 hc9 h => h.elim (fun a => by obtain ⟨i, y1, y2⟩ := h1 c9 hc9 a; exact ⟨i, by omega, by rw [ot_of (x4 i y1)]; exact y2⟩) (fun a => by have e3 := a.2.2; rw [hsc] at e3; cases nI_i (by omega) hc9 e3; exact x2)))
    · skip
      obtain ⟨c, hc, hsc, hcH0⟩ := (hW.2 p hp).2.1 c_63
      have hcH := hcH0 c_69
      obtain ⟨d9, rfl⟩ : ∃ d9, d = d9 + 1 := ⟨d - 1, by omega⟩
      refine vg_aload_n C d_G_list_72 rfl ?_
      refine vg_aload_n C d_G_list_73 rfl ?_
      refine wr_get C d_G_list_74 f_G_18 rfl rfl rfl rfl ?_
      refine vg_iload_n C d_G_list_77 rfl ?_
      refine wr_iald C d_G_list_78 rfl rfl (by exact vp_in_nI (by omega) (by decide)) ?_
      rw [nI_clamp (by omega), stL_ne _ _ _ _ (by decide) (by decide), hsc]
      refine vg_iload_n C d_G_list_79 rfl ?_
      refine vg_iconst (v := 1) C d_G_list_80 (by decide) ?_
      refine vg_iadd C d_G_list_81 ?_
      rw [nI_1]
      refine wr_callV (As := [_, _]) C (ih _ rfl c _ _ _ hc (by omega) (by omega) hq.1 (lsQ_S hW.1 hS hq hcH)) (l_G_list_G_list d9) k_G_57 rfl rfl rfl rfl rfl (Nat.le_of_ble_eq_true rfl) d_G_list_82 ⟨Nat.le_of_ble_eq_true rfl, Nat.le_of_ble_eq_true rfl⟩ (fun v_82 w_82 h_82 => ?_)
      obtain ⟨rfl, o2, m2, sn2, hP2, rfl⟩ := h_82
      first
        | exact lp_G_list_85 hst C hQ ad σ n H hW p l m o sn hp hL hS hl hun hpost hd ih o1 m1 sn1 hq (fun c hc h => h.elim (fun a => h1 c hc a) (fun a => absurd a.1 c_63))
        | exact lp_G_list_85 hst C hQ ad σ n H hW p l m o sn hp hL hS hl hun hpost hd ih o1 m1 sn1 hq (fun c hc h => h.elim (fun a => h1 c hc a) (fun a => absurd c_69 a.2.1))
        | (obtain ⟨x1, x2, x3, x4⟩ := lsQ_call hq (by omega) hcH (Or.inr (Or.inl ⟨c_63, c_69, hsc⟩)) hP2
           exact lp_G_list_85 hst C hQ ad σ n H hW p l m o sn hp hL hS hl hun hpost hd ih o2 m2 sn2 x1 (fun c9 hc9 h => h.elim (fun a => by obtain ⟨i, y1, y2⟩ := h1 c9 hc9 a; exact ⟨i, by omega, by rw [ot_of (x4 i y1)]; exact y2⟩) (fun a => by have e3 := a.2.2; rw [hsc] at e3; cases nI_i (by omega) hc9 e3; exact x2)))
set_option maxHeartbeats 4000000 in
set_option maxRecDepth 100000 in
theorem c_G_list (Z : vg_Z) (hst : vg_St Z) (ad : Nat → Nat) (σ : sg) (n : Nat) (H : Nat → Nat) (hW : WG (σ.1 2) (σ.1 3) (σ.1 4) (σ.1 6) n H) : ∀ (d p l : Nat) (o : Nat → Int32) (m : Nat) (sn : Int64), p < n → H p ≤ d → l + H p ≤ 32 → ls_I (σ.1 2) (σ.1 3) (σ.1 4) (σ.1 6) n o m sn → ls_S n H o m sn (H p) → vg_T Z (M_G_list d) 0 0 [.ref (ad 1), .int (nI p), .int (nI l)] (wd Z ad (stL σ o m sn)) (fun v w => v = none ∧ ∃ o' m' sn', ls_P (σ.1 2) (σ.1 3) (σ.1 4) (σ.1 6) n H p o m sn o' m' sn' ∧ w = wd Z ad (stL σ o' m' sn')) := by
  intro d
  induction d with
  | zero =>
    intro p l o m sn hp hd hl hL hS
    have hn := hW.1
    refine vg_enter hst (by show plainName "PatternValidator$Grammar" = true; decide) rfl (Nat.le_of_ble_eq_true rfl) ?_
    intro G C hQ
    show vg_K Z (M_G_list 0) G 0 0 0 [(0, .ref (ad 1)), (1, .int (nI p)), (2, .int (nI l))] [] (wd Z ad (stL σ o m sn))
    refine vg_iload_n C d_G_list_0 rfl ?_
    refine vg_bipush (v := 32) C d_G_list_1 (by decide) ?_
    refine vg_icmp_gt (tgt := 19) C d_G_list_3 (by decide) (fun c_3 => absurd c_3 (by rw [show (32 : Int32) = nI 32 from rfl, nI_ltI (by decide) (by omega)]; omega)) (fun _ => ?_)
    refine vg_aload_n C d_G_list_6 rfl ?_
    refine wr_get C d_G_list_7 f_G_64 rfl rfl rfl rfl ?_
    refine vg_iload_n C d_G_list_10 rfl ?_
    refine vg_lushr C d_G_list_11 ?_
    refine vg_lconst (v := 1) C d_G_list_12 (by decide) ?_
    refine vg_land C d_G_list_13 ?_
    refine vg_lconst (v := 0) C d_G_list_14 (by decide) ?_
    refine vg_lcmp C d_G_list_15 ?_
    rw [stL_s]
    refine vg_if_eq (tgt := 20) C d_G_list_16 (by decide) (fun c_16 => ?_) (fun c_16 => ?_)
    · rw [lg_eq, lb_tst (by omega)] at c_16
      refine vg_aload_n C d_G_list_20 rfl ?_
      refine vg_dup C d_G_list_21 rfl ?_
      refine wr_get C d_G_list_22 f_G_64 rfl rfl rfl rfl ?_
      rw [stL_s]
      refine vg_lconst (v := 1) C d_G_list_25 (by decide) ?_
      refine vg_iload_n C d_G_list_26 rfl ?_
      refine vg_lshl C d_G_list_27 ?_
      refine vg_lor C d_G_list_28 ?_
      refine wr_putl C d_G_list_29 f_G_64 p_G_8 rfl rfl rfl (Nat.le_of_ble_eq_true rfl) (wf_lG8 _ _ _) ?_
      rw [stL_seen]
      have hun : lb sn p = false := c_16
      have hq : ls_Q (σ.1 2) (σ.1 3) (σ.1 4) (σ.1 6) n H p o m sn o m (sn ||| (1 : Int64) <<< ((nI p).toInt64 &&& 63)) := lsQ_0 hL (by omega) _ (fun q hq => by rw [lb_or, lb_one_shl (by omega) hq]) hW.1
      refine vg_aload_n C d_G_list_32 rfl ?_
      refine wr_get C d_G_list_33 f_G_9 rfl rfl rfl rfl ?_
      refine vg_iload_n C d_G_list_36 rfl ?_
      refine wr_iald C d_G_list_37 rfl rfl (by exact vp_in_nI (by omega) (by decide)) ?_
      rw [nI_clamp (by omega), stL_ne _ _ _ _ (by decide) (by decide)]
      refine vg_istore_n C d_G_list_38 (Nat.le_of_ble_eq_true rfl) rfl ?_
      refine vg_iload_n C d_G_list_39 rfl ?_
      refine vg_callS (As := [_]) C (c_G_isMadeOfFirst Z hst ad _ (σ.1 2 p)) (l_G_list_G_isMadeOfFirst 0) k_G_42 rfl rfl (Nat.le_of_ble_eq_true rfl) d_G_list_40 ⟨Nat.le_of_ble_eq_true rfl, Nat.le_of_ble_eq_true rfl⟩ (fun v_40 w_40 h_40 => ?_)
      obtain ⟨rfl, rfl⟩ := h_40
      refine vg_if_eq (tgt := 59) C d_G_list_43 (by decide) (fun c_43 => ?_) (fun c_43 => ?_)
      · rw [bI_eq] at c_43; simp only [decide_eq_false_iff_not, decide_eq_true_eq, Bool.not_eq_false, Classical.not_not] at c_43
        first
          | exact lp_G_list_59 hst C hQ ad σ n H hW p l m o sn hp hL hS hl hun (fun o9 m9 sn9 h => ⟨rfl, o9, m9, sn9, h, rfl⟩) hd (fun d9 e => absurd e (by omega)) _ _ _ hq (fun c hc h => absurd h.1 c_43)
          | (obtain ⟨x1, x2, x3, x4⟩ := lsQ_call hq (by omega) hcH (Or.inl ⟨c_43, hfc⟩) hP2
             exact lp_G_list_59 hst C hQ ad σ n H hW p l m o sn hp hL hS hl hun (fun o9 m9 sn9 h => ⟨rfl, o9, m9, sn9, h, rfl⟩) hd (fun d9 e => absurd e (by omega)) o2 m2 sn2 x1 (fun c9 hc9 a => by have e3 := a.2; rw [hfc] at e3; cases nI_i (by omega) hc9 e3; exact x2))
      · rw [bI_eq] at c_43; simp only [decide_eq_false_iff_not, decide_eq_true_eq, Bool.not_eq_false, Classical.not_not] at c_43
        exact absurd ((hW.2 p hp).1 c_43) (by rintro ⟨c, hc, hfc, hcH⟩; omega)
    · rw [lg_eq, lb_tst (by omega)] at c_16
      exact vg_return C hQ d_G_list_19 rfl (⟨rfl, o, m, sn, lsP_seen hL hS hp (ts_nf c_16), rfl⟩)
  | succ d ihd =>
    intro p l o m sn hp hd hl hL hS
    have hn := hW.1
    refine vg_enter hst (by show plainName "PatternValidator$Grammar" = true; decide) rfl (Nat.le_of_ble_eq_true rfl) ?_
    intro G C hQ
    show vg_K Z (M_G_list (d + 1)) G 0 0 0 [(0, .ref (ad 1)), (1, .int (nI p)), (2, .int (nI l))] [] (wd Z ad (stL σ o m sn))
    refine vg_iload_n C d_G_list_0 rfl ?_
    refine vg_bipush (v := 32) C d_G_list_1 (by decide) ?_
    refine vg_icmp_gt (tgt := 19) C d_G_list_3 (by decide) (fun c_3 => absurd c_3 (by rw [show (32 : Int32) = nI 32 from rfl, nI_ltI (by decide) (by omega)]; omega)) (fun _ => ?_)
    refine vg_aload_n C d_G_list_6 rfl ?_
    refine wr_get C d_G_list_7 f_G_64 rfl rfl rfl rfl ?_
    refine vg_iload_n C d_G_list_10 rfl ?_
    refine vg_lushr C d_G_list_11 ?_
    refine vg_lconst (v := 1) C d_G_list_12 (by decide) ?_
    refine vg_land C d_G_list_13 ?_
    refine vg_lconst (v := 0) C d_G_list_14 (by decide) ?_
    refine vg_lcmp C d_G_list_15 ?_
    rw [stL_s]
    refine vg_if_eq (tgt := 20) C d_G_list_16 (by decide) (fun c_16 => ?_) (fun c_16 => ?_)
    · rw [lg_eq, lb_tst (by omega)] at c_16
      refine vg_aload_n C d_G_list_20 rfl ?_
      refine vg_dup C d_G_list_21 rfl ?_
      refine wr_get C d_G_list_22 f_G_64 rfl rfl rfl rfl ?_
      rw [stL_s]
      refine vg_lconst (v := 1) C d_G_list_25 (by decide) ?_
      refine vg_iload_n C d_G_list_26 rfl ?_
      refine vg_lshl C d_G_list_27 ?_
      refine vg_lor C d_G_list_28 ?_
      refine wr_putl C d_G_list_29 f_G_64 p_G_8 rfl rfl rfl (Nat.le_of_ble_eq_true rfl) (wf_lG8 _ _ _) ?_
      rw [stL_seen]
      have hun : lb sn p = false := c_16
      have hq : ls_Q (σ.1 2) (σ.1 3) (σ.1 4) (σ.1 6) n H p o m sn o m (sn ||| (1 : Int64) <<< ((nI p).toInt64 &&& 63)) := lsQ_0 hL (by omega) _ (fun q hq => by rw [lb_or, lb_one_shl (by omega) hq]) hW.1
      refine vg_aload_n C d_G_list_32 rfl ?_
      refine wr_get C d_G_list_33 f_G_9 rfl rfl rfl rfl ?_
      refine vg_iload_n C d_G_list_36 rfl ?_
      refine wr_iald C d_G_list_37 rfl rfl (by exact vp_in_nI (by omega) (by decide)) ?_
      rw [nI_clamp (by omega), stL_ne _ _ _ _ (by decide) (by decide)]
      refine vg_istore_n C d_G_list_38 (Nat.le_of_ble_eq_true rfl) rfl ?_
      refine vg_iload_n C d_G_list_39 rfl ?_
      refine vg_callS (As := [_]) C (c_G_isMadeOfFirst Z hst ad _ (σ.1 2 p)) (l_G_list_G_isMadeOfFirst (d + 1)) k_G_42 rfl rfl (Nat.le_of_ble_eq_true rfl) d_G_list_40 ⟨Nat.le_of_ble_eq_true rfl, Nat.le_of_ble_eq_true rfl⟩ (fun v_40 w_40 h_40 => ?_)
      obtain ⟨rfl, rfl⟩ := h_40
      refine vg_if_eq (tgt := 59) C d_G_list_43 (by decide) (fun c_43 => ?_) (fun c_43 => ?_)
      · rw [bI_eq] at c_43; simp only [decide_eq_false_iff_not, decide_eq_true_eq, Bool.not_eq_false, Classical.not_not] at c_43
        first
          | exact lp_G_list_59 hst C hQ ad σ n H hW p l m o sn hp hL hS hl hun (fun o9 m9 sn9 h => ⟨rfl, o9, m9, sn9, h, rfl⟩) hd (fun d9 e c o9 m9 sn9 h1 h2 h3 h4 h5 => by cases (show d = d9 by omega); exact ihd c (l + 1) o9 m9 sn9 h1 h2 (by omega) h4 h5) _ _ _ hq (fun c hc h => absurd h.1 c_43)
          | (obtain ⟨x1, x2, x3, x4⟩ := lsQ_call hq (by omega) hcH (Or.inl ⟨c_43, hfc⟩) hP2
             exact lp_G_list_59 hst C hQ ad σ n H hW p l m o sn hp hL hS hl hun (fun o9 m9 sn9 h => ⟨rfl, o9, m9, sn9, h, rfl⟩) hd (fun d9 e c o9 m9 sn9 h1 h2 h3 h4 h5 => by cases (show d = d9 by omega); exact ihd c (l + 1) o9 m9 sn9 h1 h2 (by omega) h4 h5) o2 m2 sn2 x1 (fun c9 hc9 a => by have e3 := a.2; rw [hfc] at e3; cases nI_i (by omega) hc9 e3; exact x2))
      · rw [bI_eq] at c_43; simp only [decide_eq_false_iff_not, decide_eq_true_eq, Bool.not_eq_false, Classical.not_not] at c_43
        obtain ⟨c, hc, hfc, hcH⟩ := (hW.2 p hp).1 c_43
        refine vg_aload_n C d_G_list_46 rfl ?_
        refine vg_aload_n C d_G_list_47 rfl ?_
        refine wr_get C d_G_list_48 f_G_15 rfl rfl rfl rfl ?_
        refine vg_iload_n C d_G_list_51 rfl ?_
        refine wr_iald C d_G_list_52 rfl rfl (by exact vp_in_nI (by omega) (by decide)) ?_
        rw [nI_clamp (by omega), stL_ne _ _ _ _ (by decide) (by decide), hfc]
        refine vg_iload_n C d_G_list_53 rfl ?_
        refine vg_iconst (v := 1) C d_G_list_54 (by decide) ?_
        refine vg_iadd C d_G_list_55 ?_
        rw [nI_1]
        refine wr_callV (As := [_, _]) C (ihd c (l + 1) _ _ _ hc (by omega) (by omega) hq.1 (lsQ_S hW.1 hS hq hcH)) (l_G_list_G_list d) k_G_57 rfl rfl rfl rfl rfl (Nat.le_of_ble_eq_true rfl) d_G_list_56 ⟨Nat.le_of_ble_eq_true rfl, Nat.le_of_ble_eq_true rfl⟩ (fun v_56 w_56 h_56 => ?_)
        obtain ⟨rfl, o2, m2, sn2, hP2, rfl⟩ := h_56
        first
          | exact lp_G_list_59 hst C hQ ad σ n H hW p l m o sn hp hL hS hl hun (fun o9 m9 sn9 h => ⟨rfl, o9, m9, sn9, h, rfl⟩) hd (fun d9 e c o9 m9 sn9 h1 h2 h3 h4 h5 => by cases (show d = d9 by omega); exact ihd c (l + 1) o9 m9 sn9 h1 h2 (by omega) h4 h5) _ _ _ hq (fun c hc h => absurd h.1 c_43)
          | (obtain ⟨x1, x2, x3, x4⟩ := lsQ_call hq (by omega) hcH (Or.inl ⟨c_43, hfc⟩) hP2
             exact lp_G_list_59 hst C hQ ad σ n H hW p l m o sn hp hL hS hl hun (fun o9 m9 sn9 h => ⟨rfl, o9, m9, sn9, h, rfl⟩) hd (fun d9 e c o9 m9 sn9 h1 h2 h3 h4 h5 => by cases (show d = d9 by omega); exact ihd c (l + 1) o9 m9 sn9 h1 h2 (by omega) h4 h5) o2 m2 sn2 x1 (fun c9 hc9 a => by have e3 := a.2; rw [hfc] at e3; cases nI_i (by omega) hc9 e3; exact x2))
    · rw [lg_eq, lb_tst (by omega)] at c_16
      exact vg_return C hQ d_G_list_19 rfl (⟨rfl, o, m, sn, lsP_seen hL hS hp (ts_nf c_16), rfl⟩)
