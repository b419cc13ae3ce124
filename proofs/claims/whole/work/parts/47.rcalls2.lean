/-! the reference's calls: attribute, text, close, clear -/
theorem cA_n {D : Dc} {t k : Nat} (h : D.2.1 t k = none) : cA D t (k + 1) = cA D t k := by
  show cA D t k + (if D.2.1 t k ≠ none then 1 else 0) = _
  rw [if_neg (fun z => z h), Nat.add_zero]
theorem gcu_n {g : Nat → Int32} {i : Nat} (h : g i = -1) : gcu g (i + 1) = gcu g i := by
  show gcu g i + (if g i = -1 then 0 else 1) = _
  rw [if_pos h, Nat.add_zero]
set_option maxHeartbeats 4000000 in
set_option maxRecDepth 100000 in
theorem lp_R_attribute {Z : vg_Z} (hst : vg_St Z) {G : vg_G} {post : Option Value → va_W → Prop} (C : vg_C Z M_R_attribute G) (hQ : vg_Rt Z G 0 0 post) (ad : Nat → Nat) (τ : sg) (D : Dc) (nd t a : Nat) (x : Int32) (hM : RM τ D nd) (ht : t < nd) (e16 : τ.1 117 16 = nI t) (hk : vg_K Z M_R_attribute G 0 0 107 [(3, .int (nI (cA D t 6 + 1))), (0, .ref (ad 117)), (1, .int (nI a)), (2, .int x)] [] (wd Z ad τ)) : ∀ (n2 k : Nat) (hlt : 6 < k + n2) (hk6 : k ≤ 6), vg_K Z M_R_attribute G 0 0 73 [(4, .int (nI (6 * t + k))), (3, .int (nI (cA D t k + 1))), (0, .ref (ad 117)), (1, .int (nI a)), (2, .int x)] [] (wd Z ad τ) := by
  have hnd := hM.1.1
  intro n2
  induction n2 with
  | zero =>
    intro k hlt hk6
    exact absurd hlt (by omega)
  | succ n2 ih =>
    intro k hlt hk6
    refine vg_iload C d_R_attribute_73 rfl ?_
    refine vg_bipush (v := 6) C d_R_attribute_75 (by decide) ?_
    refine vg_aload_n C d_R_attribute_77 rfl ?_
    refine wr_get C d_R_attribute_78 f_R_50 rfl rfl rfl rfl ?_
    rw [e16]
    refine vg_imul C d_R_attribute_81 ?_
    rw [show (6 : Int32) = nI 6 from rfl, pk_mul]
    refine vg_bipush (v := 6) C d_R_attribute_82 (by decide) ?_
    refine vg_iadd C d_R_attribute_84 ?_
    rw [show (6 : Int32) = nI 6 from rfl, nI_add]
    refine vg_icmp_ge (tgt := 107) C d_R_attribute_85 (by decide) (fun c_85 => ?_) (fun c_85 => ?_)
    · rw [nI_leI (by omega) (by omega)] at c_85
      refine vg_lv [1, 2, 3, 4] rfl ?_
      rw [show 6 = k by omega] at hk
      exact hk
    · rw [nI_leI (by omega) (by omega)] at c_85
      refine vg_aload_n C d_R_attribute_88 rfl ?_
      refine wr_get C d_R_attribute_89 f_R_34 rfl rfl rfl rfl ?_
      refine vg_iload C d_R_attribute_92 rfl ?_
      refine wr_zald C d_R_attribute_94 rfl rfl (by exact vp_in_nI (by omega) (by decide)) ?_
      rw [nI_clamp (by omega), ((hM.2.2 t ht).2.1 k (by omega)).1]
      refine vg_if_eq (tgt := 101) C d_R_attribute_95 (by decide) (fun c_95 => ?_) (fun c_95 => ?_)
      · rw [bP_eq] at c_95; (try simp only [Classical.not_not] at c_95)
        refine vg_iinc (v := nI (6 * t + (k + 1))) C d_R_attribute_101 rfl (nI_1 _) (Nat.le_of_ble_eq_true rfl) rfl ?_
        refine vg_goto (tgt := 73) C d_R_attribute_104 (by decide) ?_
        first
          | exact ih (k + 1) (by omega) (by omega)
          | (rw [← cA_n c_95]
             exact ih (k + 1) (by omega) (by omega))
      · rw [bP_eq] at c_95; (try simp only [Classical.not_not] at c_95)
        refine vg_iinc (v := nI (cA D t (k + 1) + 1)) C d_R_attribute_98 rfl (by rw [show cA D t (k + 1) = cA D t k + 1 from congrArg (cA D t k + ·) (if_pos c_95)]; exact nI_1 _) (Nat.le_of_ble_eq_true rfl) rfl ?_
        refine vg_iinc (v := nI (6 * t + (k + 1))) C d_R_attribute_101 rfl (nI_1 _) (Nat.le_of_ble_eq_true rfl) rfl ?_
        refine vg_goto (tgt := 73) C d_R_attribute_104 (by decide) ?_
        first
          | exact ih (k + 1) (by omega) (by omega)
          | (rw [← cA_n c_95]
             exact ih (k + 1) (by omega) (by omega))
theorem cA_le (D : Dc) (t : Nat) : ∀ n, cA D t n ≤ n := by
  intro n
  induction n with
  | zero => exact Nat.le_refl 0
  | succ n ih =>
    show cA D t n + (if D.2.1 t n ≠ none then 1 else 0) ≤ n + 1
    by_cases q : D.2.1 t n ≠ none
    · rw [if_pos q]
      omega
    · rw [if_neg q]
      omega
set_option maxHeartbeats 4000000 in
set_option maxRecDepth 100000 in
theorem c_R_attribute (Z : vg_Z) (hst : vg_St Z) (ad : Nat → Nat) (σ : sg) (nm x : Int32) (P : Pm) (hW : PW P) (hI : IM σ P)  : vg_T Z M_R_attribute 0 0 [.ref (ad 117), .int nm, .int x] (wd Z ad σ) (fun v w => PR Z ad σ (SpA P nm x) v w) := by
  refine vg_enter hst (by decide) rfl (Nat.le_of_ble_eq_true rfl) ?_
  intro G C hQ
  show vg_K Z M_R_attribute G 0 0 0 [(0, .ref (ad 117)), (1, .int nm), (2, .int x)] [] (wd Z ad σ)
  refine vg_aload_n C d_R_attribute_0 rfl ?_
  refine vg_iconst (v := 0) C d_R_attribute_1 (by decide) ?_
  refine wr_puti C d_R_attribute_2 f_R_70 p_R_0 rfl rfl rfl rfl rfl (Nat.le_of_ble_eq_true rfl) (wf_iR0 _ _ _) ?_
  obtain ⟨σ0, e0, i0, z0, f0⟩ := t0_ex hI
  rw [show sI σ 117 (upd (σ.1 117) 0 0) = σ0 from e0]
  obtain ⟨⟨g1, g2, g3, g4, g5, g6⟩, hM, g16, g24, h9⟩ := id i0
  have hn := hW.1.1
  have hnd := hM.1.1
  have hpn := hW.2.1
  refine vg_iload_n C d_R_attribute_5 rfl ?_
  refine vg_iconst (v := 0) C d_R_attribute_6 (by decide) ?_
  refine vg_iconst (v := 5) C d_R_attribute_7 (by decide) ?_
  refine vg_callS (As := [_, _, _]) C (c_R_in Z hst ad σ0 nm 0 5) l_R_attribute_R_in k_R_76 rfl rfl (Nat.le_of_ble_eq_true rfl) d_R_attribute_8 ⟨Nat.le_of_ble_eq_true rfl, Nat.le_of_ble_eq_true rfl⟩ (fun v_8 w_8 h_8 => ?_)
  obtain ⟨rfl, rfl⟩ := h_8
  refine vg_if_ne (tgt := 20) C d_R_attribute_11 (by decide) (fun c_11 => ?_) (fun c_11 => ?_)
  · rw [bP_eq] at c_11; (try simp only [Classical.not_not] at c_11)
    obtain ⟨a, ha, rfl⟩ := nJ_of (n := 6) (by decide) c_11.1 ((a_56 nm).mp c_11.2)
    by_cases h0 : pn P = 0
    · skip
      have e16 : σ0.1 117 16 = -1 := g16.trans (opn_0 h0)
      refine vg_aload_n C d_R_attribute_20 rfl ?_
      refine wr_get C d_R_attribute_21 f_R_50 rfl rfl rfl rfl ?_
      rw [e16]
      refine vg_if_lt (tgt := 56) C d_R_attribute_24 (by decide) (fun _ => ?_) (fun c_24 => absurd m1_lt0 c_24)
      refine vg_aload_n C d_R_attribute_56 rfl ?_
      refine vg_iconst (v := 2) C d_R_attribute_57 (by decide) ?_
      refine wr_callV (As := [_]) C (c_R_raise Z hst ad σ0 2) l_R_attribute_R_raise k_R_87 rfl rfl rfl rfl rfl (Nat.le_of_ble_eq_true rfl) d_R_attribute_58 ⟨Nat.le_of_ble_eq_true rfl, Nat.le_of_ble_eq_true rfl⟩ (fun v_58 w_58 h_58 => ?_)
      obtain ⟨rfl, rfl⟩ := h_58
      exact vg_ireturn C hQ d_R_attribute_61 rfl (by first | rfl | assumption) (PR_raise f0 i0 (Or.inr (Or.inl ⟨h_lt1 c_11, fun z => z.1 h0, rfl, rfl⟩)))
    · skip
      have e16 : σ0.1 117 16 = nI (pT P) := g16.trans (opn_s h0)
      have hT1 : pT P < pd P := hW.2.2 (pn P - 1) (by omega)
      have e30 := (hM.2.2 (pT P) hT1).2.2.1
      have h66 := (hM.1.2 (pT P) hT1).1
      have hca : cA (pD P) (pT P) 6 ≤ 6 := cA_le _ _ 6
      refine vg_aload_n C d_R_attribute_20 rfl ?_
      refine wr_get C d_R_attribute_21 f_R_50 rfl rfl rfl rfl ?_
      rw [e16]
      refine vg_if_lt (tgt := 56) C d_R_attribute_24 (by decide) (fun c_24 => absurd c_24 (i32_lt0 (by omega))) (fun _ => ?_)
      refine vg_aload_n C d_R_attribute_27 rfl ?_
      refine wr_get C d_R_attribute_28 f_R_47 rfl rfl rfl rfl ?_
      refine vg_aload_n C d_R_attribute_31 rfl ?_
      refine wr_get C d_R_attribute_32 f_R_50 rfl rfl rfl rfl ?_
      rw [e16]
      refine wr_iald C d_R_attribute_35 rfl rfl (by exact vp_in_nI (by omega) (by decide)) ?_
      rw [nI_clamp (by omega), e30]
      refine vg_if_gt (tgt := 56) C d_R_attribute_36 (by decide) (fun c_36 => ?_) (fun c_36 => ?_)
      · rw [show (0 : Int32) = nI 0 from rfl, nI_ltJ (by decide) (by omega)] at c_36
        refine vg_aload_n C d_R_attribute_56 rfl ?_
        refine vg_iconst (v := 2) C d_R_attribute_57 (by decide) ?_
        refine wr_callV (As := [_]) C (c_R_raise Z hst ad σ0 2) l_R_attribute_R_raise k_R_87 rfl rfl rfl rfl rfl (Nat.le_of_ble_eq_true rfl) d_R_attribute_58 ⟨Nat.le_of_ble_eq_true rfl, Nat.le_of_ble_eq_true rfl⟩ (fun v_58 w_58 h_58 => ?_)
        obtain ⟨rfl, rfl⟩ := h_58
        exact vg_ireturn C hQ d_R_attribute_61 rfl (by first | rfl | assumption) (PR_raise f0 i0 (Or.inr (Or.inl ⟨h_lt1 c_11, fun z => by first | exact absurd z.2.1 (by omega) | exact c_53 (by have q := z.2.2.1; rw [nI_clamp (by omega)] at q; exact q), rfl, rfl⟩)))
      · rw [show (0 : Int32) = nI 0 from rfl, nI_ltJ (by decide) (by omega)] at c_36
        refine vg_aload_n C d_R_attribute_39 rfl ?_
        refine wr_get C d_R_attribute_40 f_R_34 rfl rfl rfl rfl ?_
        refine vg_bipush (v := 6) C d_R_attribute_43 (by decide) ?_
        refine vg_aload_n C d_R_attribute_45 rfl ?_
        refine wr_get C d_R_attribute_46 f_R_50 rfl rfl rfl rfl ?_
        rw [e16]
        refine vg_imul C d_R_attribute_49 ?_
        rw [show (6 : Int32) = nI 6 from rfl, pk_mul]
        refine vg_iload_n C d_R_attribute_50 rfl ?_
        refine vg_iadd C d_R_attribute_51 ?_
        rw [nI_add]
        refine wr_zald C d_R_attribute_52 rfl rfl (by exact vp_in_nI (by omega) (by decide)) ?_
        rw [nI_clamp (by omega), ((hM.2.2 _ hT1).2.1 a ha).1]
        refine vg_if_eq (tgt := 62) C d_R_attribute_53 (by decide) (fun c_53 => ?_) (fun c_53 => ?_)
        · rw [bP_eq] at c_53; (try simp only [Classical.not_not] at c_53)
          refine vg_iconst (v := 1) C d_R_attribute_62 (by decide) ?_
          refine vg_istore_n C d_R_attribute_63 (Nat.le_of_ble_eq_true rfl) rfl ?_
          refine vg_bipush (v := 6) C d_R_attribute_64 (by decide) ?_
          refine vg_aload_n C d_R_attribute_66 rfl ?_
          refine wr_get C d_R_attribute_67 f_R_50 rfl rfl rfl rfl ?_
          rw [e16]
          refine vg_imul C d_R_attribute_70 ?_
          rw [show (6 : Int32) = nI 6 from rfl, pk_mul]
          refine vg_istore C d_R_attribute_71 (Nat.le_of_ble_eq_true rfl) rfl ?_
          refine lp_R_attribute hst C hQ ad σ0 (pD P) (pd P) (pT P) a x hM hT1 e16 ?_ 7 0 (by omega) (by omega)
          refine vg_iload_n C d_R_attribute_107 rfl ?_
          refine vg_iconst (v := 3) C d_R_attribute_108 (by decide) ?_
          refine vg_icmp_le (tgt := 118) C d_R_attribute_109 (by decide) (fun c_109 => ?_) (fun c_109 => ?_)
          · rw [show (3 : Int32) = nI 3 from rfl, nI_leI (by omega) (by decide)] at c_109
            refine vg_aload_n C d_R_attribute_118 rfl ?_
            refine wr_get C d_R_attribute_119 f_R_34 rfl rfl rfl rfl ?_
            refine vg_bipush (v := 6) C d_R_attribute_122 (by decide) ?_
            refine vg_aload_n C d_R_attribute_124 rfl ?_
            refine wr_get C d_R_attribute_125 f_R_50 rfl rfl rfl rfl ?_
            simp (disch := decide) only [sI_ne, sI_at, sL_ne, sL_at, sL_1, sI_2, pk_un, e16]
            refine vg_imul C d_R_attribute_128 ?_
            rw [show (6 : Int32) = nI 6 from rfl, pk_mul]
            refine vg_iload_n C d_R_attribute_129 rfl ?_
            refine vg_iadd C d_R_attribute_130 ?_
            rw [nI_add]
            refine vg_iconst (v := 1) C d_R_attribute_131 (by decide) ?_
            refine wr_zast C d_R_attribute_132 rfl rfl (by exact vp_in_nI (by omega) (by decide)) ?_
            rw [nI_clamp (by omega), show vp_nar .boolean 1 = 1 from rfl]
            refine vg_aload_n C d_R_attribute_133 rfl ?_
            refine wr_get C d_R_attribute_134 f_R_38 rfl rfl rfl rfl ?_
            refine vg_bipush (v := 6) C d_R_attribute_137 (by decide) ?_
            refine vg_aload_n C d_R_attribute_139 rfl ?_
            refine wr_get C d_R_attribute_140 f_R_50 rfl rfl rfl rfl ?_
            simp (disch := decide) only [sI_ne, sI_at, sL_ne, sL_at, sL_1, sI_2, pk_un, e16]
            refine vg_imul C d_R_attribute_143 ?_
            rw [show (6 : Int32) = nI 6 from rfl, pk_mul]
            refine vg_iload_n C d_R_attribute_144 rfl ?_
            refine vg_iadd C d_R_attribute_145 ?_
            rw [nI_add]
            refine vg_iload_n C d_R_attribute_146 rfl ?_
            refine wr_iast C d_R_attribute_147 rfl rfl (by exact vp_in_nI (by omega) (by decide)) ?_
            rw [nI_clamp (by omega)]
            simp (disch := decide) only [sI_ne, sI_at, sL_ne, sL_at, sL_1, sI_2, pk_un, e16]
            refine vg_iload_n C d_R_attribute_148 rfl ?_
            exact vg_ireturn C hQ d_R_attribute_149 rfl (by first | rfl | assumption) (PR_ret (P' := p_att P a x) (frM_sI (frM_sI f0 (by decide)) (by decide)) (IM_same i0 (fun j h1 h2 => by simp (disch := omega) only [sI_ne]) rfl rfl rfl rfl rfl (RM_att hM hT1 ha rfl rfl rfl rfl rfl rfl rfl) rfl rfl rfl rfl) z0 (Or.inr (Or.inr ⟨h_lt1 c_11, ⟨h0, (by omega), (by rw [nI_clamp (by omega)]; exact c_53), (by omega)⟩, rfl, rfl, congrArg (fun k => p_att P k x) (nI_clamp (by omega)).symm⟩)))
          · rw [show (3 : Int32) = nI 3 from rfl, nI_leI (by omega) (by decide)] at c_109
            refine vg_aload_n C d_R_attribute_112 rfl ?_
            refine vg_iconst (v := 2) C d_R_attribute_113 (by decide) ?_
            refine wr_callV (As := [_]) C (c_R_raise Z hst ad σ0 2) l_R_attribute_R_raise k_R_87 rfl rfl rfl rfl rfl (Nat.le_of_ble_eq_true rfl) d_R_attribute_114 ⟨Nat.le_of_ble_eq_true rfl, Nat.le_of_ble_eq_true rfl⟩ (fun v_114 w_114 h_114 => ?_)
            obtain ⟨rfl, rfl⟩ := h_114
            exact vg_ireturn C hQ d_R_attribute_117 rfl (by first | rfl | assumption) (PR_raise f0 i0 (Or.inr (Or.inl ⟨h_lt1 c_11, fun z => absurd z.2.2.2 (by omega), rfl, rfl⟩)))
        · rw [bP_eq] at c_53; (try simp only [Classical.not_not] at c_53)
          refine vg_aload_n C d_R_attribute_56 rfl ?_
          refine vg_iconst (v := 2) C d_R_attribute_57 (by decide) ?_
          refine wr_callV (As := [_]) C (c_R_raise Z hst ad σ0 2) l_R_attribute_R_raise k_R_87 rfl rfl rfl rfl rfl (Nat.le_of_ble_eq_true rfl) d_R_attribute_58 ⟨Nat.le_of_ble_eq_true rfl, Nat.le_of_ble_eq_true rfl⟩ (fun v_58 w_58 h_58 => ?_)
          obtain ⟨rfl, rfl⟩ := h_58
          exact vg_ireturn C hQ d_R_attribute_61 rfl (by first | rfl | assumption) (PR_raise f0 i0 (Or.inr (Or.inl ⟨h_lt1 c_11, fun z => by first | exact absurd z.2.1 (by omega) | exact c_53 (by have q := z.2.2.1; rw [nI_clamp (by omega)] at q; exact q), rfl, rfl⟩)))
  · rw [bP_eq] at c_11; (try simp only [Classical.not_not] at c_11)
    refine vg_aload_n C d_R_attribute_14 rfl ?_
    refine vg_iconst (v := 1) C d_R_attribute_15 (by decide) ?_
    refine wr_callV (As := [_]) C (c_R_raise Z hst ad σ0 1) l_R_attribute_R_raise k_R_87 rfl rfl rfl rfl rfl (Nat.le_of_ble_eq_true rfl) d_R_attribute_16 ⟨Nat.le_of_ble_eq_true rfl, Nat.le_of_ble_eq_true rfl⟩ (fun v_16 w_16 h_16 => ?_)
    obtain ⟨rfl, rfl⟩ := h_16
    exact vg_ireturn C hQ d_R_attribute_19 rfl (by first | rfl | assumption) (PR_raise f0 i0 (Or.inl ⟨h_lt2 c_11, rfl, rfl⟩))
set_option maxHeartbeats 4000000 in
set_option maxRecDepth 100000 in
theorem c_R_text (Z : vg_Z) (hst : vg_St Z) (ad : Nat → Nat) (σ : sg) (x : Int32) (P : Pm) (hW : PW P) (hI : IM σ P)  : vg_T Z M_R_text 0 0 [.ref (ad 117), .int x] (wd Z ad σ) (fun v w => PR Z ad σ (SpT P x) v w) := by
  refine vg_enter hst (by decide) rfl (Nat.le_of_ble_eq_true rfl) ?_
  intro G C hQ
  show vg_K Z M_R_text G 0 0 0 [(0, .ref (ad 117)), (1, .int x)] [] (wd Z ad σ)
  refine vg_aload_n C d_R_text_0 rfl ?_
  refine vg_iconst (v := 0) C d_R_text_1 (by decide) ?_
  refine wr_puti C d_R_text_2 f_R_70 p_R_0 rfl rfl rfl rfl rfl (Nat.le_of_ble_eq_true rfl) (wf_iR0 _ _ _) ?_
  obtain ⟨σ0, e0, i0, z0, f0⟩ := t0_ex hI
  rw [show sI σ 117 (upd (σ.1 117) 0 0) = σ0 from e0]
  obtain ⟨⟨g1, g2, g3, g4, g5, g6⟩, hM, g16, g24, h9⟩ := id i0
  have hn := hW.1.1
  have hnd := hM.1.1
  have hpn := hW.2.1
  by_cases h0 : pn P = 0
  · skip
    have e16 : σ0.1 117 16 = -1 := g16.trans (opn_0 h0)
    refine vg_aload_n C d_R_text_5 rfl ?_
    refine wr_get C d_R_text_6 f_R_50 rfl rfl rfl rfl ?_
    rw [e16]
    refine vg_if_lt (tgt := 26) C d_R_text_9 (by decide) (fun _ => ?_) (fun c_9 => absurd m1_lt0 c_9)
    refine vg_aload_n C d_R_text_26 rfl ?_
    refine vg_iconst (v := 1) C d_R_text_27 (by decide) ?_
    refine wr_callV (As := [_]) C (c_R_raise Z hst ad σ0 1) l_R_text_R_raise k_R_87 rfl rfl rfl rfl rfl (Nat.le_of_ble_eq_true rfl) d_R_text_28 ⟨Nat.le_of_ble_eq_true rfl, Nat.le_of_ble_eq_true rfl⟩ (fun v_28 w_28 h_28 => ?_)
    obtain ⟨rfl, rfl⟩ := h_28
    exact vg_ireturn C hQ d_R_text_31 rfl (by first | rfl | assumption) (PR_raise f0 i0 (Or.inl ⟨fun z => z.1 h0, rfl, rfl⟩))
  · skip
    have e16 : σ0.1 117 16 = nI (pT P) := g16.trans (opn_s h0)
    have hT1 : pT P < pd P := hW.2.2 (pn P - 1) (by omega)
    have e30 := (hM.2.2 (pT P) hT1).2.2.1
    have h66 := (hM.1.2 (pT P) hT1).1
    refine vg_aload_n C d_R_text_5 rfl ?_
    refine wr_get C d_R_text_6 f_R_50 rfl rfl rfl rfl ?_
    rw [e16]
    refine vg_if_lt (tgt := 26) C d_R_text_9 (by decide) (fun c_9 => absurd c_9 (i32_lt0 (by omega))) (fun _ => ?_)
    refine vg_aload_n C d_R_text_12 rfl ?_
    refine wr_get C d_R_text_13 f_R_47 rfl rfl rfl rfl ?_
    refine vg_aload_n C d_R_text_16 rfl ?_
    refine wr_get C d_R_text_17 f_R_50 rfl rfl rfl rfl ?_
    rw [e16]
    refine wr_iald C d_R_text_20 rfl rfl (by exact vp_in_nI (by omega) (by decide)) ?_
    rw [nI_clamp (by omega), e30]
    refine vg_bipush (v := 6) C d_R_text_21 (by decide) ?_
    refine vg_icmp_ne (tgt := 32) C d_R_text_23 (by decide) (fun c_23 => ?_) (fun c_23 => ?_)
    · rw [show (6 : Int32) = nI 6 from rfl, nI_eq (by omega) (by decide)] at c_23
      refine vg_bipush (v := 6) C d_R_text_32 (by decide) ?_
      refine vg_aload_n C d_R_text_34 rfl ?_
      refine wr_get C d_R_text_35 f_R_50 rfl rfl rfl rfl ?_
      rw [e16]
      refine vg_imul C d_R_text_38 ?_
      rw [show (6 : Int32) = nI 6 from rfl, pk_mul]
      refine vg_aload_n C d_R_text_39 rfl ?_
      refine wr_get C d_R_text_40 f_R_47 rfl rfl rfl rfl ?_
      refine vg_aload_n C d_R_text_43 rfl ?_
      refine wr_get C d_R_text_44 f_R_50 rfl rfl rfl rfl ?_
      rw [e16]
      refine wr_iald C d_R_text_47 rfl rfl (by exact vp_in_nI (by omega) (by decide)) ?_
      rw [nI_clamp (by omega), e30]
      refine vg_iadd C d_R_text_48 ?_
      rw [nI_add]
      refine vg_istore_n C d_R_text_49 (Nat.le_of_ble_eq_true rfl) rfl ?_
      refine vg_aload_n C d_R_text_50 rfl ?_
      refine wr_get C d_R_text_51 f_R_41 rfl rfl rfl rfl ?_
      refine vg_iload_n C d_R_text_54 rfl ?_
      refine vg_iconst (v := (-1)) C d_R_text_55 (by decide) ?_
      refine wr_iast C d_R_text_56 rfl rfl (by exact vp_in_nI (by omega) (by decide)) ?_
      rw [nI_clamp (by omega)]
      refine vg_aload_n C d_R_text_57 rfl ?_
      refine wr_get C d_R_text_58 f_R_44 rfl rfl rfl rfl ?_
      refine vg_iload_n C d_R_text_61 rfl ?_
      refine vg_iload_n C d_R_text_62 rfl ?_
      refine wr_iast C d_R_text_63 rfl rfl (by exact vp_in_nI (by omega) (by decide)) ?_
      rw [nI_clamp (by omega)]
      simp (disch := decide) only [sI_ne, sI_at, sL_ne, sL_at, sL_1, sI_2, pk_un, e16]
      refine vg_aload_n C d_R_text_64 rfl ?_
      refine wr_get C d_R_text_65 f_R_47 rfl rfl rfl rfl ?_
      refine vg_aload_n C d_R_text_68 rfl ?_
      refine wr_get C d_R_text_69 f_R_50 rfl rfl rfl rfl ?_
      simp (disch := decide) only [sI_ne, sI_at, sL_ne, sL_at, sL_1, sI_2, pk_un, e16]
      refine vg_dup2 C d_R_text_72 rfl rfl ?_
      refine wr_iald C d_R_text_73 rfl rfl (by exact vp_in_nI (by omega) (by decide)) ?_
      rw [nI_clamp (by omega)]
      simp (disch := decide) only [sI_ne, sI_at, sL_ne, sL_at, sL_1, sI_2, pk_un, e16]
      rw [e30]
      refine vg_iconst (v := 1) C d_R_text_74 (by decide) ?_
      refine vg_iadd C d_R_text_75 ?_
      rw [nI_1]
      refine wr_iast C d_R_text_76 rfl rfl (by exact vp_in_nI (by omega) (by decide)) ?_
      rw [nI_clamp (by omega)]
      simp (disch := decide) only [sI_ne, sI_at, sL_ne, sL_at, sL_1, sI_2, pk_un, e16]
      refine vg_aload_n C d_R_text_77 rfl ?_
      refine wr_get C d_R_text_78 f_R_47 rfl rfl rfl rfl ?_
      refine vg_aload_n C d_R_text_81 rfl ?_
      refine wr_get C d_R_text_82 f_R_50 rfl rfl rfl rfl ?_
      simp (disch := decide) only [sI_ne, sI_at, sL_ne, sL_at, sL_1, sI_2, pk_un, e16]
      refine wr_iald C d_R_text_85 rfl rfl (by exact vp_in_nI (by omega) (by decide)) ?_
      rw [nI_clamp (by omega)]
      simp (disch := decide) only [sI_ne, sI_at, sL_ne, sL_at, sL_1, sI_2, pk_un, e16]
      rw [pk_us]
      exact vg_ireturn C hQ d_R_text_86 rfl (by first | rfl | assumption) (PR_ret (P' := p_text P x) (frM_sI (frM_sI (frM_sI f0 (by decide)) (by decide)) (by decide)) (IM_same i0 (fun j h1 h2 => by simp (disch := omega) only [sI_ne]) rfl rfl rfl rfl rfl (RM_text hM hT1 (by omega) rfl rfl rfl rfl rfl rfl rfl) rfl rfl rfl rfl) z0 (Or.inr ⟨⟨h0, by omega⟩, rfl, rfl, rfl⟩))
    · rw [show (6 : Int32) = nI 6 from rfl, nI_eq (by omega) (by decide)] at c_23
      refine vg_aload_n C d_R_text_26 rfl ?_
      refine vg_iconst (v := 1) C d_R_text_27 (by decide) ?_
      refine wr_callV (As := [_]) C (c_R_raise Z hst ad σ0 1) l_R_text_R_raise k_R_87 rfl rfl rfl rfl rfl (Nat.le_of_ble_eq_true rfl) d_R_text_28 ⟨Nat.le_of_ble_eq_true rfl, Nat.le_of_ble_eq_true rfl⟩ (fun v_28 w_28 h_28 => ?_)
      obtain ⟨rfl, rfl⟩ := h_28
      exact vg_ireturn C hQ d_R_text_31 rfl (by first | rfl | assumption) (PR_raise f0 i0 (Or.inl ⟨fun z => absurd z.2 (by omega), rfl, rfl⟩))
set_option maxHeartbeats 4000000 in
set_option maxRecDepth 100000 in
theorem c_R_close (Z : vg_Z) (hst : vg_St Z) (ad : Nat → Nat) (σ : sg) (P : Pm) (hW : PW P) (hI : IM σ P)  : vg_T Z M_R_close 0 0 [.ref (ad 117)] (wd Z ad σ) (fun v w => PR Z ad σ (SpC P) v w) := by
  refine vg_enter hst (by decide) rfl (Nat.le_of_ble_eq_true rfl) ?_
  intro G C hQ
  show vg_K Z M_R_close G 0 0 0 [(0, .ref (ad 117))] [] (wd Z ad σ)
  refine vg_aload_n C d_R_close_0 rfl ?_
  refine vg_iconst (v := 0) C d_R_close_1 (by decide) ?_
  refine wr_puti C d_R_close_2 f_R_70 p_R_0 rfl rfl rfl rfl rfl (Nat.le_of_ble_eq_true rfl) (wf_iR0 _ _ _) ?_
  obtain ⟨σ0, e0, i0, z0, f0⟩ := t0_ex hI
  rw [show sI σ 117 (upd (σ.1 117) 0 0) = σ0 from e0]
  obtain ⟨⟨g1, g2, g3, g4, g5, g6⟩, hM, g16, g24, h9⟩ := id i0
  have hn := hW.1.1
  have hnd := hM.1.1
  have hpn := hW.2.1
  by_cases h0 : pn P = 0
  · skip
    have e16 : σ0.1 117 16 = -1 := g16.trans (opn_0 h0)
    refine vg_aload_n C d_R_close_5 rfl ?_
    refine wr_get C d_R_close_6 f_R_50 rfl rfl rfl rfl ?_
    rw [e16]
    refine vg_if_ge (tgt := 18) C d_R_close_9 (by decide) (fun c_9 => absurd c_9 (by decide)) (fun _ => ?_)
    refine vg_aload_n C d_R_close_12 rfl ?_
    refine vg_iconst (v := 1) C d_R_close_13 (by decide) ?_
    refine wr_callV (As := [_]) C (c_R_raise Z hst ad σ0 1) l_R_close_R_raise k_R_87 rfl rfl rfl rfl rfl (Nat.le_of_ble_eq_true rfl) d_R_close_14 ⟨Nat.le_of_ble_eq_true rfl, Nat.le_of_ble_eq_true rfl⟩ (fun v_14 w_14 h_14 => ?_)
    obtain ⟨rfl, rfl⟩ := h_14
    exact vg_ireturn C hQ d_R_close_17 rfl (by first | rfl | assumption) (PR_raise f0 i0 (Or.inl ⟨h0, rfl, rfl⟩))
  · skip
    have e16 : σ0.1 117 16 = nI (pT P) := g16.trans (opn_s h0)
    have hT1 : pT P < pd P := hW.2.2 (pn P - 1) (by omega)
    have e30 := (hM.2.2 (pT P) hT1).2.2.1
    have h66 := (hM.1.2 (pT P) hT1).1
    have e24 := (g24 (pn P - 1) (by omega)).1
    refine vg_aload_n C d_R_close_5 rfl ?_
    refine wr_get C d_R_close_6 f_R_50 rfl rfl rfl rfl ?_
    rw [e16]
    refine vg_if_ge (tgt := 18) C d_R_close_9 (by decide) (fun _ => ?_) (fun c_9 => absurd (i32_ge0 (by omega)) c_9)
    refine vg_aload_n C d_R_close_18 rfl ?_
    refine wr_get C d_R_close_19 f_R_50 rfl rfl rfl rfl ?_
    rw [e16]
    refine vg_istore_n C d_R_close_22 (Nat.le_of_ble_eq_true rfl) rfl ?_
    refine vg_aload_n C d_R_close_23 rfl ?_
    refine vg_aload_n C d_R_close_24 rfl ?_
    refine wr_get C d_R_close_25 f_R_28 rfl rfl rfl rfl ?_
    refine vg_aload_n C d_R_close_28 rfl ?_
    refine wr_get C d_R_close_29 f_R_50 rfl rfl rfl rfl ?_
    rw [e16]
    refine wr_iald C d_R_close_32 rfl rfl (by exact vp_in_nI (by omega) (by decide)) ?_
    rw [nI_clamp (by omega), e24]
    refine wr_puti C d_R_close_33 f_R_50 p_R_16 rfl rfl rfl rfl rfl (Nat.le_of_ble_eq_true rfl) (wf_iR16 _ _ _) ?_
    refine vg_iload_n C d_R_close_36 rfl ?_
    exact vg_ireturn C hQ d_R_close_37 rfl (by first | rfl | assumption) (PR_ret (P' := p_close P) (frM_sI f0 (by decide)) ⟨⟨g1, g2, g3, g4, g5, g6⟩, hM, rfl, fun j hj => g24 j (Nat.lt_of_lt_of_le hj (Nat.sub_le _ _)), h9⟩ z0 (Or.inr ⟨h0, rfl, rfl, rfl⟩))
set_option maxHeartbeats 4000000 in
set_option maxRecDepth 100000 in
theorem c_R_clear (Z : vg_Z) (hst : vg_St Z) (ad : Nat → Nat) (σ : sg) (P : Pm) (hW : PW P) (hI : IM σ P)  : vg_T Z M_R_clear 0 0 [.ref (ad 117)] (wd Z ad σ) (fun v w => ∃ b P' τ, SpR P b P' ∧ v = some (.int b) ∧ IM τ P' ∧ frM σ τ ∧ w = wd Z ad τ) := by
  refine vg_enter hst (by decide) rfl (Nat.le_of_ble_eq_true rfl) ?_
  intro G C hQ
  show vg_K Z M_R_clear G 0 0 0 [(0, .ref (ad 117))] [] (wd Z ad σ)
  refine vg_aload_n C d_R_clear_0 rfl ?_
  refine vg_iconst (v := 0) C d_R_clear_1 (by decide) ?_
  refine wr_puti C d_R_clear_2 f_R_70 p_R_0 rfl rfl rfl rfl rfl (Nat.le_of_ble_eq_true rfl) (wf_iR0 _ _ _) ?_
  obtain ⟨σ0, e0, i0, z0, f0⟩ := t0_ex hI
  rw [show sI σ 117 (upd (σ.1 117) 0 0) = σ0 from e0]
  obtain ⟨⟨g1, g2, g3, g4, g5, g6⟩, hM, g16, g24, h9⟩ := id i0
  have hn := hW.1.1
  have hnd := hM.1.1
  have hpn := hW.2.1
  refine vg_aload_n C d_R_clear_5 rfl ?_
  refine wr_get C d_R_clear_6 f_R_95 rfl rfl rfl rfl ?_
  rw [hM.2.1]
  refine vg_istore_n C d_R_clear_9 (Nat.le_of_ble_eq_true rfl) rfl ?_
  refine vg_aload_n C d_R_clear_10 rfl ?_
  refine vg_iconst (v := 0) C d_R_clear_11 (by decide) ?_
  refine wr_puti C d_R_clear_12 f_R_95 p_R_15 rfl rfl rfl rfl rfl (Nat.le_of_ble_eq_true rfl) (wf_iR15 _ _ _) ?_
  refine vg_aload_n C d_R_clear_15 rfl ?_
  refine vg_iconst (v := (-1)) C d_R_clear_16 (by decide) ?_
  refine wr_puti C d_R_clear_17 f_R_50 p_R_16 rfl rfl rfl rfl rfl (Nat.le_of_ble_eq_true rfl) (wf_iR16 _ _ _) ?_
  refine vg_iload_n C d_R_clear_20 rfl ?_
  exact vg_ireturn C hQ d_R_clear_21 rfl (by first | rfl | assumption) (⟨nI (pd P), p_clear P, sI (sI σ0 117 (upd (σ0.1 117) 15 0)) 117 (upd ((sI σ0 117 (upd (σ0.1 117) 15 0)).1 117) 16 (-1)), ⟨rfl, rfl⟩, rfl, ⟨⟨g1, g2, g3, g4, g5, g6⟩, RM_less hM (fun j hj => by simp (disch := omega) only [sI_ne]) rfl, rfl, fun j hj => absurd hj (Nat.not_lt_zero _), h9⟩, frM_sI (frM_sI f0 (by decide)) (by decide), rfl⟩)
