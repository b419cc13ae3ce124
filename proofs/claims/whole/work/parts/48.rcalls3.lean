/-! the reference's calls: work, matches, content, longest, find, nullable, count -/
theorem IM_fR {σ τ : sg} {P : Pm} (h : FrR σ τ) (h9 : ∀ x, 2560 ≤ x → τ.2 131 x = 0) (hI : IM σ P) : IM τ P := by
  obtain ⟨f1, f2, -⟩ := h
  unfold IM RM at hI ⊢
  rw [f1 118 (by decide) (by decide) (by decide) (by decide) (by decide), f1 119 (by decide) (by decide) (by decide) (by decide) (by decide), f1 120 (by decide) (by decide) (by decide) (by decide) (by decide), f1 121 (by decide) (by decide) (by decide) (by decide) (by decide), f1 122 (by decide) (by decide) (by decide) (by decide) (by decide), f1 123 (by decide) (by decide) (by decide) (by decide) (by decide), f1 124 (by decide) (by decide) (by decide) (by decide) (by decide), f1 125 (by decide) (by decide) (by decide) (by decide) (by decide), f1 126 (by decide) (by decide) (by decide) (by decide) (by decide), f1 127 (by decide) (by decide) (by decide) (by decide) (by decide), f1 128 (by decide) (by decide) (by decide) (by decide) (by decide), f1 129 (by decide) (by decide) (by decide) (by decide) (by decide), f1 130 (by decide) (by decide) (by decide) (by decide) (by decide), f2 5 (by decide), f2 15 (by decide), f2 16 (by decide)]
  exact ⟨hI.1, hI.2.1, hI.2.2.1, hI.2.2.2.1, h9⟩
theorem frM_fR {σ τ υ : sg} (h : FrR τ υ) (f : frM σ τ) : frM σ υ := fun j hj => ⟨(h.1 j (by omega) (by omega) (by omega) (by omega) (by omega)).trans (f j hj).1, (h.2.2 j (by omega)).trans (f j hj).2⟩
/-- what the reference knows once the nodes from j on are worked -/
def WK (τ : sg) (P : Pm) (j t : Nat) : Prop := IM τ P ∧ τ.1 117 0 = 0 ∧ (∀ p, p < pN P → τ.1 133 p = bP (SN (pK P) (pF P) (pS P) (pG P) p)) ∧ (∀ u, j ≤ u → u < pd P → ∀ p, p < pN P → τ.1 132 (40 * u + p) = bP (pFU P u p)) ∧ (j = t → t < pd P → ∀ p A z, dm (pN P) (mk (pD P) t 6) (2 ^ (pD P).2.2.1 t) p A z → (Mb (τ.2 131) p A z ↔ pMD P t p A z))
theorem WK_fill {σ τ : sg} {P : Pm} {z t : Nat} (h : WK σ P (z + 1) t) (hz : z < pd P) (hf : FT σ τ (pN P) (pD P) z) : WK τ P z t := by
  obtain ⟨i, z0, h1, h2, -⟩ := h
  obtain ⟨f1, f2, f3, f4, f5, f6⟩ := hf
  have hI := i
  obtain ⟨⟨g1, g2, g3, g4, g5, g6⟩, -⟩ := hI
  rw [g1, g2, g3, g5] at f4 f6
  have hn : pN P ≤ 40 ∨ True := Or.inr trivial
  refine ⟨IM_fR f1 f5 i, (f1.2.1 0 (by decide)).trans z0, fun p hp => by rw [f2]; exact h1 p hp, fun u hu hud p hp => ?_, fun e ht p A y hd => ?_⟩
  · by_cases q : u = z
    · rw [q]
      exact f4 p hp
    · by_cases r : p < 40
      · rw [f3 _ (by omega)]
        exact h2 u (by omega) hud p hp
      · rw [f3 _ (by omega)]
        exact h2 u (by omega) hud p hp
  · subst e
    exact f6 p A y hd
theorem eN_r {σ : sg} {P : Pm} {t : Nat} (hW : PW P) (hI : IM σ P) (ht : t < pd P) (hF : ∀ p, p < pN P → σ.1 132 (40 * t + p) = bP (pFU P t p)) {p : Nat} (hp : p < pN P) : S1 (σ.1 118) (σ.1 119) (σ.1 120) (σ.1 122) (eNr σ t) p ↔ pS1 P t p := by
  have hG := IM_G hW hI
  obtain ⟨⟨g1, g2, g3, g4, g5, g6⟩, hM, -⟩ := hI
  obtain ⟨hWG, hH, hk⟩ := GW_WG hW.1
  unfold pS1
  rw [g1, g2, g3, g5]
  refine S1_tr hWG hH hk (X := fun q => q < pN P) (fun a c ha hc hch => (Ch_Hg hWG ha hc hch).1) (fun a ha => ha) (fun a ha h238 => ?_) (pH P p + 1) p hp (Nat.lt_succ_self _)
  have h40 := hW.1.1
  unfold eNr eN
  rw [g1, g2, g3, (hM.2.2 t ht).1]
  refine and_congr_right fun h8 => and_congr_right fun _ => ?_
  obtain ⟨c, c1, c2, -⟩ := (hWG.2 a ha).2.1 (Or.inr (Or.inr (Or.inr (Or.inl h8))))
  rw [ot_e (by omega) c2, hF c c1, bP_n0]
set_option maxHeartbeats 4000000 in
set_option maxRecDepth 100000 in
theorem lp_R_work {Z : vg_Z} (hst : vg_St Z) {G : vg_G} {post : Option Value → va_W → Prop} (C : vg_C Z M_R_work G) (hQ : vg_Rt Z G 0 0 post) (ad : Nat → Nat) (P : Pm) (hW : PW P) (t : Nat) (ht : t ≤ pd P) (σ : sg) (hp : ∀ τ, WK τ P t t → frM σ τ → post none (wd Z ad τ)) : ∀ (n2 j : Nat) (τ : sg) (hlt : j < t + n2) (h1 : t ≤ j) (h2 : j ≤ pd P), WK τ P j t → frM σ τ → vg_K Z M_R_work G 0 0 11 [(2, .int (nI j - 1)), (0, .ref (ad 117)), (1, .int (nI t))] [] (wd Z ad τ) := by
  intro n2
  induction n2 with
  | zero =>
    intro j τ hlt h1 h2
    exact absurd hlt (by omega)
  | succ n2 ih =>
    intro j τ hlt h1 h2 hK hf
    have hnd := hK.1.2.1.1.1
    refine vg_iload_n C d_R_work_11 rfl ?_
    refine vg_iload_n C d_R_work_12 rfl ?_
    refine vg_icmp_lt (tgt := 27) C d_R_work_13 (by decide) (fun c_13 => ?_) (fun c_13 => ?_)
    · rw [nI_dn j (by omega) t (by omega)] at c_13
      exact vg_return C hQ d_R_work_27 rfl (hp τ ((show j = t by omega) ▸ hK) hf)
    · rw [nI_dn j (by omega) t (by omega)] at c_13
      obtain ⟨z, rfl⟩ : ∃ z, j = z + 1 := ⟨j - 1, by omega⟩
      rw [nI_us]
      have hGG := IM_G hW hK.1
      have g := hK.1.1
      refine vg_aload_n C d_R_work_16 rfl ?_
      refine vg_iload_n C d_R_work_17 rfl ?_
      refine wr_callV (As := [_]) C (c_R_fill Z hst ad τ (pN P) (pH P) hGG.1 hGG.2 (pD P) (pd P) z hK.1.2.1 (by omega) (by rw [g.1, g.2.1, g.2.2.1, g.2.2.2.2.1]; exact hK.2.2.1) (by rw [g.1, g.2.1, g.2.2.1, g.2.2.2.2.1]; exact fun u h3 h4 => hK.2.2.2.1 u (by omega) h4) hK.1.2.2.2.2) l_R_work_R_fill k_R_136 rfl rfl rfl rfl rfl (Nat.le_of_ble_eq_true rfl) d_R_work_18 ⟨Nat.le_of_ble_eq_true rfl, Nat.le_of_ble_eq_true rfl⟩ (fun v_18 w_18 h_18 => ?_)
      obtain ⟨rfl, υ, hυ, rfl⟩ := h_18
      refine vg_iinc (v := nI z - 1) C d_R_work_21 rfl (nI_m1 z (by omega)) (Nat.le_of_ble_eq_true rfl) rfl ?_
      refine vg_goto (tgt := 11) C d_R_work_24 (by decide) ?_
      exact ih z υ (by omega) (by omega) (by omega) (WK_fill hK (by omega) hυ) (frM_fR hυ.1 hf)
set_option maxHeartbeats 4000000 in
set_option maxRecDepth 100000 in
theorem c_R_work (Z : vg_Z) (hst : vg_St Z) (ad : Nat → Nat) (σ : sg) (P : Pm) (hW : PW P) (hI : IM σ P) (z0 : σ.1 117 0 = 0) (t : Nat) (ht : t ≤ pd P)  : vg_T Z M_R_work 0 0 [.ref (ad 117), .int (nI t)] (wd Z ad σ) (fun v w => v = none ∧ ∃ τ, WK τ P t t ∧ frM σ τ ∧ w = wd Z ad τ) := by
  refine vg_enter hst (by decide) rfl (Nat.le_of_ble_eq_true rfl) ?_
  intro G C hQ
  show vg_K Z M_R_work G 0 0 0 [(0, .ref (ad 117)), (1, .int (nI t))] [] (wd Z ad σ)
  obtain ⟨⟨g1, g2, g3, g4, g5, g6⟩, hM, g16, g24, h9⟩ := id hI
  refine vg_aload_n C d_R_work_0 rfl ?_
  refine wr_callV (As := []) C (c_R_findNone Z hst ad σ (pN P) (pH P) (IM_G hW hI).1 (IM_G hW hI).2) l_R_work_R_findNone k_R_133 rfl rfl rfl rfl rfl (Nat.le_of_ble_eq_true rfl) d_R_work_1 ⟨Nat.le_of_ble_eq_true rfl, Nat.le_of_ble_eq_true rfl⟩ (fun v_1 w_1 h_1 => ?_)
  obtain ⟨rfl, r, hr, rfl⟩ := h_1
  rw [g1, g2, g3, g5] at hr
  refine vg_aload_n C d_R_work_4 rfl ?_
  refine wr_get C d_R_work_5 f_R_95 rfl rfl rfl rfl ?_
  rw [show (sI σ 133 r).1 117 15 = nI (pd P) from hM.2.1]
  refine vg_iconst (v := 1) C d_R_work_8 (by decide) ?_
  refine vg_isub C d_R_work_9 ?_
  refine vg_istore_n C d_R_work_10 (Nat.le_of_ble_eq_true rfl) rfl ?_
  exact lp_R_work hst C hQ ad P hW t ht σ (fun τ h1 h2 => ⟨rfl, τ, h1, h2, rfl⟩) (pd P + 1) (pd P) (sI σ 133 r) (by omega) ht (Nat.le_refl _) ⟨hI, z0, hr, fun u h1 h2 => absurd h2 (by omega), fun h1 h2 => absurd h2 (by omega)⟩ (frM_sI frM_rf (by decide))
set_option maxHeartbeats 4000000 in
set_option maxRecDepth 100000 in
theorem c_R_matches (Z : vg_Z) (hst : vg_St Z) (ad : Nat → Nat) (σ : sg) (p t : Int32) (P : Pm) (hW : PW P) (hI : IM σ P)  : vg_T Z M_R_matches 0 0 [.ref (ad 117), .int p, .int t] (wd Z ad σ) (fun v w => PR Z ad σ (SpM P p t) v w) := by
  refine vg_enter hst (by decide) rfl (Nat.le_of_ble_eq_true rfl) ?_
  intro G C hQ
  show vg_K Z M_R_matches G 0 0 0 [(0, .ref (ad 117)), (1, .int p), (2, .int t)] [] (wd Z ad σ)
  refine vg_aload_n C d_R_matches_0 rfl ?_
  refine vg_iconst (v := 0) C d_R_matches_1 (by decide) ?_
  refine wr_puti C d_R_matches_2 f_R_70 p_R_0 rfl rfl rfl rfl rfl (Nat.le_of_ble_eq_true rfl) (wf_iR0 _ _ _) ?_
  obtain ⟨σ0, e0, i0, z0, f0⟩ := t0_ex hI
  rw [show sI σ 117 (upd (σ.1 117) 0 0) = σ0 from e0]
  obtain ⟨⟨g1, g2, g3, g4, g5, g6⟩, hM, g16, g24, h9⟩ := id i0
  have hn := hW.1.1
  have hnd := hM.1.1
  have hpn := hW.2.1
  refine vg_aload_n C d_R_matches_5 rfl ?_
  refine vg_iload_n C d_R_matches_6 rfl ?_
  refine vg_iload_n C d_R_matches_7 rfl ?_
  refine wr_callV (As := [_, _]) C (c_R_known Z hst ad σ0 p t (pN P) (pd P) g6 hn hM.2.1 hnd) l_R_matches_R_known k_R_140 rfl rfl rfl rfl rfl (Nat.le_of_ble_eq_true rfl) d_R_matches_8 ⟨Nat.le_of_ble_eq_true rfl, Nat.le_of_ble_eq_true rfl⟩ (fun v_8 w_8 h_8 => ?_)
  obtain ⟨rfl, rfl⟩ := h_8
  refine vg_if_ne (tgt := 20) C d_R_matches_11 (by decide) (fun c_11 => ?_) (fun c_11 => ?_)
  · rw [bP_eq] at c_11; (try simp only [Classical.not_not] at c_11)
    obtain ⟨q, hq, rfl⟩ := nJ_of (by omega) c_11.1.1 c_11.1.2
    obtain ⟨u, hu, rfl⟩ := nJ_of (by omega) c_11.2.1 c_11.2.2
    refine vg_aload_n C d_R_matches_20 rfl ?_
    refine vg_iload_n C d_R_matches_21 rfl ?_
    refine wr_callV (As := [_]) C (c_R_work Z hst ad σ0 P hW i0 z0 u (by omega)) l_R_matches_R_work k_R_143 rfl rfl rfl rfl rfl (Nat.le_of_ble_eq_true rfl) d_R_matches_22 ⟨Nat.le_of_ble_eq_true rfl, Nat.le_of_ble_eq_true rfl⟩ (fun v_22 w_22 h_22 => ?_)
    obtain ⟨rfl, τ, hK, fK, rfl⟩ := h_22
    obtain ⟨iK, zK, k1, k2, k3⟩ := id hK
    obtain ⟨⟨j1, j2, j3, j4, j5, j6⟩, jM, j16, j24, j9⟩ := id iK
    refine vg_aload_n C d_R_matches_25 rfl ?_
    refine vg_iload_n C d_R_matches_26 rfl ?_
    refine vg_iconst (v := 0) C d_R_matches_27 (by decide) ?_
    refine wr_callV (As := [_, _]) C (c_R_findSingleN Z hst ad τ (pN P) (pH P) (IM_G hW iK).1 (IM_G hW iK).2 0 (by rw [j1, j2, j3, j5]; exact k1) u (by omega)) l_R_matches_R_findSingle k_R_122 rfl rfl rfl rfl rfl (Nat.le_of_ble_eq_true rfl) d_R_matches_28 ⟨Nat.le_of_ble_eq_true rfl, Nat.le_of_ble_eq_true rfl⟩ (fun v_28 w_28 h_28 => ?_)
    obtain ⟨rfl, r, hr, rfl⟩ := h_28
    refine vg_aload_n C d_R_matches_31 rfl ?_
    refine wr_get C d_R_matches_32 f_R_64 rfl rfl rfl rfl ?_
    refine vg_iload_n C d_R_matches_35 rfl ?_
    refine wr_zald C d_R_matches_36 rfl rfl (by exact vp_in_nI (by omega) (by decide)) ?_
    rw [nI_clamp (by omega), sI_at, hr q hq, bP_congr (eN_r hW iK hu (k2 u (Nat.le_refl _) hu) hq)]
    refine vg_if_eq (tgt := 44) C d_R_matches_37 (by decide) (fun c_37 => ?_) (fun c_37 => ?_)
    · rw [bP_eq] at c_37; (try simp only [Classical.not_not] at c_37)
      refine vg_iconst (v := 0) C d_R_matches_44 (by decide) ?_
      exact vg_ireturn C hQ d_R_matches_45 rfl (by first | rfl | assumption) (PR_ret (P' := P) (σ0 := sI τ 134 r) (frM_sI (frM_tr f0 fK) (by decide)) iK zK ⟨rfl, Or.inr ⟨c_11, rfl, by rw [nI_clamp (by omega), nI_clamp (by omega)]; first | rw [bP_t c_37] | rw [bP_f c_37]⟩⟩)
    · rw [bP_eq] at c_37; (try simp only [Classical.not_not] at c_37)
      refine vg_iconst (v := 1) C d_R_matches_40 (by decide) ?_
      refine vg_goto (tgt := 45) C d_R_matches_41 (by decide) ?_
      exact vg_ireturn C hQ d_R_matches_45 rfl (by first | rfl | assumption) (PR_ret (P' := P) (σ0 := sI τ 134 r) (frM_sI (frM_tr f0 fK) (by decide)) iK zK ⟨rfl, Or.inr ⟨c_11, rfl, by rw [nI_clamp (by omega), nI_clamp (by omega)]; first | rw [bP_t c_37] | rw [bP_f c_37]⟩⟩)
  · rw [bP_eq] at c_11; (try simp only [Classical.not_not] at c_11)
    refine vg_aload_n C d_R_matches_14 rfl ?_
    refine vg_iconst (v := 1) C d_R_matches_15 (by decide) ?_
    refine wr_callV (As := [_]) C (c_R_raise Z hst ad σ0 1) l_R_matches_R_raise k_R_87 rfl rfl rfl rfl rfl (Nat.le_of_ble_eq_true rfl) d_R_matches_16 ⟨Nat.le_of_ble_eq_true rfl, Nat.le_of_ble_eq_true rfl⟩ (fun v_16 w_16 h_16 => ?_)
    obtain ⟨rfl, rfl⟩ := h_16
    exact vg_ireturn C hQ d_R_matches_19 rfl (by first | rfl | assumption) (PR_raise f0 i0 ⟨rfl, Or.inl ⟨c_11, rfl⟩⟩)
set_option maxHeartbeats 4000000 in
set_option maxRecDepth 100000 in
theorem c_R_content (Z : vg_Z) (hst : vg_St Z) (ad : Nat → Nat) (σ : sg) (p t : Int32) (P : Pm) (hW : PW P) (hI : IM σ P)  : vg_T Z M_R_content 0 0 [.ref (ad 117), .int p, .int t] (wd Z ad σ) (fun v w => PR Z ad σ (SpK P p t) v w) := by
  refine vg_enter hst (by decide) rfl (Nat.le_of_ble_eq_true rfl) ?_
  intro G C hQ
  show vg_K Z M_R_content G 0 0 0 [(0, .ref (ad 117)), (1, .int p), (2, .int t)] [] (wd Z ad σ)
  refine vg_aload_n C d_R_content_0 rfl ?_
  refine vg_iconst (v := 0) C d_R_content_1 (by decide) ?_
  refine wr_puti C d_R_content_2 f_R_70 p_R_0 rfl rfl rfl rfl rfl (Nat.le_of_ble_eq_true rfl) (wf_iR0 _ _ _) ?_
  obtain ⟨σ0, e0, i0, z0, f0⟩ := t0_ex hI
  rw [show sI σ 117 (upd (σ.1 117) 0 0) = σ0 from e0]
  obtain ⟨⟨g1, g2, g3, g4, g5, g6⟩, hM, g16, g24, h9⟩ := id i0
  have hn := hW.1.1
  have hnd := hM.1.1
  have hpn := hW.2.1
  refine vg_aload_n C d_R_content_5 rfl ?_
  refine vg_iload_n C d_R_content_6 rfl ?_
  refine vg_iload_n C d_R_content_7 rfl ?_
  refine wr_callV (As := [_, _]) C (c_R_known Z hst ad σ0 p t (pN P) (pd P) g6 hn hM.2.1 hnd) l_R_content_R_known k_R_140 rfl rfl rfl rfl rfl (Nat.le_of_ble_eq_true rfl) d_R_content_8 ⟨Nat.le_of_ble_eq_true rfl, Nat.le_of_ble_eq_true rfl⟩ (fun v_8 w_8 h_8 => ?_)
  obtain ⟨rfl, rfl⟩ := h_8
  refine vg_if_ne (tgt := 20) C d_R_content_11 (by decide) (fun c_11 => ?_) (fun c_11 => ?_)
  · rw [bP_eq] at c_11; (try simp only [Classical.not_not] at c_11)
    obtain ⟨q, hq, rfl⟩ := nJ_of (by omega) c_11.1.1 c_11.1.2
    obtain ⟨u, hu, rfl⟩ := nJ_of (by omega) c_11.2.1 c_11.2.2
    refine vg_aload_n C d_R_content_20 rfl ?_
    refine vg_iload_n C d_R_content_21 rfl ?_
    refine wr_callV (As := [_]) C (c_R_work Z hst ad σ0 P hW i0 z0 u (by omega)) l_R_content_R_work k_R_143 rfl rfl rfl rfl rfl (Nat.le_of_ble_eq_true rfl) d_R_content_22 ⟨Nat.le_of_ble_eq_true rfl, Nat.le_of_ble_eq_true rfl⟩ (fun v_22 w_22 h_22 => ?_)
    obtain ⟨rfl, τ, hK, fK, rfl⟩ := h_22
    obtain ⟨iK, zK, k1, k2, k3⟩ := id hK
    obtain ⟨⟨j1, j2, j3, j4, j5, j6⟩, jM, j16, j24, j9⟩ := id iK
    refine vg_aload_n C d_R_content_25 rfl ?_
    refine wr_get C d_R_content_26 f_R_58 rfl rfl rfl rfl ?_
    refine vg_bipush (v := 40) C d_R_content_29 (by decide) ?_
    refine vg_iload_n C d_R_content_31 rfl ?_
    refine vg_imul C d_R_content_32 ?_
    rw [show (40 : Int32) = nI 40 from rfl, pk_mul]
    refine vg_iload_n C d_R_content_33 rfl ?_
    refine vg_iadd C d_R_content_34 ?_
    rw [nI_add]
    refine wr_zald C d_R_content_35 rfl rfl (by exact vp_in_nI (by omega) (by decide)) ?_
    rw [nI_clamp (by omega), k2 u (Nat.le_refl _) hu q hq]
    refine vg_if_eq (tgt := 43) C d_R_content_36 (by decide) (fun c_36 => ?_) (fun c_36 => ?_)
    · rw [bP_eq] at c_36; (try simp only [Classical.not_not] at c_36)
      refine vg_iconst (v := 0) C d_R_content_43 (by decide) ?_
      exact vg_ireturn C hQ d_R_content_44 rfl (by first | rfl | assumption) (PR_ret (P' := P) (frM_tr f0 fK) iK zK ⟨rfl, Or.inr ⟨c_11, rfl, by rw [nI_clamp (by omega), nI_clamp (by omega)]; first | rw [bP_t c_36] | rw [bP_f c_36]⟩⟩)
    · rw [bP_eq] at c_36; (try simp only [Classical.not_not] at c_36)
      refine vg_iconst (v := 1) C d_R_content_39 (by decide) ?_
      refine vg_goto (tgt := 44) C d_R_content_40 (by decide) ?_
      exact vg_ireturn C hQ d_R_content_44 rfl (by first | rfl | assumption) (PR_ret (P' := P) (frM_tr f0 fK) iK zK ⟨rfl, Or.inr ⟨c_11, rfl, by rw [nI_clamp (by omega), nI_clamp (by omega)]; first | rw [bP_t c_36] | rw [bP_f c_36]⟩⟩)
  · rw [bP_eq] at c_11; (try simp only [Classical.not_not] at c_11)
    refine vg_aload_n C d_R_content_14 rfl ?_
    refine vg_iconst (v := 1) C d_R_content_15 (by decide) ?_
    refine wr_callV (As := [_]) C (c_R_raise Z hst ad σ0 1) l_R_content_R_raise k_R_87 rfl rfl rfl rfl rfl (Nat.le_of_ble_eq_true rfl) d_R_content_16 ⟨Nat.le_of_ble_eq_true rfl, Nat.le_of_ble_eq_true rfl⟩ (fun v_16 w_16 h_16 => ?_)
    obtain ⟨rfl, rfl⟩ := h_16
    exact vg_ireturn C hQ d_R_content_19 rfl (by first | rfl | assumption) (PR_raise f0 i0 ⟨rfl, Or.inl ⟨c_11, rfl⟩⟩)
set_option maxHeartbeats 4000000 in
set_option maxRecDepth 100000 in
theorem lp_R_longest {Z : vg_Z} (hst : vg_St Z) {G : vg_G} {post : Option Value → va_W → Prop} (C : vg_C Z M_R_longest G) (hQ : vg_Rt Z G 0 0 post) (ad : Nat → Nat) (P : Pm) (hW : PW P) (u q : Nat) (hu : u < pd P) (hq : q < pN P) (σ τ : sg) (hK : WK τ P u u) (fK : frM σ τ) (hkn : kn P (nI q) (nI u)) (hp : ∀ v w, PR Z ad σ (SpL P (nI q) (nI u)) v w → post v w) : ∀ (n2 l : Nat) (hlt : l < n2) (hl : l ≤ (pD P).2.2.1 u + 1), (∀ j, l ≤ j → j ≤ (pD P).2.2.1 u → ¬ lQ P q u j) → vg_K Z M_R_longest G 0 0 39 [(4, .int (nI l - 1)), (3, .int (nI (mk (pD P) u 6))), (0, .ref (ad 117)), (1, .int (nI q)), (2, .int (nI u))] [] (wd Z ad τ) := by
  have hn := hW.1.1
  have hnd := hK.1.2.1.1.1
  have h66 := (hK.1.2.1.1.2 u hu).1
  have hS := mk_64 (pD P) u 6 (by omega)
  have hp2 : ∀ j, j ≤ (pD P).2.2.1 u → 2 ^ j - 1 < 2 ^ (pD P).2.2.1 u := fun j hj => by
    have := Nat.pow_le_pow_right (n := 2) (by decide) hj
    have := Nat.two_pow_pos j
    omega
  have hp64 : 2 ^ (pD P).2.2.1 u ≤ 64 := Nat.pow_le_pow_right (n := 2) (by decide) h66
  have key : ∀ j, j ≤ (pD P).2.2.1 u → (lb (τ.2 131 (64 * q + mk (pD P) u 6)) (2 ^ j - 1) = true ↔ lQ P q u j) := fun j hj => hK.2.2.2.2 rfl hu q _ _ ⟨hq, hS, Nat.and_self _, hp2 j hj⟩
  have eq : (nI q).toNatClampNeg = q := nI_clamp (by omega)
  have eu : (nI u).toNatClampNeg = u := nI_clamp (by omega)
  intro n2
  induction n2 with
  | zero =>
    intro l hlt hl
    exact absurd hlt (by omega)
  | succ n2 ih =>
    intro l hlt hl hno
    refine vg_iload C d_R_longest_39 rfl ?_
    refine vg_if_lt (tgt := 68) C d_R_longest_41 (by decide) (fun c_41 => ?_) (fun c_41 => ?_)
    · rw [nI_d0 l (by omega)] at c_41
      refine vg_aload_n C d_R_longest_68 rfl ?_
      refine vg_iconst (v := 2) C d_R_longest_69 (by decide) ?_
      refine wr_callV (As := [_]) C (c_R_raise Z hst ad τ 2) l_R_longest_R_raise k_R_87 rfl rfl rfl rfl rfl (Nat.le_of_ble_eq_true rfl) d_R_longest_70 ⟨Nat.le_of_ble_eq_true rfl, Nat.le_of_ble_eq_true rfl⟩ (fun v_70 w_70 h_70 => ?_)
      obtain ⟨rfl, rfl⟩ := h_70
      exact vg_ireturn C hQ d_R_longest_73 rfl (by first | rfl | assumption) (hp _ _ (PR_raise fK hK.1 ⟨rfl, Or.inr (Or.inl ⟨hkn, rfl, by rw [eq, eu]; exact Or.inr ⟨rfl, fun j hj => hno j (by omega) hj⟩⟩)⟩))
    · rw [nI_d0 l (by omega)] at c_41
      obtain ⟨z, rfl⟩ : ∃ z, l = z + 1 := ⟨l - 1, by omega⟩
      rw [nI_us]
      refine vg_aload_n C d_R_longest_44 rfl ?_
      refine vg_iload_n C d_R_longest_45 rfl ?_
      refine vg_iload_n C d_R_longest_46 rfl ?_
      refine vg_iconst (v := 1) C d_R_longest_47 (by decide) ?_
      refine vg_iload C d_R_longest_48 rfl ?_
      refine vg_ishl C d_R_longest_50 ?_
      rw [sh_one z (by omega)]
      refine vg_iconst (v := 1) C d_R_longest_51 (by decide) ?_
      refine vg_isub C d_R_longest_52 ?_
      rw [nI_p (Nat.two_pow_pos _)]
      refine wr_callV (As := [_, _, _]) C (c_R_matched Z hst ad τ q (mk (pD P) u 6) (2 ^ z - 1) (by omega) hS (by have := hp2 z (by omega); omega)) l_R_longest_R_matched k_R_112 rfl rfl rfl rfl rfl (Nat.le_of_ble_eq_true rfl) d_R_longest_53 ⟨Nat.le_of_ble_eq_true rfl, Nat.le_of_ble_eq_true rfl⟩ (fun v_53 w_53 h_53 => ?_)
      obtain ⟨rfl, rfl⟩ := h_53
      rw [bP_congr (key z (by omega))]
      refine vg_if_eq (tgt := 62) C d_R_longest_56 (by decide) (fun c_56 => ?_) (fun c_56 => ?_)
      · rw [bP_eq] at c_56; (try simp only [Classical.not_not] at c_56)
        refine vg_iinc (v := nI z - 1) C d_R_longest_62 rfl (nI_m1 z (by omega)) (Nat.le_of_ble_eq_true rfl) rfl ?_
        refine vg_goto (tgt := 39) C d_R_longest_65 (by decide) ?_
        exact ih z (by omega) (by omega) (fun j h1 h2 => by
            by_cases e : j = z
            · rw [e]
              exact c_56
            · exact hno j (by omega) h2)
      · rw [bP_eq] at c_56; (try simp only [Classical.not_not] at c_56)
        refine vg_iload C d_R_longest_59 rfl ?_
        exact vg_ireturn C hQ d_R_longest_61 rfl (by first | rfl | assumption) (hp _ _ (PR_ret (P' := P) fK hK.1 hK.2.1 ⟨rfl, Or.inr (Or.inr ⟨hkn, rfl, nI_nm1 (by omega), by rw [eq, eu]; exact Or.inl ⟨z, by omega, rfl, c_56, fun j h1 h2 => hno j (by omega) h2⟩⟩)⟩))
set_option maxHeartbeats 4000000 in
set_option maxRecDepth 100000 in
theorem c_R_longest (Z : vg_Z) (hst : vg_St Z) (ad : Nat → Nat) (σ : sg) (p t : Int32) (P : Pm) (hW : PW P) (hI : IM σ P)  : vg_T Z M_R_longest 0 0 [.ref (ad 117), .int p, .int t] (wd Z ad σ) (fun v w => PR Z ad σ (SpL P p t) v w) := by
  refine vg_enter hst (by decide) rfl (Nat.le_of_ble_eq_true rfl) ?_
  intro G C hQ
  show vg_K Z M_R_longest G 0 0 0 [(0, .ref (ad 117)), (1, .int p), (2, .int t)] [] (wd Z ad σ)
  refine vg_aload_n C d_R_longest_0 rfl ?_
  refine vg_iconst (v := 0) C d_R_longest_1 (by decide) ?_
  refine wr_puti C d_R_longest_2 f_R_70 p_R_0 rfl rfl rfl rfl rfl (Nat.le_of_ble_eq_true rfl) (wf_iR0 _ _ _) ?_
  obtain ⟨σ0, e0, i0, z0, f0⟩ := t0_ex hI
  rw [show sI σ 117 (upd (σ.1 117) 0 0) = σ0 from e0]
  obtain ⟨⟨g1, g2, g3, g4, g5, g6⟩, hM, g16, g24, h9⟩ := id i0
  have hn := hW.1.1
  have hnd := hM.1.1
  have hpn := hW.2.1
  refine vg_aload_n C d_R_longest_5 rfl ?_
  refine vg_iload_n C d_R_longest_6 rfl ?_
  refine vg_iload_n C d_R_longest_7 rfl ?_
  refine wr_callV (As := [_, _]) C (c_R_known Z hst ad σ0 p t (pN P) (pd P) g6 hn hM.2.1 hnd) l_R_longest_R_known k_R_140 rfl rfl rfl rfl rfl (Nat.le_of_ble_eq_true rfl) d_R_longest_8 ⟨Nat.le_of_ble_eq_true rfl, Nat.le_of_ble_eq_true rfl⟩ (fun v_8 w_8 h_8 => ?_)
  obtain ⟨rfl, rfl⟩ := h_8
  refine vg_if_ne (tgt := 20) C d_R_longest_11 (by decide) (fun c_11 => ?_) (fun c_11 => ?_)
  · rw [bP_eq] at c_11; (try simp only [Classical.not_not] at c_11)
    obtain ⟨q, hq, rfl⟩ := nJ_of (by omega) c_11.1.1 c_11.1.2
    obtain ⟨u, hu, rfl⟩ := nJ_of (by omega) c_11.2.1 c_11.2.2
    refine vg_aload_n C d_R_longest_20 rfl ?_
    refine vg_iload_n C d_R_longest_21 rfl ?_
    refine wr_callV (As := [_]) C (c_R_work Z hst ad σ0 P hW i0 z0 u (by omega)) l_R_longest_R_work k_R_143 rfl rfl rfl rfl rfl (Nat.le_of_ble_eq_true rfl) d_R_longest_22 ⟨Nat.le_of_ble_eq_true rfl, Nat.le_of_ble_eq_true rfl⟩ (fun v_22 w_22 h_22 => ?_)
    obtain ⟨rfl, τ, hK, fK, rfl⟩ := h_22
    obtain ⟨iK, zK, k1, k2, k3⟩ := id hK
    obtain ⟨⟨j1, j2, j3, j4, j5, j6⟩, jM, j16, j24, j9⟩ := id iK
    refine vg_aload_n C d_R_longest_25 rfl ?_
    refine vg_iload_n C d_R_longest_26 rfl ?_
    refine wr_callV (As := [_]) C (c_R_attributes Z hst ad τ (pD P) (pd P) jM u hu) l_R_longest_R_attributes k_R_119 rfl rfl rfl rfl rfl (Nat.le_of_ble_eq_true rfl) d_R_longest_27 ⟨Nat.le_of_ble_eq_true rfl, Nat.le_of_ble_eq_true rfl⟩ (fun v_27 w_27 h_27 => ?_)
    obtain ⟨rfl, rfl⟩ := h_27
    refine vg_istore_n C d_R_longest_30 (Nat.le_of_ble_eq_true rfl) rfl ?_
    refine vg_aload_n C d_R_longest_31 rfl ?_
    refine wr_get C d_R_longest_32 f_R_47 rfl rfl rfl rfl ?_
    refine vg_iload_n C d_R_longest_35 rfl ?_
    refine wr_iald C d_R_longest_36 rfl rfl (by exact vp_in_nI (by omega) (by decide)) ?_
    rw [nI_clamp (by omega), (jM.2.2 u hu).2.2.1, show nI ((pD P).2.2.1 u) = nI ((pD P).2.2.1 u + 1) - 1 from nI_us.symm]
    refine vg_istore C d_R_longest_37 (Nat.le_of_ble_eq_true rfl) rfl ?_
    exact lp_R_longest hst C hQ ad P hW u q hu hq σ τ hK (frM_tr f0 fK) c_11 (fun v w h => h) ((pD P).2.2.1 u + 2) ((pD P).2.2.1 u + 1) (by omega) (by omega) (fun j h1 h2 => absurd h2 (by omega))
  · rw [bP_eq] at c_11; (try simp only [Classical.not_not] at c_11)
    refine vg_aload_n C d_R_longest_14 rfl ?_
    refine vg_iconst (v := 1) C d_R_longest_15 (by decide) ?_
    refine wr_callV (As := [_]) C (c_R_raise Z hst ad σ0 1) l_R_longest_R_raise k_R_87 rfl rfl rfl rfl rfl (Nat.le_of_ble_eq_true rfl) d_R_longest_16 ⟨Nat.le_of_ble_eq_true rfl, Nat.le_of_ble_eq_true rfl⟩ (fun v_16 w_16 h_16 => ?_)
    obtain ⟨rfl, rfl⟩ := h_16
    exact vg_ireturn C hQ d_R_longest_19 rfl (by first | rfl | assumption) (PR_raise f0 i0 ⟨rfl, Or.inl ⟨c_11, rfl⟩⟩)
set_option maxHeartbeats 4000000 in
set_option maxRecDepth 100000 in
theorem lp_R_find {Z : vg_Z} (hst : vg_St Z) {G : vg_G} {post : Option Value → va_W → Prop} (C : vg_C Z M_R_find G) (hQ : vg_Rt Z G 0 0 post) (ad : Nat → Nat) (P : Pm) (hW : PW P) (q : Nat) (hq : q < pN P) (σ : sg) (hkn : hs P (nI q)) (hp : ∀ v w, PR Z ad σ (SpF P (nI q)) v w → post v w) : ∀ (n2 i : Nat) (τ : sg) (hlt : pd P < i + n2) (hi : i ≤ pd P), WK τ P 0 0 → frM σ τ → (∀ j, j < i → ¬ pS1 P j q) → vg_K Z M_R_find G 0 0 26 [(2, .int (nI i)), (0, .ref (ad 117)), (1, .int (nI q))] [] (wd Z ad τ) := by
  have hn := hW.1.1
  have eq : (nI q).toNatClampNeg = q := nI_clamp (by omega)
  intro n2
  induction n2 with
  | zero =>
    intro i τ hlt hi
    exact absurd hlt (by omega)
  | succ n2 ih =>
    intro i τ hlt hi hK fK hno
    have hnd := hK.1.2.1.1.1
    obtain ⟨iK, zK, k1, k2, k3⟩ := id hK
    obtain ⟨⟨j1, j2, j3, j4, j5, j6⟩, jM, j16, j24, j9⟩ := id iK
    refine vg_iload_n C d_R_find_26 rfl ?_
    refine vg_aload_n C d_R_find_27 rfl ?_
    refine wr_get C d_R_find_28 f_R_95 rfl rfl rfl rfl ?_
    rw [jM.2.1]
    refine vg_icmp_ge (tgt := 57) C d_R_find_31 (by decide) (fun c_31 => ?_) (fun c_31 => ?_)
    · rw [nI_leI (by omega) (by omega)] at c_31
      refine vg_aload_n C d_R_find_57 rfl ?_
      refine vg_iconst (v := 2) C d_R_find_58 (by decide) ?_
      refine wr_callV (As := [_]) C (c_R_raise Z hst ad τ 2) l_R_find_R_raise k_R_87 rfl rfl rfl rfl rfl (Nat.le_of_ble_eq_true rfl) d_R_find_59 ⟨Nat.le_of_ble_eq_true rfl, Nat.le_of_ble_eq_true rfl⟩ (fun v_59 w_59 h_59 => ?_)
      obtain ⟨rfl, rfl⟩ := h_59
      exact vg_ireturn C hQ d_R_find_62 rfl (by first | rfl | assumption) (hp _ _ (PR_raise fK iK ⟨rfl, Or.inr (Or.inl ⟨hkn, rfl, by rw [eq]; exact Or.inr ⟨rfl, fun j hj => hno j (by omega)⟩⟩)⟩))
    · rw [nI_leI (by omega) (by omega)] at c_31
      refine vg_aload_n C d_R_find_34 rfl ?_
      refine vg_iload_n C d_R_find_35 rfl ?_
      refine vg_iconst (v := 0) C d_R_find_36 (by decide) ?_
      refine wr_callV (As := [_, _]) C (c_R_findSingleN Z hst ad τ (pN P) (pH P) (IM_G hW iK).1 (IM_G hW iK).2 0 (by rw [j1, j2, j3, j5]; exact k1) i (by omega)) l_R_find_R_findSingle k_R_122 rfl rfl rfl rfl rfl (Nat.le_of_ble_eq_true rfl) d_R_find_37 ⟨Nat.le_of_ble_eq_true rfl, Nat.le_of_ble_eq_true rfl⟩ (fun v_37 w_37 h_37 => ?_)
      obtain ⟨rfl, r, hr, rfl⟩ := h_37
      refine vg_aload_n C d_R_find_40 rfl ?_
      refine wr_get C d_R_find_41 f_R_64 rfl rfl rfl rfl ?_
      refine vg_iload_n C d_R_find_44 rfl ?_
      refine wr_zald C d_R_find_45 rfl rfl (by exact vp_in_nI (by omega) (by decide)) ?_
      rw [nI_clamp (by omega), sI_at, hr q hq, bP_congr (eN_r hW iK (by omega) (k2 i (Nat.zero_le _) (by omega)) hq)]
      refine vg_if_eq (tgt := 51) C d_R_find_46 (by decide) (fun c_46 => ?_) (fun c_46 => ?_)
      · rw [bP_eq] at c_46; (try simp only [Classical.not_not] at c_46)
        refine vg_iinc (v := nI (i + 1)) C d_R_find_51 rfl (nI_1 i) (Nat.le_of_ble_eq_true rfl) rfl ?_
        refine vg_goto (tgt := 26) C d_R_find_54 (by decide) ?_
        exact ih (i + 1) (sI τ 134 r) (by omega) (by omega) hK (frM_sI fK (by decide)) (lt_s hno c_46)
      · rw [bP_eq] at c_46; (try simp only [Classical.not_not] at c_46)
        refine vg_iload_n C d_R_find_49 rfl ?_
        exact vg_ireturn C hQ d_R_find_50 rfl (by first | rfl | assumption) (hp _ _ (PR_ret (P' := P) (σ0 := sI τ 134 r) (frM_sI fK (by decide)) iK zK ⟨rfl, Or.inr (Or.inr ⟨hkn, rfl, nI_nm1 (by omega), by rw [eq]; exact Or.inl ⟨i, by omega, rfl, c_46, hno⟩⟩)⟩))
set_option maxHeartbeats 4000000 in
set_option maxRecDepth 100000 in
theorem c_R_find (Z : vg_Z) (hst : vg_St Z) (ad : Nat → Nat) (σ : sg) (p : Int32) (P : Pm) (hW : PW P) (hI : IM σ P)  : vg_T Z M_R_find 0 0 [.ref (ad 117), .int p] (wd Z ad σ) (fun v w => PR Z ad σ (SpF P p) v w) := by
  refine vg_enter hst (by decide) rfl (Nat.le_of_ble_eq_true rfl) ?_
  intro G C hQ
  show vg_K Z M_R_find G 0 0 0 [(0, .ref (ad 117)), (1, .int p)] [] (wd Z ad σ)
  refine vg_aload_n C d_R_find_0 rfl ?_
  refine vg_iconst (v := 0) C d_R_find_1 (by decide) ?_
  refine wr_puti C d_R_find_2 f_R_70 p_R_0 rfl rfl rfl rfl rfl (Nat.le_of_ble_eq_true rfl) (wf_iR0 _ _ _) ?_
  obtain ⟨σ0, e0, i0, z0, f0⟩ := t0_ex hI
  rw [show sI σ 117 (upd (σ.1 117) 0 0) = σ0 from e0]
  obtain ⟨⟨g1, g2, g3, g4, g5, g6⟩, hM, g16, g24, h9⟩ := id i0
  have hn := hW.1.1
  have hnd := hM.1.1
  have hpn := hW.2.1
  refine vg_aload_n C d_R_find_5 rfl ?_
  refine vg_iload_n C d_R_find_6 rfl ?_
  refine wr_callV (As := [_]) C (c_R_made Z hst ad σ0 p (pN P) g6 hn) l_R_find_R_made k_R_80 rfl rfl rfl rfl rfl (Nat.le_of_ble_eq_true rfl) d_R_find_7 ⟨Nat.le_of_ble_eq_true rfl, Nat.le_of_ble_eq_true rfl⟩ (fun v_7 w_7 h_7 => ?_)
  obtain ⟨rfl, rfl⟩ := h_7
  refine vg_if_ne (tgt := 19) C d_R_find_10 (by decide) (fun c_10 => ?_) (fun c_10 => ?_)
  · rw [bP_eq] at c_10; (try simp only [Classical.not_not] at c_10)
    obtain ⟨q, hq, rfl⟩ := nJ_of (by omega) c_10.1 c_10.2
    refine vg_aload_n C d_R_find_19 rfl ?_
    refine vg_iconst (v := 0) C d_R_find_20 (by decide) ?_
    refine wr_callV (As := [_]) C (c_R_work Z hst ad σ0 P hW i0 z0 0 (Nat.zero_le _)) l_R_find_R_work k_R_143 rfl rfl rfl rfl rfl (Nat.le_of_ble_eq_true rfl) d_R_find_21 ⟨Nat.le_of_ble_eq_true rfl, Nat.le_of_ble_eq_true rfl⟩ (fun v_21 w_21 h_21 => ?_)
    obtain ⟨rfl, τ, hK, fK, rfl⟩ := h_21
    refine vg_iconst (v := 0) C d_R_find_24 (by decide) ?_
    refine vg_istore_n C d_R_find_25 (Nat.le_of_ble_eq_true rfl) rfl ?_
    exact lp_R_find hst C hQ ad P hW q hq σ c_10 (fun v w h => h) (pd P + 1) 0 τ (by omega) (Nat.zero_le _) hK (frM_tr f0 fK) (fun j hj => absurd hj (Nat.not_lt_zero _))
  · rw [bP_eq] at c_10; (try simp only [Classical.not_not] at c_10)
    refine vg_aload_n C d_R_find_13 rfl ?_
    refine vg_iconst (v := 1) C d_R_find_14 (by decide) ?_
    refine wr_callV (As := [_]) C (c_R_raise Z hst ad σ0 1) l_R_find_R_raise k_R_87 rfl rfl rfl rfl rfl (Nat.le_of_ble_eq_true rfl) d_R_find_15 ⟨Nat.le_of_ble_eq_true rfl, Nat.le_of_ble_eq_true rfl⟩ (fun v_15 w_15 h_15 => ?_)
    obtain ⟨rfl, rfl⟩ := h_15
    exact vg_ireturn C hQ d_R_find_18 rfl (by first | rfl | assumption) (PR_raise f0 i0 ⟨rfl, Or.inl ⟨c_10, rfl⟩⟩)
set_option maxHeartbeats 4000000 in
set_option maxRecDepth 100000 in
theorem c_R_nullable (Z : vg_Z) (hst : vg_St Z) (ad : Nat → Nat) (σ : sg) (p : Int32) (P : Pm) (hW : PW P) (hI : IM σ P)  : vg_T Z M_R_nullable 0 0 [.ref (ad 117), .int p] (wd Z ad σ) (fun v w => PR Z ad σ (SpN P p) v w) := by
  refine vg_enter hst (by decide) rfl (Nat.le_of_ble_eq_true rfl) ?_
  intro G C hQ
  show vg_K Z M_R_nullable G 0 0 0 [(0, .ref (ad 117)), (1, .int p)] [] (wd Z ad σ)
  refine vg_aload_n C d_R_nullable_0 rfl ?_
  refine vg_iconst (v := 0) C d_R_nullable_1 (by decide) ?_
  refine wr_puti C d_R_nullable_2 f_R_70 p_R_0 rfl rfl rfl rfl rfl (Nat.le_of_ble_eq_true rfl) (wf_iR0 _ _ _) ?_
  obtain ⟨σ0, e0, i0, z0, f0⟩ := t0_ex hI
  rw [show sI σ 117 (upd (σ.1 117) 0 0) = σ0 from e0]
  obtain ⟨⟨g1, g2, g3, g4, g5, g6⟩, hM, g16, g24, h9⟩ := id i0
  have hn := hW.1.1
  have hnd := hM.1.1
  have hpn := hW.2.1
  refine vg_aload_n C d_R_nullable_5 rfl ?_
  refine vg_iload_n C d_R_nullable_6 rfl ?_
  refine wr_callV (As := [_]) C (c_R_made Z hst ad σ0 p (pN P) g6 hn) l_R_nullable_R_made k_R_80 rfl rfl rfl rfl rfl (Nat.le_of_ble_eq_true rfl) d_R_nullable_7 ⟨Nat.le_of_ble_eq_true rfl, Nat.le_of_ble_eq_true rfl⟩ (fun v_7 w_7 h_7 => ?_)
  obtain ⟨rfl, rfl⟩ := h_7
  refine vg_if_ne (tgt := 19) C d_R_nullable_10 (by decide) (fun c_10 => ?_) (fun c_10 => ?_)
  · rw [bP_eq] at c_10; (try simp only [Classical.not_not] at c_10)
    obtain ⟨q, hq, rfl⟩ := nJ_of (by omega) c_10.1 c_10.2
    refine vg_aload_n C d_R_nullable_19 rfl ?_
    refine wr_callV (As := []) C (c_R_findNone Z hst ad σ0 (pN P) (pH P) (IM_G hW i0).1 (IM_G hW i0).2) l_R_nullable_R_findNone k_R_133 rfl rfl rfl rfl rfl (Nat.le_of_ble_eq_true rfl) d_R_nullable_20 ⟨Nat.le_of_ble_eq_true rfl, Nat.le_of_ble_eq_true rfl⟩ (fun v_20 w_20 h_20 => ?_)
    obtain ⟨rfl, r, hr, rfl⟩ := h_20
    rw [g1, g2, g3, g5] at hr
    refine vg_aload_n C d_R_nullable_23 rfl ?_
    refine wr_get C d_R_nullable_24 f_R_61 rfl rfl rfl rfl ?_
    refine vg_iload_n C d_R_nullable_27 rfl ?_
    refine wr_zald C d_R_nullable_28 rfl rfl (by exact vp_in_nI (by omega) (by decide)) ?_
    rw [nI_clamp (by omega), sI_at, hr q hq]
    refine vg_if_eq (tgt := 36) C d_R_nullable_29 (by decide) (fun c_29 => ?_) (fun c_29 => ?_)
    · rw [bP_eq] at c_29; (try simp only [Classical.not_not] at c_29)
      refine vg_iconst (v := 0) C d_R_nullable_36 (by decide) ?_
      exact vg_ireturn C hQ d_R_nullable_37 rfl (by first | rfl | assumption) (PR_ret (P' := P) (σ0 := sI σ0 133 r) (frM_sI f0 (by decide)) i0 z0 ⟨rfl, Or.inr ⟨c_10, rfl, by rw [nI_clamp (by omega)]; first | rw [bP_t c_29] | rw [bP_f c_29]⟩⟩)
    · rw [bP_eq] at c_29; (try simp only [Classical.not_not] at c_29)
      refine vg_iconst (v := 1) C d_R_nullable_32 (by decide) ?_
      refine vg_goto (tgt := 37) C d_R_nullable_33 (by decide) ?_
      exact vg_ireturn C hQ d_R_nullable_37 rfl (by first | rfl | assumption) (PR_ret (P' := P) (σ0 := sI σ0 133 r) (frM_sI f0 (by decide)) i0 z0 ⟨rfl, Or.inr ⟨c_10, rfl, by rw [nI_clamp (by omega)]; first | rw [bP_t c_29] | rw [bP_f c_29]⟩⟩)
  · rw [bP_eq] at c_10; (try simp only [Classical.not_not] at c_10)
    refine vg_aload_n C d_R_nullable_13 rfl ?_
    refine vg_iconst (v := 1) C d_R_nullable_14 (by decide) ?_
    refine wr_callV (As := [_]) C (c_R_raise Z hst ad σ0 1) l_R_nullable_R_raise k_R_87 rfl rfl rfl rfl rfl (Nat.le_of_ble_eq_true rfl) d_R_nullable_15 ⟨Nat.le_of_ble_eq_true rfl, Nat.le_of_ble_eq_true rfl⟩ (fun v_15 w_15 h_15 => ?_)
    obtain ⟨rfl, rfl⟩ := h_15
    exact vg_ireturn C hQ d_R_nullable_18 rfl (by first | rfl | assumption) (PR_raise f0 i0 ⟨rfl, Or.inl ⟨c_10, rfl⟩⟩)
set_option maxHeartbeats 4000000 in
set_option maxRecDepth 100000 in
theorem lp_R_count_1 {Z : vg_Z} (hst : vg_St Z) {G : vg_G} {post : Option Value → va_W → Prop} (C : vg_C Z M_R_count G) (hQ : vg_Rt Z G 0 0 post) (ad : Nat → Nat) (P : Pm) (hW : PW P) (τ : sg) (g5 : τ.1 122 = pG P) (x : Int32) (hp : post (some (.int (nI (gcu (pG P) 4)))) (wd Z ad τ)) : ∀ (n2 i : Nat) (hlt : 4 < i + n2) (hi : i ≤ 4), vg_K Z M_R_count G 0 0 55 [(3, .int (nI i)), (2, .int (nI (gcu (pG P) i))), (0, .ref (ad 117)), (1, .int x)] [] (wd Z ad τ) := by
  intro n2
  induction n2 with
  | zero =>
    intro i hlt hi
    exact absurd hlt (by omega)
  | succ n2 ih =>
    intro i hlt hi
    refine vg_iload_n C d_R_count_55 rfl ?_
    refine vg_iconst (v := 4) C d_R_count_56 (by decide) ?_
    refine vg_icmp_ge (tgt := 78) C d_R_count_57 (by decide) (fun c_57 => ?_) (fun c_57 => ?_)
    · rw [show (4 : Int32) = nI 4 from rfl, nI_leI (by omega) (by omega)] at c_57
      refine vg_iload_n C d_R_count_78 rfl ?_
      exact vg_ireturn C hQ d_R_count_79 rfl (by first | rfl | assumption) (by rw [show 4 = i by omega] at hp; exact hp)
    · rw [show (4 : Int32) = nI 4 from rfl, nI_leI (by omega) (by omega)] at c_57
      refine vg_aload_n C d_R_count_60 rfl ?_
      refine wr_get C d_R_count_61 f_R_22 rfl rfl rfl rfl ?_
      refine vg_iload_n C d_R_count_64 rfl ?_
      refine wr_iald C d_R_count_65 rfl rfl (by exact vp_in_nI (by omega) (by decide)) ?_
      rw [nI_clamp (by omega), g5]
      refine vg_if_lt (tgt := 72) C d_R_count_66 (by decide) (fun c_66 => ?_) (fun c_66 => ?_)
      · rw [g_lt hW (by omega)] at c_66
        refine vg_iinc (v := nI (i + 1)) C d_R_count_72 rfl (nI_1 i) (Nat.le_of_ble_eq_true rfl) rfl ?_
        refine vg_goto (tgt := 55) C d_R_count_75 (by decide) ?_
        first
          | exact ih (i + 1) (by omega) (by omega)
          | (rw [← gcu_n c_66]
             exact ih (i + 1) (by omega) (by omega))
      · rw [g_lt hW (by omega)] at c_66
        refine vg_iinc (v := nI (gcu (pG P) (i + 1))) C d_R_count_69 rfl (by rw [show gcu (pG P) (i + 1) = gcu (pG P) i + 1 from congrArg (gcu (pG P) i + ·) (if_neg c_66)]; exact nI_1 _) (Nat.le_of_ble_eq_true rfl) rfl ?_
        refine vg_iinc (v := nI (i + 1)) C d_R_count_72 rfl (nI_1 i) (Nat.le_of_ble_eq_true rfl) rfl ?_
        refine vg_goto (tgt := 55) C d_R_count_75 (by decide) ?_
        first
          | exact ih (i + 1) (by omega) (by omega)
          | (rw [← gcu_n c_66]
             exact ih (i + 1) (by omega) (by omega))
set_option maxHeartbeats 4000000 in
set_option maxRecDepth 100000 in
theorem lp_R_count_3 {Z : vg_Z} (hst : vg_St Z) {G : vg_G} {post : Option Value → va_W → Prop} (C : vg_C Z M_R_count G) (hQ : vg_Rt Z G 0 0 post) (ad : Nat → Nat) (P : Pm) (hW : PW P) (τ : sg) (hI : IM τ P) (x : Int32) (hp : post (some (.int (nI (pn P)))) (wd Z ad τ)) : ∀ (j : Nat) (hj : j ≤ pn P), vg_K Z M_R_count G 0 0 90 [(3, .int (opn j (pt P))), (2, .int (nI (pn P - j))), (0, .ref (ad 117)), (1, .int x)] [] (wd Z ad τ) := by
  have hnd := hI.2.1.1.1
  have hpn := hW.2.1
  intro j
  induction j with
  | zero =>
    intro hj
    rw [opn_0 rfl]
    refine vg_iload_n C d_R_count_90 rfl ?_
    refine vg_if_lt (tgt := 107) C d_R_count_91 (by decide) (fun _ => ?_) (fun c_91 => absurd m1_lt0 c_91)
    refine vg_iload_n C d_R_count_107 rfl ?_
    exact vg_ireturn C hQ d_R_count_108 rfl (by first | rfl | assumption) (hp)
  | succ j ih =>
    intro hj
    have hl := hW.2.2 j (by omega)
    rw [opn_s (by omega), show j + 1 - 1 = j by omega]
    refine vg_iload_n C d_R_count_90 rfl ?_
    refine vg_if_lt (tgt := 107) C d_R_count_91 (by decide) (fun c_91 => absurd c_91 (i32_lt0 (by omega))) (fun _ => ?_)
    refine vg_iinc (v := nI (pn P - j)) C d_R_count_94 rfl (by rw [show pn P - j = pn P - (j + 1) + 1 by omega]; exact nI_1 _) (Nat.le_of_ble_eq_true rfl) rfl ?_
    refine vg_aload_n C d_R_count_97 rfl ?_
    refine wr_get C d_R_count_98 f_R_28 rfl rfl rfl rfl ?_
    refine vg_iload_n C d_R_count_101 rfl ?_
    refine wr_iald C d_R_count_102 rfl rfl (by exact vp_in_nI (by omega) (by decide)) ?_
    rw [nI_clamp (by omega), (hI.2.2.2.1 j (by omega)).1]
    refine vg_istore_n C d_R_count_103 (Nat.le_of_ble_eq_true rfl) rfl ?_
    refine vg_goto (tgt := 90) C d_R_count_104 (by decide) ?_
    exact ih (by omega)
set_option maxHeartbeats 4000000 in
set_option maxRecDepth 100000 in
theorem c_R_count (Z : vg_Z) (hst : vg_St Z) (ad : Nat → Nat) (σ : sg) (x : Int32) (P : Pm) (hW : PW P) (hI : IM σ P)  : vg_T Z M_R_count 0 0 [.ref (ad 117), .int x] (wd Z ad σ) (fun v w => PR Z ad σ (SpU P x) v w) := by
  refine vg_enter hst (by decide) rfl (Nat.le_of_ble_eq_true rfl) ?_
  intro G C hQ
  show vg_K Z M_R_count G 0 0 0 [(0, .ref (ad 117)), (1, .int x)] [] (wd Z ad σ)
  refine vg_aload_n C d_R_count_0 rfl ?_
  refine vg_iconst (v := 0) C d_R_count_1 (by decide) ?_
  refine wr_puti C d_R_count_2 f_R_70 p_R_0 rfl rfl rfl rfl rfl (Nat.le_of_ble_eq_true rfl) (wf_iR0 _ _ _) ?_
  obtain ⟨σ0, e0, i0, z0, f0⟩ := t0_ex hI
  rw [show sI σ 117 (upd (σ.1 117) 0 0) = σ0 from e0]
  obtain ⟨⟨g1, g2, g3, g4, g5, g6⟩, hM, g16, g24, h9⟩ := id i0
  have hn := hW.1.1
  have hnd := hM.1.1
  have hpn := hW.2.1
  refine vg_iconst (v := 0) C d_R_count_5 (by decide) ?_
  refine vg_istore_n C d_R_count_6 (Nat.le_of_ble_eq_true rfl) rfl ?_
  refine vg_iload_n C d_R_count_7 rfl ?_
  rcases sw_n x 5 (by decide) with hs_8 | ⟨j_8, hj_8, es_8⟩
  · skip
    refine vg_tabOut (tgt := 135) C d_R_count_8 hs_8 (by decide) ?_
    refine vg_aload_n C d_R_count_135 rfl ?_
    refine vg_iconst (v := 1) C d_R_count_136 (by decide) ?_
    refine wr_callV (As := [_]) C (c_R_raise Z hst ad σ0 1) l_R_count_R_raise k_R_87 rfl rfl rfl rfl rfl (Nat.le_of_ble_eq_true rfl) d_R_count_137 ⟨Nat.le_of_ble_eq_true rfl, Nat.le_of_ble_eq_true rfl⟩ (fun v_137 w_137 h_137 => ?_)
    obtain ⟨rfl, rfl⟩ := h_137
    exact vg_ireturn C hQ d_R_count_140 rfl (by first | rfl | assumption) (PR_raise f0 i0 ⟨rfl, Or.inr (Or.inr (Or.inr (Or.inr (Or.inr (Or.inr ⟨fun z => by rw [Int32.le_iff_toInt_le, Int32.le_iff_toInt_le, i32_0, i32_5] at z; omega, rfl⟩)))))⟩)
  · skip
    rcases (show j_8 = 0 ∨ j_8 = 1 ∨ j_8 = 2 ∨ j_8 = 3 ∨ j_8 = 4 ∨ j_8 = 5 by omega) with rfl | rfl | rfl | rfl | rfl | rfl
    · skip
      subst es_8
      refine vg_tabIn (tgt := 48) C d_R_count_8 (by decide) (by decide) rfl (by decide) ?_
      refine vg_aload_n C d_R_count_48 rfl ?_
      refine wr_get C d_R_count_49 f_R_73 rfl rfl rfl rfl ?_
      rw [g6]
      exact vg_ireturn C hQ d_R_count_52 rfl (by first | rfl | assumption) (PR_ret (P' := P) f0 i0 z0 ⟨rfl, Or.inl ⟨rfl, rfl, rfl⟩⟩)
    · skip
      subst es_8
      refine vg_tabIn (tgt := 53) C d_R_count_8 (by decide) (by decide) rfl (by decide) ?_
      refine vg_iconst (v := 0) C d_R_count_53 (by decide) ?_
      refine vg_istore_n C d_R_count_54 (Nat.le_of_ble_eq_true rfl) rfl ?_
      exact lp_R_count_1 hst C hQ ad P hW σ0 g5 _ (PR_ret (P' := P) f0 i0 z0 ⟨rfl, Or.inr (Or.inl ⟨rfl, rfl, rfl⟩)⟩) 5 0 (by omega) (by omega)
    · skip
      subst es_8
      refine vg_tabIn (tgt := 80) C d_R_count_8 (by decide) (by decide) rfl (by decide) ?_
      refine vg_aload_n C d_R_count_80 rfl ?_
      refine wr_get C d_R_count_81 f_R_95 rfl rfl rfl rfl ?_
      rw [hM.2.1]
      exact vg_ireturn C hQ d_R_count_84 rfl (by first | rfl | assumption) (PR_ret (P' := P) f0 i0 z0 ⟨rfl, Or.inr (Or.inr (Or.inl ⟨rfl, rfl, rfl⟩))⟩)
    · skip
      subst es_8
      refine vg_tabIn (tgt := 85) C d_R_count_8 (by decide) (by decide) rfl (by decide) ?_
      refine vg_aload_n C d_R_count_85 rfl ?_
      refine wr_get C d_R_count_86 f_R_50 rfl rfl rfl rfl ?_
      rw [g16]
      refine vg_istore_n C d_R_count_89 (Nat.le_of_ble_eq_true rfl) rfl ?_
      refine vg_w (ws' := wd Z ad σ0) rfl ?_
      have LP := lp_R_count_3 hst C hQ ad P hW σ0 i0 (nI 3) (PR_ret (P' := P) f0 i0 z0 ⟨rfl, Or.inr (Or.inr (Or.inr (Or.inl ⟨rfl, rfl, rfl⟩)))⟩) (pn P) (Nat.le_refl _)
      rw [Nat.sub_self] at LP
      exact LP
    · skip
      subst es_8
      refine vg_tabIn (tgt := 109) C d_R_count_8 (by decide) (by decide) rfl (by decide) ?_
      by_cases h0 : pn P = 0
      · have e16 : σ0.1 117 16 = -1 := g16.trans (opn_0 h0)
        refine vg_aload_n C d_R_count_109 rfl ?_
        refine wr_get C d_R_count_110 f_R_50 rfl rfl rfl rfl ?_
        rw [e16]
        refine vg_if_ge (tgt := 120) C d_R_count_113 (by decide) (fun c_113 => absurd c_113 (by decide)) (fun _ => ?_)
        refine vg_iconst (v := (-1)) C d_R_count_116 (by decide) ?_
        refine vg_goto (tgt := 129) C d_R_count_117 (by decide) ?_
        exact vg_ireturn C hQ d_R_count_129 rfl (by first | rfl | assumption) (PR_ret (P' := P) f0 i0 z0 ⟨rfl, Or.inr (Or.inr (Or.inr (Or.inr (Or.inl ⟨rfl, rfl, by rw [if_pos h0]⟩))))⟩)
      · have e16 : σ0.1 117 16 = nI (pT P) := g16.trans (opn_s h0)
        have hT1 : pT P < pd P := hW.2.2 (pn P - 1) (by omega)
        refine vg_aload_n C d_R_count_109 rfl ?_
        refine wr_get C d_R_count_110 f_R_50 rfl rfl rfl rfl ?_
        rw [e16]
        refine vg_if_ge (tgt := 120) C d_R_count_113 (by decide) (fun _ => ?_) (fun c_113 => absurd (i32_ge0 (by omega)) c_113)
        refine vg_aload_n C d_R_count_120 rfl ?_
        refine wr_get C d_R_count_121 f_R_25 rfl rfl rfl rfl ?_
        refine vg_aload_n C d_R_count_124 rfl ?_
        refine wr_get C d_R_count_125 f_R_50 rfl rfl rfl rfl ?_
        rw [e16]
        refine wr_iald C d_R_count_128 rfl rfl (by exact vp_in_nI (by omega) (by decide)) ?_
        rw [nI_clamp (by omega), (hM.2.2 _ hT1).1]
        exact vg_ireturn C hQ d_R_count_129 rfl (by first | rfl | assumption) (PR_ret (P' := P) f0 i0 z0 ⟨rfl, Or.inr (Or.inr (Or.inr (Or.inr (Or.inl ⟨rfl, rfl, by rw [if_neg h0]⟩))))⟩)
    · skip
      subst es_8
      refine vg_tabIn (tgt := 130) C d_R_count_8 (by decide) (by decide) rfl (by decide) ?_
      refine vg_aload_n C d_R_count_130 rfl ?_
      refine wr_get C d_R_count_131 f_R_50 rfl rfl rfl rfl ?_
      rw [g16]
      exact vg_ireturn C hQ d_R_count_134 rfl (by first | rfl | assumption) (PR_ret (P' := P) f0 i0 z0 ⟨rfl, Or.inr (Or.inr (Or.inr (Or.inr (Or.inr (Or.inl ⟨rfl, rfl, rfl⟩)))))⟩)
