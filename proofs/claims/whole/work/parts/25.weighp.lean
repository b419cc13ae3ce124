/-! Matcher.weighPattern -/
theorem p2_of : ∀ na, na ≤ 3 → p2S (2 ^ na) ∧ 2 ^ na ≤ 8 ∧ 0 < 2 ^ na := by
  intro na h
  rcases (show na = 0 ∨ na = 1 ∨ na = 2 ∨ na = 3 by omega) with rfl | rfl | rfl | rfl
  · exact ⟨Or.inl rfl, by decide, by decide⟩
  · exact ⟨Or.inr (Or.inl rfl), by decide, by decide⟩
  · exact ⟨Or.inr (Or.inr (Or.inl rfl)), by decide, by decide⟩
  · exact ⟨Or.inr (Or.inr (Or.inr rfl)), by decide, by decide⟩
theorem kQE_iff {σ : sg} {k nc p s i : Nat} {cd : Nat → Option Nat} (hcd : ∀ i, i < nc → (cd i = none ∧ σ.1 (k + 4) i = -1) ∨ ∃ t, cd i = some t ∧ t < 16 ∧ σ.1 (k + 4) i = nI t) (hi : i < nc) {R : Nat → Int64} : (∃ t, cd i = some t ∧ (σ.1 3 p = 6 ∨ σ.1 3 p = (sL σ 110 R).1 (11 + 6 * t) 0) ∧ lb ((sL σ 110 R).2 (11 + 6 * t) 8) s = true) ↔ kQE σ cd p s i := by
  have key : ∀ t, cd i = some t → (sL σ 110 R).2 (11 + 6 * t) = σ.2 (11 + 6 * t) := fun t h1 => by
    rcases hcd i hi with ⟨e1, -⟩ | ⟨t2, e1, e2, -⟩
    · rw [e1] at h1; cases h1
    · cases e1.symm.trans h1
      exact sL_ne _ (kd_ne (nd_of t e2) (y := 12) rfl (by decide))
  constructor
  · rintro ⟨t, h1, h2, h3⟩
    rw [key t h1] at h3
    exact ⟨t, h1, h2, h3⟩
  · rintro ⟨t, h1, h2, h3⟩
    exact ⟨t, h1, h2, by rw [key t h1]; exact h3⟩
set_option maxHeartbeats 4000000 in
set_option maxRecDepth 100000 in
theorem c_T_weighPattern (Z : vg_Z) (hst : vg_St Z) (ad : Nat → Nat) (σ : sg) (k : Nat) (hk : wd_kl[k]? = some 6) (na nc S : Nat) (hna : σ.1 k 4 = nI na) (hn3 : na ≤ 3) (hc : σ.1 k 7 = nI nc) (hc6 : nc ≤ 6) (hS : σ.1 107 5 = nI S) (hSn : S = 2 ^ na) (cd : Nat → Option Nat) (hcd : ∀ i, i < nc → (cd i = none ∧ σ.1 (k + 4) i = -1) ∨ ∃ t, cd i = some t ∧ t < 16 ∧ σ.1 (k + 4) i = nI t) (n : Nat) (H : Nat → Nat) (hW : WG (σ.1 2) (σ.1 3) (σ.1 4) (σ.1 6) n H) (p : Nat) (hp : p < n) (hkn : ∃ kn, kn ≤ 10 ∧ σ.1 2 p = nI kn)  : vg_T Z M_T_weighPattern 0 0 [.ref (ad 107), .int (nI p), .ref (ad k)] (wd Z ad σ) (fun v w => v = none ∧ ∃ R, KS σ k na nc S cd p (σ.2 110) R ∧ w = wd Z ad (sL σ 110 R)) := by
  refine vg_enter hst (by decide) rfl (Nat.le_of_ble_eq_true rfl) ?_
  intro G C hQ
  show vg_K Z M_T_weighPattern G 0 0 0 [(0, .ref (ad 107)), (1, .int (nI p)), (2, .ref (ad k))] [] (wd Z ad σ)
  have hn := hW.1
  obtain ⟨hp2, hS8, hS0⟩ := p2_of na hn3
  rw [← hSn] at hp2 hS8 hS0
  refine vg_aload_n C d_T_weighPattern_0 rfl ?_
  refine wr_get C d_T_weighPattern_1 f_T_28 rfl rfl rfl rfl ?_
  refine wr_get C d_T_weighPattern_4 f_T_109 rfl rfl rfl rfl ?_
  refine vg_iload_n C d_T_weighPattern_7 rfl ?_
  refine wr_iald C d_T_weighPattern_8 rfl rfl (by exact vp_in_nI (by omega) (by decide)) ?_
  rw [nI_clamp (by omega)]
  refine vg_istore_n C d_T_weighPattern_9 (Nat.le_of_ble_eq_true rfl) rfl ?_
  refine vg_aload_n C d_T_weighPattern_10 rfl ?_
  refine wr_get C d_T_weighPattern_11 f_T_28 rfl rfl rfl rfl ?_
  refine wr_get C d_T_weighPattern_14 f_T_112 rfl rfl rfl rfl ?_
  refine vg_iload_n C d_T_weighPattern_17 rfl ?_
  refine wr_iald C d_T_weighPattern_18 rfl rfl (by exact vp_in_nI (by omega) (by decide)) ?_
  rw [nI_clamp (by omega)]
  refine vg_istore C d_T_weighPattern_19 (Nat.le_of_ble_eq_true rfl) rfl ?_
  refine vg_aload_n C d_T_weighPattern_21 rfl ?_
  refine vg_iload_n C d_T_weighPattern_22 rfl ?_
  refine wr_callV (As := [_]) C (c_T_wipe Z hst ad σ p (by omega) S hS hS8) l_T_weighPattern_T_wipe k_T_115 rfl rfl rfl rfl rfl (Nat.le_of_ble_eq_true rfl) d_T_weighPattern_23 ⟨Nat.le_of_ble_eq_true rfl, Nat.le_of_ble_eq_true rfl⟩ (fun v_23 w_23 h_23 => ?_)
  obtain ⟨rfl, rfl⟩ := h_23
  refine vg_aload_n C d_T_weighPattern_26 rfl ?_
  refine wr_get C d_T_weighPattern_27 f_T_28 rfl rfl rfl rfl ?_
  refine wr_get C d_T_weighPattern_30 f_T_118 rfl rfl rfl rfl ?_
  refine vg_iload_n C d_T_weighPattern_33 rfl ?_
  refine wr_iald C d_T_weighPattern_34 rfl rfl (by exact vp_in_nI (by omega) (by decide)) ?_
  rw [nI_clamp (by omega), sL_1]
  rcases sw_n (σ.1 2 p) 10 (by decide) with hs_35 | ⟨j_35, hj_35, es_35⟩
  · skip
    refine vg_tabOut (tgt := 267) C d_T_weighPattern_35 hs_35 (by decide) ?_
    refine vg_return C hQ d_T_weighPattern_267 rfl ⟨rfl, _, ?_, rfl⟩
    first
      | exact ⟨jn1_t (wp_1 hS8) up0_j, 0, by decide, es_35, fun A z hA hz => by rw [up0_b hS8 hA, lb_1, decide_eq_true_eq]⟩
      | exact ⟨wp_1 hS8, 1, by decide, es_35, fun A z hA hz => wp_b hA⟩
      | exact ⟨jn1_t (wp_1 hS8) up0_j, 2, by decide, es_35, fun A z hA hz => up0_b hS8 hA⟩
      | exact ⟨jn1_t (wp_1 hS8) up0_j, 3, by decide, es_35, fun A z hA hz => up0_b hS8 hA⟩
      | exact ⟨jn1_t (wp_1 hS8) hJ.1, 4, by decide, es_35, f, s, by omega, by omega, hf, hs, fun A z hA hz => (JI_grp hp2 hfp (fun A z hA hz => wp_b hA) hJ hA hz).trans (GrpS_congr (fun a x ha hx => jn1_b (wp_1 hS8) hfp (by omega)) (fun a x ha hx => jn1_b (wp_1 hS8) hsp (by omega)))⟩
      | exact ⟨jn1_t (wp_1 hS8) hJ.1, 5, by decide, es_35, f, s, by omega, by omega, hf, hs, fun A z hA hz => (JI_grp hp2 hfp (fun A z hA hz => wp_b hA) hJ hA hz).trans (GrpS_congr (fun a x ha hx => jn1_b (wp_1 hS8) hfp (by omega)) (fun a x ha hx => jn1_b (wp_1 hS8) hsp (by omega)))⟩
      | exact ⟨jn1_t (wp_1 hS8) (jn1_t (ic_j hS8) (ic_j hS8)), 6, by decide, es_35, f, s, by omega, by omega, hf, hs, fun A z hA hz => by rw [ic_b hA, ic_b hA, wp_b hA, jn1_b (ic_j hS8) hsp (by omega), jn1_b (wp_1 hS8) hsp (by omega), jn1_b (wp_1 hS8) hfp (by omega), false_or]⟩
      | (obtain ⟨y1, y2⟩ := JI_more hp2 hfp (fun A z hA hz => by rw [ic_b hA, wp_b hA, false_or, jn1_b (ic_j hS8) hfp (by omega)]) hJ
         have hff : ∀ a x, a < S → x < 64 → (Rb (icR (wpR (σ.2 110) p S) p f S) f a x ↔ Rb (σ.2 110) f a x) := fun a x ha hx => by rw [jn1_b (ic_j hS8) hfp (by omega), jn1_b (wp_1 hS8) hfp (by omega)]
         exact ⟨jn1_t (wp_1 hS8) (jn1_t (ic_j hS8) hJ.1), 7, by decide, es_35, f, by omega, hf, fun A z hA hz h => y1 A z hA hz (h.imp (hff A z hA hz).mpr (GrpS_congr (fun _ _ _ _ => Iff.rfl) hff).mpr), fun D hD => y2 D (fun A z hA hz h => hD A z hA hz (h.imp (hff A z hA hz).mp (GrpS_congr (fun _ _ _ _ => Iff.rfl) hff).mp))⟩)
      | exact ⟨jn1_t (wp_1 hS8) up0_j, 8, by decide, es_35, s, by omega, hs, fun A z hA hz => up0_b hS8 hA⟩
      | exact ⟨jn1_t (wp_1 hS8) (mA_bit na hn3).1, 9, by decide, es_35, s, by omega, hs, fun A z hA hz => by
          rw [(mA_bit na hn3).2 A z (by omega), wp_b hA, and_false, or_false]
          exact ⟨fun h => ⟨h.2, h.1⟩, fun h => ⟨h.2, h.1⟩⟩⟩
      | exact ⟨wp_1 hS8, 10, by decide, es_35, dd, hd4, hfd, Or.inl ⟨c_247, fun A z hA hz => wp_b hA⟩⟩
      | exact ⟨jn1_t (wp_1 hS8) (ic_j hS8), 10, by decide, es_35, dd, hd4, hfd, Or.inr ⟨c, by omega, hgc, fun A z hA hz => by rw [ic_b hA, wp_b hA, false_or, jn1_b (wp_1 hS8) hcp (by omega)]⟩⟩
      | (exfalso; obtain ⟨kn, h1, h2⟩ := hkn; rw [h2, nI_toInt (by omega)] at hs_35; omega)
  · skip
    rcases (show j_35 = 0 ∨ j_35 = 1 ∨ j_35 = 2 ∨ j_35 = 3 ∨ j_35 = 4 ∨ j_35 = 5 ∨ j_35 = 6 ∨ j_35 = 7 ∨ j_35 = 8 ∨ j_35 = 9 ∨ j_35 = 10 by omega) with rfl | rfl | rfl | rfl | rfl | rfl | rfl | rfl | rfl | rfl | rfl
    · skip
      rw [es_35]
      refine vg_tabIn (tgt := 92) C d_T_weighPattern_35 (by decide) (by decide) rfl (by decide) ?_
      refine vg_aload_n C d_T_weighPattern_92 rfl ?_
      refine wr_get C d_T_weighPattern_93 f_T_18 rfl rfl rfl rfl ?_
      refine vg_iload_n C d_T_weighPattern_96 rfl ?_
      refine vg_bipush (v := 8) C d_T_weighPattern_97 (by decide) ?_
      refine vg_imul C d_T_weighPattern_99 ?_
      rw [show (8 : Int32) = nI 8 from rfl, pk_mul]
      refine vg_lconst (v := 1) C d_T_weighPattern_100 (by decide) ?_
      refine wr_last C d_T_weighPattern_101 rfl rfl (by exact vp_in_nI (by omega) (by decide)) ?_
      rw [nI_clamp (by omega), sL_sL, sL_at]
      refine vg_goto (tgt := 267) C d_T_weighPattern_102 (by decide) ?_
      refine vg_return C hQ d_T_weighPattern_267 rfl ⟨rfl, _, ?_, rfl⟩
      first
        | exact ⟨jn1_t (wp_1 hS8) up0_j, 0, by decide, es_35, fun A z hA hz => by rw [up0_b hS8 hA, lb_1, decide_eq_true_eq]⟩
        | exact ⟨wp_1 hS8, 1, by decide, es_35, fun A z hA hz => wp_b hA⟩
        | exact ⟨jn1_t (wp_1 hS8) up0_j, 2, by decide, es_35, fun A z hA hz => up0_b hS8 hA⟩
        | exact ⟨jn1_t (wp_1 hS8) up0_j, 3, by decide, es_35, fun A z hA hz => up0_b hS8 hA⟩
        | exact ⟨jn1_t (wp_1 hS8) hJ.1, 4, by decide, es_35, f, s, by omega, by omega, hf, hs, fun A z hA hz => (JI_grp hp2 hfp (fun A z hA hz => wp_b hA) hJ hA hz).trans (GrpS_congr (fun a x ha hx => jn1_b (wp_1 hS8) hfp (by omega)) (fun a x ha hx => jn1_b (wp_1 hS8) hsp (by omega)))⟩
        | exact ⟨jn1_t (wp_1 hS8) hJ.1, 5, by decide, es_35, f, s, by omega, by omega, hf, hs, fun A z hA hz => (JI_grp hp2 hfp (fun A z hA hz => wp_b hA) hJ hA hz).trans (GrpS_congr (fun a x ha hx => jn1_b (wp_1 hS8) hfp (by omega)) (fun a x ha hx => jn1_b (wp_1 hS8) hsp (by omega)))⟩
        | exact ⟨jn1_t (wp_1 hS8) (jn1_t (ic_j hS8) (ic_j hS8)), 6, by decide, es_35, f, s, by omega, by omega, hf, hs, fun A z hA hz => by rw [ic_b hA, ic_b hA, wp_b hA, jn1_b (ic_j hS8) hsp (by omega), jn1_b (wp_1 hS8) hsp (by omega), jn1_b (wp_1 hS8) hfp (by omega), false_or]⟩
        | (obtain ⟨y1, y2⟩ := JI_more hp2 hfp (fun A z hA hz => by rw [ic_b hA, wp_b hA, false_or, jn1_b (ic_j hS8) hfp (by omega)]) hJ
           have hff : ∀ a x, a < S → x < 64 → (Rb (icR (wpR (σ.2 110) p S) p f S) f a x ↔ Rb (σ.2 110) f a x) := fun a x ha hx => by rw [jn1_b (ic_j hS8) hfp (by omega), jn1_b (wp_1 hS8) hfp (by omega)]
           exact ⟨jn1_t (wp_1 hS8) (jn1_t (ic_j hS8) hJ.1), 7, by decide, es_35, f, by omega, hf, fun A z hA hz h => y1 A z hA hz (h.imp (hff A z hA hz).mpr (GrpS_congr (fun _ _ _ _ => Iff.rfl) hff).mpr), fun D hD => y2 D (fun A z hA hz h => hD A z hA hz (h.imp (hff A z hA hz).mp (GrpS_congr (fun _ _ _ _ => Iff.rfl) hff).mp))⟩)
        | exact ⟨jn1_t (wp_1 hS8) up0_j, 8, by decide, es_35, s, by omega, hs, fun A z hA hz => up0_b hS8 hA⟩
        | exact ⟨jn1_t (wp_1 hS8) (mA_bit na hn3).1, 9, by decide, es_35, s, by omega, hs, fun A z hA hz => by
            rw [(mA_bit na hn3).2 A z (by omega), wp_b hA, and_false, or_false]
            exact ⟨fun h => ⟨h.2, h.1⟩, fun h => ⟨h.2, h.1⟩⟩⟩
        | exact ⟨wp_1 hS8, 10, by decide, es_35, dd, hd4, hfd, Or.inl ⟨c_247, fun A z hA hz => wp_b hA⟩⟩
        | exact ⟨jn1_t (wp_1 hS8) (ic_j hS8), 10, by decide, es_35, dd, hd4, hfd, Or.inr ⟨c, by omega, hgc, fun A z hA hz => by rw [ic_b hA, wp_b hA, false_or, jn1_b (wp_1 hS8) hcp (by omega)]⟩⟩
        | (exfalso; obtain ⟨kn, h1, h2⟩ := hkn; rw [h2, nI_toInt (by omega)] at hs_35; omega)
    · skip
      rw [es_35]
      refine vg_tabIn (tgt := 267) C d_T_weighPattern_35 (by decide) (by decide) rfl (by decide) ?_
      refine vg_return C hQ d_T_weighPattern_267 rfl ⟨rfl, _, ?_, rfl⟩
      first
        | exact ⟨jn1_t (wp_1 hS8) up0_j, 0, by decide, es_35, fun A z hA hz => by rw [up0_b hS8 hA, lb_1, decide_eq_true_eq]⟩
        | exact ⟨wp_1 hS8, 1, by decide, es_35, fun A z hA hz => wp_b hA⟩
        | exact ⟨jn1_t (wp_1 hS8) up0_j, 2, by decide, es_35, fun A z hA hz => up0_b hS8 hA⟩
        | exact ⟨jn1_t (wp_1 hS8) up0_j, 3, by decide, es_35, fun A z hA hz => up0_b hS8 hA⟩
        | exact ⟨jn1_t (wp_1 hS8) hJ.1, 4, by decide, es_35, f, s, by omega, by omega, hf, hs, fun A z hA hz => (JI_grp hp2 hfp (fun A z hA hz => wp_b hA) hJ hA hz).trans (GrpS_congr (fun a x ha hx => jn1_b (wp_1 hS8) hfp (by omega)) (fun a x ha hx => jn1_b (wp_1 hS8) hsp (by omega)))⟩
        | exact ⟨jn1_t (wp_1 hS8) hJ.1, 5, by decide, es_35, f, s, by omega, by omega, hf, hs, fun A z hA hz => (JI_grp hp2 hfp (fun A z hA hz => wp_b hA) hJ hA hz).trans (GrpS_congr (fun a x ha hx => jn1_b (wp_1 hS8) hfp (by omega)) (fun a x ha hx => jn1_b (wp_1 hS8) hsp (by omega)))⟩
        | exact ⟨jn1_t (wp_1 hS8) (jn1_t (ic_j hS8) (ic_j hS8)), 6, by decide, es_35, f, s, by omega, by omega, hf, hs, fun A z hA hz => by rw [ic_b hA, ic_b hA, wp_b hA, jn1_b (ic_j hS8) hsp (by omega), jn1_b (wp_1 hS8) hsp (by omega), jn1_b (wp_1 hS8) hfp (by omega), false_or]⟩
        | (obtain ⟨y1, y2⟩ := JI_more hp2 hfp (fun A z hA hz => by rw [ic_b hA, wp_b hA, false_or, jn1_b (ic_j hS8) hfp (by omega)]) hJ
           have hff : ∀ a x, a < S → x < 64 → (Rb (icR (wpR (σ.2 110) p S) p f S) f a x ↔ Rb (σ.2 110) f a x) := fun a x ha hx => by rw [jn1_b (ic_j hS8) hfp (by omega), jn1_b (wp_1 hS8) hfp (by omega)]
           exact ⟨jn1_t (wp_1 hS8) (jn1_t (ic_j hS8) hJ.1), 7, by decide, es_35, f, by omega, hf, fun A z hA hz h => y1 A z hA hz (h.imp (hff A z hA hz).mpr (GrpS_congr (fun _ _ _ _ => Iff.rfl) hff).mpr), fun D hD => y2 D (fun A z hA hz h => hD A z hA hz (h.imp (hff A z hA hz).mp (GrpS_congr (fun _ _ _ _ => Iff.rfl) hff).mp))⟩)
        | exact ⟨jn1_t (wp_1 hS8) up0_j, 8, by decide, es_35, s, by omega, hs, fun A z hA hz => up0_b hS8 hA⟩
        | exact ⟨jn1_t (wp_1 hS8) (mA_bit na hn3).1, 9, by decide, es_35, s, by omega, hs, fun A z hA hz => by
            rw [(mA_bit na hn3).2 A z (by omega), wp_b hA, and_false, or_false]
            exact ⟨fun h => ⟨h.2, h.1⟩, fun h => ⟨h.2, h.1⟩⟩⟩
        | exact ⟨wp_1 hS8, 10, by decide, es_35, dd, hd4, hfd, Or.inl ⟨c_247, fun A z hA hz => wp_b hA⟩⟩
        | exact ⟨jn1_t (wp_1 hS8) (ic_j hS8), 10, by decide, es_35, dd, hd4, hfd, Or.inr ⟨c, by omega, hgc, fun A z hA hz => by rw [ic_b hA, wp_b hA, false_or, jn1_b (wp_1 hS8) hcp (by omega)]⟩⟩
        | (exfalso; obtain ⟨kn, h1, h2⟩ := hkn; rw [h2, nI_toInt (by omega)] at hs_35; omega)
    · skip
      rw [es_35]
      refine vg_tabIn (tgt := 105) C d_T_weighPattern_35 (by decide) (by decide) rfl (by decide) ?_
      refine vg_aload_n C d_T_weighPattern_105 rfl ?_
      refine wr_get C d_T_weighPattern_106 f_T_18 rfl rfl rfl rfl ?_
      refine vg_iload_n C d_T_weighPattern_109 rfl ?_
      refine vg_bipush (v := 8) C d_T_weighPattern_110 (by decide) ?_
      refine vg_imul C d_T_weighPattern_112 ?_
      rw [show (8 : Int32) = nI 8 from rfl, pk_mul]
      refine vg_aload_n C d_T_weighPattern_113 rfl ?_
      refine vg_aload_n C d_T_weighPattern_114 rfl ?_
      refine wr_callV (As := [_]) C (c_T_rowsOfTexts Z hst ad (sL σ 110 (wpR (σ.2 110) p S)) k hk nc hc hc6) l_T_weighPattern_T_rowsOfTexts k_T_121 rfl rfl rfl rfl rfl (Nat.le_of_ble_eq_true rfl) d_T_weighPattern_115 ⟨Nat.le_of_ble_eq_true rfl, Nat.le_of_ble_eq_true rfl⟩ (fun v_115 w_115 h_115 => ?_)
      obtain ⟨rfl, rfl⟩ := h_115
      refine wr_last C d_T_weighPattern_118 rfl rfl (by exact vp_in_nI (by omega) (by decide)) ?_
      rw [nI_clamp (by omega), sL_sL, sL_at]
      refine vg_goto (tgt := 267) C d_T_weighPattern_119 (by decide) ?_
      refine vg_return C hQ d_T_weighPattern_267 rfl ⟨rfl, _, ?_, rfl⟩
      first
        | exact ⟨jn1_t (wp_1 hS8) up0_j, 0, by decide, es_35, fun A z hA hz => by rw [up0_b hS8 hA, lb_1, decide_eq_true_eq]⟩
        | exact ⟨wp_1 hS8, 1, by decide, es_35, fun A z hA hz => wp_b hA⟩
        | exact ⟨jn1_t (wp_1 hS8) up0_j, 2, by decide, es_35, fun A z hA hz => up0_b hS8 hA⟩
        | exact ⟨jn1_t (wp_1 hS8) up0_j, 3, by decide, es_35, fun A z hA hz => up0_b hS8 hA⟩
        | exact ⟨jn1_t (wp_1 hS8) hJ.1, 4, by decide, es_35, f, s, by omega, by omega, hf, hs, fun A z hA hz => (JI_grp hp2 hfp (fun A z hA hz => wp_b hA) hJ hA hz).trans (GrpS_congr (fun a x ha hx => jn1_b (wp_1 hS8) hfp (by omega)) (fun a x ha hx => jn1_b (wp_1 hS8) hsp (by omega)))⟩
        | exact ⟨jn1_t (wp_1 hS8) hJ.1, 5, by decide, es_35, f, s, by omega, by omega, hf, hs, fun A z hA hz => (JI_grp hp2 hfp (fun A z hA hz => wp_b hA) hJ hA hz).trans (GrpS_congr (fun a x ha hx => jn1_b (wp_1 hS8) hfp (by omega)) (fun a x ha hx => jn1_b (wp_1 hS8) hsp (by omega)))⟩
        | exact ⟨jn1_t (wp_1 hS8) (jn1_t (ic_j hS8) (ic_j hS8)), 6, by decide, es_35, f, s, by omega, by omega, hf, hs, fun A z hA hz => by rw [ic_b hA, ic_b hA, wp_b hA, jn1_b (ic_j hS8) hsp (by omega), jn1_b (wp_1 hS8) hsp (by omega), jn1_b (wp_1 hS8) hfp (by omega), false_or]⟩
        | (obtain ⟨y1, y2⟩ := JI_more hp2 hfp (fun A z hA hz => by rw [ic_b hA, wp_b hA, false_or, jn1_b (ic_j hS8) hfp (by omega)]) hJ
           have hff : ∀ a x, a < S → x < 64 → (Rb (icR (wpR (σ.2 110) p S) p f S) f a x ↔ Rb (σ.2 110) f a x) := fun a x ha hx => by rw [jn1_b (ic_j hS8) hfp (by omega), jn1_b (wp_1 hS8) hfp (by omega)]
           exact ⟨jn1_t (wp_1 hS8) (jn1_t (ic_j hS8) hJ.1), 7, by decide, es_35, f, by omega, hf, fun A z hA hz h => y1 A z hA hz (h.imp (hff A z hA hz).mpr (GrpS_congr (fun _ _ _ _ => Iff.rfl) hff).mpr), fun D hD => y2 D (fun A z hA hz h => hD A z hA hz (h.imp (hff A z hA hz).mp (GrpS_congr (fun _ _ _ _ => Iff.rfl) hff).mp))⟩)
        | exact ⟨jn1_t (wp_1 hS8) up0_j, 8, by decide, es_35, s, by omega, hs, fun A z hA hz => up0_b hS8 hA⟩
        | exact ⟨jn1_t (wp_1 hS8) (mA_bit na hn3).1, 9, by decide, es_35, s, by omega, hs, fun A z hA hz => by
            rw [(mA_bit na hn3).2 A z (by omega), wp_b hA, and_false, or_false]
            exact ⟨fun h => ⟨h.2, h.1⟩, fun h => ⟨h.2, h.1⟩⟩⟩
        | exact ⟨wp_1 hS8, 10, by decide, es_35, dd, hd4, hfd, Or.inl ⟨c_247, fun A z hA hz => wp_b hA⟩⟩
        | exact ⟨jn1_t (wp_1 hS8) (ic_j hS8), 10, by decide, es_35, dd, hd4, hfd, Or.inr ⟨c, by omega, hgc, fun A z hA hz => by rw [ic_b hA, wp_b hA, false_or, jn1_b (wp_1 hS8) hcp (by omega)]⟩⟩
        | (exfalso; obtain ⟨kn, h1, h2⟩ := hkn; rw [h2, nI_toInt (by omega)] at hs_35; omega)
    · skip
      rw [es_35]
      refine vg_tabIn (tgt := 122) C d_T_weighPattern_35 (by decide) (by decide) rfl (by decide) ?_
      refine vg_aload_n C d_T_weighPattern_122 rfl ?_
      refine wr_get C d_T_weighPattern_123 f_T_18 rfl rfl rfl rfl ?_
      refine vg_iload_n C d_T_weighPattern_126 rfl ?_
      refine vg_bipush (v := 8) C d_T_weighPattern_127 (by decide) ?_
      refine vg_imul C d_T_weighPattern_129 ?_
      rw [show (8 : Int32) = nI 8 from rfl, pk_mul]
      refine vg_aload_n C d_T_weighPattern_130 rfl ?_
      refine vg_aload_n C d_T_weighPattern_131 rfl ?_
      refine vg_iload_n C d_T_weighPattern_132 rfl ?_
      refine vg_iload C d_T_weighPattern_133 rfl ?_
      refine wr_callV (As := [_, _, _]) C (c_T_rowsOfOneText Z hst ad (sL σ 110 (wpR (σ.2 110) p S)) (σ.1 3 p) (σ.1 4 p) k hk nc hc hc6) l_T_weighPattern_T_rowsOfOneText k_T_125 rfl rfl rfl rfl rfl (Nat.le_of_ble_eq_true rfl) d_T_weighPattern_135 ⟨Nat.le_of_ble_eq_true rfl, Nat.le_of_ble_eq_true rfl⟩ (fun v_135 w_135 h_135 => ?_)
      obtain ⟨rfl, rfl⟩ := h_135
      refine wr_last C d_T_weighPattern_138 rfl rfl (by exact vp_in_nI (by omega) (by decide)) ?_
      rw [nI_clamp (by omega), sL_sL, sL_at]
      refine vg_goto (tgt := 267) C d_T_weighPattern_139 (by decide) ?_
      refine vg_return C hQ d_T_weighPattern_267 rfl ⟨rfl, _, ?_, rfl⟩
      first
        | exact ⟨jn1_t (wp_1 hS8) up0_j, 0, by decide, es_35, fun A z hA hz => by rw [up0_b hS8 hA, lb_1, decide_eq_true_eq]⟩
        | exact ⟨wp_1 hS8, 1, by decide, es_35, fun A z hA hz => wp_b hA⟩
        | exact ⟨jn1_t (wp_1 hS8) up0_j, 2, by decide, es_35, fun A z hA hz => up0_b hS8 hA⟩
        | exact ⟨jn1_t (wp_1 hS8) up0_j, 3, by decide, es_35, fun A z hA hz => up0_b hS8 hA⟩
        | exact ⟨jn1_t (wp_1 hS8) hJ.1, 4, by decide, es_35, f, s, by omega, by omega, hf, hs, fun A z hA hz => (JI_grp hp2 hfp (fun A z hA hz => wp_b hA) hJ hA hz).trans (GrpS_congr (fun a x ha hx => jn1_b (wp_1 hS8) hfp (by omega)) (fun a x ha hx => jn1_b (wp_1 hS8) hsp (by omega)))⟩
        | exact ⟨jn1_t (wp_1 hS8) hJ.1, 5, by decide, es_35, f, s, by omega, by omega, hf, hs, fun A z hA hz => (JI_grp hp2 hfp (fun A z hA hz => wp_b hA) hJ hA hz).trans (GrpS_congr (fun a x ha hx => jn1_b (wp_1 hS8) hfp (by omega)) (fun a x ha hx => jn1_b (wp_1 hS8) hsp (by omega)))⟩
        | exact ⟨jn1_t (wp_1 hS8) (jn1_t (ic_j hS8) (ic_j hS8)), 6, by decide, es_35, f, s, by omega, by omega, hf, hs, fun A z hA hz => by rw [ic_b hA, ic_b hA, wp_b hA, jn1_b (ic_j hS8) hsp (by omega), jn1_b (wp_1 hS8) hsp (by omega), jn1_b (wp_1 hS8) hfp (by omega), false_or]⟩
        | (obtain ⟨y1, y2⟩ := JI_more hp2 hfp (fun A z hA hz => by rw [ic_b hA, wp_b hA, false_or, jn1_b (ic_j hS8) hfp (by omega)]) hJ
           have hff : ∀ a x, a < S → x < 64 → (Rb (icR (wpR (σ.2 110) p S) p f S) f a x ↔ Rb (σ.2 110) f a x) := fun a x ha hx => by rw [jn1_b (ic_j hS8) hfp (by omega), jn1_b (wp_1 hS8) hfp (by omega)]
           exact ⟨jn1_t (wp_1 hS8) (jn1_t (ic_j hS8) hJ.1), 7, by decide, es_35, f, by omega, hf, fun A z hA hz h => y1 A z hA hz (h.imp (hff A z hA hz).mpr (GrpS_congr (fun _ _ _ _ => Iff.rfl) hff).mpr), fun D hD => y2 D (fun A z hA hz h => hD A z hA hz (h.imp (hff A z hA hz).mp (GrpS_congr (fun _ _ _ _ => Iff.rfl) hff).mp))⟩)
        | exact ⟨jn1_t (wp_1 hS8) up0_j, 8, by decide, es_35, s, by omega, hs, fun A z hA hz => up0_b hS8 hA⟩
        | exact ⟨jn1_t (wp_1 hS8) (mA_bit na hn3).1, 9, by decide, es_35, s, by omega, hs, fun A z hA hz => by
            rw [(mA_bit na hn3).2 A z (by omega), wp_b hA, and_false, or_false]
            exact ⟨fun h => ⟨h.2, h.1⟩, fun h => ⟨h.2, h.1⟩⟩⟩
        | exact ⟨wp_1 hS8, 10, by decide, es_35, dd, hd4, hfd, Or.inl ⟨c_247, fun A z hA hz => wp_b hA⟩⟩
        | exact ⟨jn1_t (wp_1 hS8) (ic_j hS8), 10, by decide, es_35, dd, hd4, hfd, Or.inr ⟨c, by omega, hgc, fun A z hA hz => by rw [ic_b hA, wp_b hA, false_or, jn1_b (wp_1 hS8) hcp (by omega)]⟩⟩
        | (exfalso; obtain ⟨kn, h1, h2⟩ := hkn; rw [h2, nI_toInt (by omega)] at hs_35; omega)
    · skip
      rw [es_35]
      refine vg_tabIn (tgt := 142) C d_T_weighPattern_35 (by decide) (by decide) rfl (by decide) ?_
      obtain ⟨f, hfn, hf, hfH⟩ := (hW.2 p hp).1 (by rw [es_35]; decide)
      have hfp : f ≠ p := fun e => by rw [e] at hfH; omega
      obtain ⟨s, hsn, hs, hsH0⟩ := (hW.2 p hp).2.1 (by rw [es_35]; decide)
      have hsH := hsH0 (by rw [es_35]; decide)
      have hsp : s ≠ p := fun e => by rw [e] at hsH; omega
      rw [hf, hs]
      refine vg_aload_n C d_T_weighPattern_142 rfl ?_
      refine vg_iload_n C d_T_weighPattern_143 rfl ?_
      refine vg_iload_n C d_T_weighPattern_144 rfl ?_
      refine vg_iload C d_T_weighPattern_145 rfl ?_
      refine vg_aload_n C d_T_weighPattern_147 rfl ?_
      refine wr_get C d_T_weighPattern_148 f_T_15 rfl rfl rfl rfl ?_
      refine wr_callV (As := [_, _, _, _]) C (c_T_join Z hst ad (sL σ 110 (wpR (σ.2 110) p S)) p f s 109 (by omega) (by omega) (by omega) hsp rfl S hS hS8) l_T_weighPattern_T_join k_T_129 rfl rfl rfl rfl rfl (Nat.le_of_ble_eq_true rfl) d_T_weighPattern_151 ⟨Nat.le_of_ble_eq_true rfl, Nat.le_of_ble_eq_true rfl⟩ (fun v_151 w_151 h_151 => ?_)
      obtain ⟨rfl, R9, hJ, rfl⟩ := h_151
      rw [sL_ne _ (by decide), sL_at] at hJ
      rw [sL_sL]
      refine vg_goto (tgt := 267) C d_T_weighPattern_154 (by decide) ?_
      refine vg_return C hQ d_T_weighPattern_267 rfl ⟨rfl, _, ?_, rfl⟩
      first
        | exact ⟨jn1_t (wp_1 hS8) up0_j, 0, by decide, es_35, fun A z hA hz => by rw [up0_b hS8 hA, lb_1, decide_eq_true_eq]⟩
        | exact ⟨wp_1 hS8, 1, by decide, es_35, fun A z hA hz => wp_b hA⟩
        | exact ⟨jn1_t (wp_1 hS8) up0_j, 2, by decide, es_35, fun A z hA hz => up0_b hS8 hA⟩
        | exact ⟨jn1_t (wp_1 hS8) up0_j, 3, by decide, es_35, fun A z hA hz => up0_b hS8 hA⟩
        | exact ⟨jn1_t (wp_1 hS8) hJ.1, 4, by decide, es_35, f, s, by omega, by omega, hf, hs, fun A z hA hz => (JI_grp hp2 hfp (fun A z hA hz => wp_b hA) hJ hA hz).trans (GrpS_congr (fun a x ha hx => jn1_b (wp_1 hS8) hfp (by omega)) (fun a x ha hx => jn1_b (wp_1 hS8) hsp (by omega)))⟩
        | exact ⟨jn1_t (wp_1 hS8) hJ.1, 5, by decide, es_35, f, s, by omega, by omega, hf, hs, fun A z hA hz => (JI_grp hp2 hfp (fun A z hA hz => wp_b hA) hJ hA hz).trans (GrpS_congr (fun a x ha hx => jn1_b (wp_1 hS8) hfp (by omega)) (fun a x ha hx => jn1_b (wp_1 hS8) hsp (by omega)))⟩
        | exact ⟨jn1_t (wp_1 hS8) (jn1_t (ic_j hS8) (ic_j hS8)), 6, by decide, es_35, f, s, by omega, by omega, hf, hs, fun A z hA hz => by rw [ic_b hA, ic_b hA, wp_b hA, jn1_b (ic_j hS8) hsp (by omega), jn1_b (wp_1 hS8) hsp (by omega), jn1_b (wp_1 hS8) hfp (by omega), false_or]⟩
        | (obtain ⟨y1, y2⟩ := JI_more hp2 hfp (fun A z hA hz => by rw [ic_b hA, wp_b hA, false_or, jn1_b (ic_j hS8) hfp (by omega)]) hJ
           have hff : ∀ a x, a < S → x < 64 → (Rb (icR (wpR (σ.2 110) p S) p f S) f a x ↔ Rb (σ.2 110) f a x) := fun a x ha hx => by rw [jn1_b (ic_j hS8) hfp (by omega), jn1_b (wp_1 hS8) hfp (by omega)]
           exact ⟨jn1_t (wp_1 hS8) (jn1_t (ic_j hS8) hJ.1), 7, by decide, es_35, f, by omega, hf, fun A z hA hz h => y1 A z hA hz (h.imp (hff A z hA hz).mpr (GrpS_congr (fun _ _ _ _ => Iff.rfl) hff).mpr), fun D hD => y2 D (fun A z hA hz h => hD A z hA hz (h.imp (hff A z hA hz).mp (GrpS_congr (fun _ _ _ _ => Iff.rfl) hff).mp))⟩)
        | exact ⟨jn1_t (wp_1 hS8) up0_j, 8, by decide, es_35, s, by omega, hs, fun A z hA hz => up0_b hS8 hA⟩
        | exact ⟨jn1_t (wp_1 hS8) (mA_bit na hn3).1, 9, by decide, es_35, s, by omega, hs, fun A z hA hz => by
            rw [(mA_bit na hn3).2 A z (by omega), wp_b hA, and_false, or_false]
            exact ⟨fun h => ⟨h.2, h.1⟩, fun h => ⟨h.2, h.1⟩⟩⟩
        | exact ⟨wp_1 hS8, 10, by decide, es_35, dd, hd4, hfd, Or.inl ⟨c_247, fun A z hA hz => wp_b hA⟩⟩
        | exact ⟨jn1_t (wp_1 hS8) (ic_j hS8), 10, by decide, es_35, dd, hd4, hfd, Or.inr ⟨c, by omega, hgc, fun A z hA hz => by rw [ic_b hA, wp_b hA, false_or, jn1_b (wp_1 hS8) hcp (by omega)]⟩⟩
        | (exfalso; obtain ⟨kn, h1, h2⟩ := hkn; rw [h2, nI_toInt (by omega)] at hs_35; omega)
    · skip
      rw [es_35]
      refine vg_tabIn (tgt := 157) C d_T_weighPattern_35 (by decide) (by decide) rfl (by decide) ?_
      obtain ⟨f, hfn, hf, hfH⟩ := (hW.2 p hp).1 (by rw [es_35]; decide)
      have hfp : f ≠ p := fun e => by rw [e] at hfH; omega
      obtain ⟨s, hsn, hs, hsH0⟩ := (hW.2 p hp).2.1 (by rw [es_35]; decide)
      have hsH := hsH0 (by rw [es_35]; decide)
      have hsp : s ≠ p := fun e => by rw [e] at hsH; omega
      rw [hf, hs]
      refine vg_aload_n C d_T_weighPattern_157 rfl ?_
      refine vg_iload_n C d_T_weighPattern_158 rfl ?_
      refine vg_iload_n C d_T_weighPattern_159 rfl ?_
      refine vg_iload C d_T_weighPattern_160 rfl ?_
      refine vg_aload_n C d_T_weighPattern_162 rfl ?_
      refine wr_get C d_T_weighPattern_163 f_T_11 rfl rfl rfl rfl ?_
      refine wr_callV (As := [_, _, _, _]) C (c_T_join Z hst ad (sL σ 110 (wpR (σ.2 110) p S)) p f s 108 (by omega) (by omega) (by omega) hsp rfl S hS hS8) l_T_weighPattern_T_join k_T_129 rfl rfl rfl rfl rfl (Nat.le_of_ble_eq_true rfl) d_T_weighPattern_166 ⟨Nat.le_of_ble_eq_true rfl, Nat.le_of_ble_eq_true rfl⟩ (fun v_166 w_166 h_166 => ?_)
      obtain ⟨rfl, R9, hJ, rfl⟩ := h_166
      rw [sL_ne _ (by decide), sL_at] at hJ
      rw [sL_sL]
      refine vg_goto (tgt := 267) C d_T_weighPattern_169 (by decide) ?_
      refine vg_return C hQ d_T_weighPattern_267 rfl ⟨rfl, _, ?_, rfl⟩
      first
        | exact ⟨jn1_t (wp_1 hS8) up0_j, 0, by decide, es_35, fun A z hA hz => by rw [up0_b hS8 hA, lb_1, decide_eq_true_eq]⟩
        | exact ⟨wp_1 hS8, 1, by decide, es_35, fun A z hA hz => wp_b hA⟩
        | exact ⟨jn1_t (wp_1 hS8) up0_j, 2, by decide, es_35, fun A z hA hz => up0_b hS8 hA⟩
        | exact ⟨jn1_t (wp_1 hS8) up0_j, 3, by decide, es_35, fun A z hA hz => up0_b hS8 hA⟩
        | exact ⟨jn1_t (wp_1 hS8) hJ.1, 4, by decide, es_35, f, s, by omega, by omega, hf, hs, fun A z hA hz => (JI_grp hp2 hfp (fun A z hA hz => wp_b hA) hJ hA hz).trans (GrpS_congr (fun a x ha hx => jn1_b (wp_1 hS8) hfp (by omega)) (fun a x ha hx => jn1_b (wp_1 hS8) hsp (by omega)))⟩
        | exact ⟨jn1_t (wp_1 hS8) hJ.1, 5, by decide, es_35, f, s, by omega, by omega, hf, hs, fun A z hA hz => (JI_grp hp2 hfp (fun A z hA hz => wp_b hA) hJ hA hz).trans (GrpS_congr (fun a x ha hx => jn1_b (wp_1 hS8) hfp (by omega)) (fun a x ha hx => jn1_b (wp_1 hS8) hsp (by omega)))⟩
        | exact ⟨jn1_t (wp_1 hS8) (jn1_t (ic_j hS8) (ic_j hS8)), 6, by decide, es_35, f, s, by omega, by omega, hf, hs, fun A z hA hz => by rw [ic_b hA, ic_b hA, wp_b hA, jn1_b (ic_j hS8) hsp (by omega), jn1_b (wp_1 hS8) hsp (by omega), jn1_b (wp_1 hS8) hfp (by omega), false_or]⟩
        | (obtain ⟨y1, y2⟩ := JI_more hp2 hfp (fun A z hA hz => by rw [ic_b hA, wp_b hA, false_or, jn1_b (ic_j hS8) hfp (by omega)]) hJ
           have hff : ∀ a x, a < S → x < 64 → (Rb (icR (wpR (σ.2 110) p S) p f S) f a x ↔ Rb (σ.2 110) f a x) := fun a x ha hx => by rw [jn1_b (ic_j hS8) hfp (by omega), jn1_b (wp_1 hS8) hfp (by omega)]
           exact ⟨jn1_t (wp_1 hS8) (jn1_t (ic_j hS8) hJ.1), 7, by decide, es_35, f, by omega, hf, fun A z hA hz h => y1 A z hA hz (h.imp (hff A z hA hz).mpr (GrpS_congr (fun _ _ _ _ => Iff.rfl) hff).mpr), fun D hD => y2 D (fun A z hA hz h => hD A z hA hz (h.imp (hff A z hA hz).mp (GrpS_congr (fun _ _ _ _ => Iff.rfl) hff).mp))⟩)
        | exact ⟨jn1_t (wp_1 hS8) up0_j, 8, by decide, es_35, s, by omega, hs, fun A z hA hz => up0_b hS8 hA⟩
        | exact ⟨jn1_t (wp_1 hS8) (mA_bit na hn3).1, 9, by decide, es_35, s, by omega, hs, fun A z hA hz => by
            rw [(mA_bit na hn3).2 A z (by omega), wp_b hA, and_false, or_false]
            exact ⟨fun h => ⟨h.2, h.1⟩, fun h => ⟨h.2, h.1⟩⟩⟩
        | exact ⟨wp_1 hS8, 10, by decide, es_35, dd, hd4, hfd, Or.inl ⟨c_247, fun A z hA hz => wp_b hA⟩⟩
        | exact ⟨jn1_t (wp_1 hS8) (ic_j hS8), 10, by decide, es_35, dd, hd4, hfd, Or.inr ⟨c, by omega, hgc, fun A z hA hz => by rw [ic_b hA, wp_b hA, false_or, jn1_b (wp_1 hS8) hcp (by omega)]⟩⟩
        | (exfalso; obtain ⟨kn, h1, h2⟩ := hkn; rw [h2, nI_toInt (by omega)] at hs_35; omega)
    · skip
      rw [es_35]
      refine vg_tabIn (tgt := 172) C d_T_weighPattern_35 (by decide) (by decide) rfl (by decide) ?_
      obtain ⟨f, hfn, hf, hfH⟩ := (hW.2 p hp).1 (by rw [es_35]; decide)
      have hfp : f ≠ p := fun e => by rw [e] at hfH; omega
      obtain ⟨s, hsn, hs, hsH0⟩ := (hW.2 p hp).2.1 (by rw [es_35]; decide)
      have hsH := hsH0 (by rw [es_35]; decide)
      have hsp : s ≠ p := fun e => by rw [e] at hsH; omega
      rw [hf, hs]
      refine vg_aload_n C d_T_weighPattern_172 rfl ?_
      refine vg_iload_n C d_T_weighPattern_173 rfl ?_
      refine vg_iload_n C d_T_weighPattern_174 rfl ?_
      refine wr_callV (As := [_, _]) C (c_T_include Z hst ad (sL σ 110 (wpR (σ.2 110) p S)) p f (by omega) (by omega) S hS hS8) l_T_weighPattern_T_include k_T_133 rfl rfl rfl rfl rfl (Nat.le_of_ble_eq_true rfl) d_T_weighPattern_175 ⟨Nat.le_of_ble_eq_true rfl, Nat.le_of_ble_eq_true rfl⟩ (fun v_175 w_175 h_175 => ?_)
      obtain ⟨rfl, rfl⟩ := h_175
      rw [sL_sL, sL_at]
      refine vg_aload_n C d_T_weighPattern_178 rfl ?_
      refine vg_iload_n C d_T_weighPattern_179 rfl ?_
      refine vg_iload C d_T_weighPattern_180 rfl ?_
      refine wr_callV (As := [_, _]) C (c_T_include Z hst ad _ p s (by omega) (by omega) S hS hS8) l_T_weighPattern_T_include k_T_133 rfl rfl rfl rfl rfl (Nat.le_of_ble_eq_true rfl) d_T_weighPattern_182 ⟨Nat.le_of_ble_eq_true rfl, Nat.le_of_ble_eq_true rfl⟩ (fun v_182 w_182 h_182 => ?_)
      obtain ⟨rfl, rfl⟩ := h_182
      rw [sL_sL, sL_at]
      refine vg_goto (tgt := 267) C d_T_weighPattern_185 (by decide) ?_
      refine vg_return C hQ d_T_weighPattern_267 rfl ⟨rfl, _, ?_, rfl⟩
      first
        | exact ⟨jn1_t (wp_1 hS8) up0_j, 0, by decide, es_35, fun A z hA hz => by rw [up0_b hS8 hA, lb_1, decide_eq_true_eq]⟩
        | exact ⟨wp_1 hS8, 1, by decide, es_35, fun A z hA hz => wp_b hA⟩
        | exact ⟨jn1_t (wp_1 hS8) up0_j, 2, by decide, es_35, fun A z hA hz => up0_b hS8 hA⟩
        | exact ⟨jn1_t (wp_1 hS8) up0_j, 3, by decide, es_35, fun A z hA hz => up0_b hS8 hA⟩
        | exact ⟨jn1_t (wp_1 hS8) hJ.1, 4, by decide, es_35, f, s, by omega, by omega, hf, hs, fun A z hA hz => (JI_grp hp2 hfp (fun A z hA hz => wp_b hA) hJ hA hz).trans (GrpS_congr (fun a x ha hx => jn1_b (wp_1 hS8) hfp (by omega)) (fun a x ha hx => jn1_b (wp_1 hS8) hsp (by omega)))⟩
        | exact ⟨jn1_t (wp_1 hS8) hJ.1, 5, by decide, es_35, f, s, by omega, by omega, hf, hs, fun A z hA hz => (JI_grp hp2 hfp (fun A z hA hz => wp_b hA) hJ hA hz).trans (GrpS_congr (fun a x ha hx => jn1_b (wp_1 hS8) hfp (by omega)) (fun a x ha hx => jn1_b (wp_1 hS8) hsp (by omega)))⟩
        | exact ⟨jn1_t (wp_1 hS8) (jn1_t (ic_j hS8) (ic_j hS8)), 6, by decide, es_35, f, s, by omega, by omega, hf, hs, fun A z hA hz => by rw [ic_b hA, ic_b hA, wp_b hA, jn1_b (ic_j hS8) hsp (by omega), jn1_b (wp_1 hS8) hsp (by omega), jn1_b (wp_1 hS8) hfp (by omega), false_or]⟩
        | (obtain ⟨y1, y2⟩ := JI_more hp2 hfp (fun A z hA hz => by rw [ic_b hA, wp_b hA, false_or, jn1_b (ic_j hS8) hfp (by omega)]) hJ
           have hff : ∀ a x, a < S → x < 64 → (Rb (icR (wpR (σ.2 110) p S) p f S) f a x ↔ Rb (σ.2 110) f a x) := fun a x ha hx => by rw [jn1_b (ic_j hS8) hfp (by omega), jn1_b (wp_1 hS8) hfp (by omega)]
           exact ⟨jn1_t (wp_1 hS8) (jn1_t (ic_j hS8) hJ.1), 7, by decide, es_35, f, by omega, hf, fun A z hA hz h => y1 A z hA hz (h.imp (hff A z hA hz).mpr (GrpS_congr (fun _ _ _ _ => Iff.rfl) hff).mpr), fun D hD => y2 D (fun A z hA hz h => hD A z hA hz (h.imp (hff A z hA hz).mp (GrpS_congr (fun _ _ _ _ => Iff.rfl) hff).mp))⟩)
        | exact ⟨jn1_t (wp_1 hS8) up0_j, 8, by decide, es_35, s, by omega, hs, fun A z hA hz => up0_b hS8 hA⟩
        | exact ⟨jn1_t (wp_1 hS8) (mA_bit na hn3).1, 9, by decide, es_35, s, by omega, hs, fun A z hA hz => by
            rw [(mA_bit na hn3).2 A z (by omega), wp_b hA, and_false, or_false]
            exact ⟨fun h => ⟨h.2, h.1⟩, fun h => ⟨h.2, h.1⟩⟩⟩
        | exact ⟨wp_1 hS8, 10, by decide, es_35, dd, hd4, hfd, Or.inl ⟨c_247, fun A z hA hz => wp_b hA⟩⟩
        | exact ⟨jn1_t (wp_1 hS8) (ic_j hS8), 10, by decide, es_35, dd, hd4, hfd, Or.inr ⟨c, by omega, hgc, fun A z hA hz => by rw [ic_b hA, wp_b hA, false_or, jn1_b (wp_1 hS8) hcp (by omega)]⟩⟩
        | (exfalso; obtain ⟨kn, h1, h2⟩ := hkn; rw [h2, nI_toInt (by omega)] at hs_35; omega)
    · skip
      rw [es_35]
      refine vg_tabIn (tgt := 188) C d_T_weighPattern_35 (by decide) (by decide) rfl (by decide) ?_
      obtain ⟨f, hfn, hf, hfH⟩ := (hW.2 p hp).1 (by rw [es_35]; decide)
      have hfp : f ≠ p := fun e => by rw [e] at hfH; omega
      rw [hf]
      refine vg_aload_n C d_T_weighPattern_188 rfl ?_
      refine vg_iload_n C d_T_weighPattern_189 rfl ?_
      refine vg_iload_n C d_T_weighPattern_190 rfl ?_
      refine wr_callV (As := [_, _]) C (c_T_include Z hst ad (sL σ 110 (wpR (σ.2 110) p S)) p f (by omega) (by omega) S hS hS8) l_T_weighPattern_T_include k_T_133 rfl rfl rfl rfl rfl (Nat.le_of_ble_eq_true rfl) d_T_weighPattern_191 ⟨Nat.le_of_ble_eq_true rfl, Nat.le_of_ble_eq_true rfl⟩ (fun v_191 w_191 h_191 => ?_)
      obtain ⟨rfl, rfl⟩ := h_191
      rw [sL_sL, sL_at]
      refine vg_aload_n C d_T_weighPattern_194 rfl ?_
      refine vg_iload_n C d_T_weighPattern_195 rfl ?_
      refine vg_iload_n C d_T_weighPattern_196 rfl ?_
      refine vg_iload_n C d_T_weighPattern_197 rfl ?_
      refine vg_aload_n C d_T_weighPattern_198 rfl ?_
      refine wr_get C d_T_weighPattern_199 f_T_15 rfl rfl rfl rfl ?_
      refine wr_callV (As := [_, _, _, _]) C (c_T_join Z hst ad _ p p f 109 (by omega) (by omega) (by omega) hfp rfl S hS hS8) l_T_weighPattern_T_join k_T_129 rfl rfl rfl rfl rfl (Nat.le_of_ble_eq_true rfl) d_T_weighPattern_202 ⟨Nat.le_of_ble_eq_true rfl, Nat.le_of_ble_eq_true rfl⟩ (fun v_202 w_202 h_202 => ?_)
      obtain ⟨rfl, R9, hJ, rfl⟩ := h_202
      rw [sL_ne _ (by decide), sL_at] at hJ
      rw [sL_sL]
      refine vg_goto (tgt := 267) C d_T_weighPattern_205 (by decide) ?_
      refine vg_return C hQ d_T_weighPattern_267 rfl ⟨rfl, _, ?_, rfl⟩
      first
        | exact ⟨jn1_t (wp_1 hS8) up0_j, 0, by decide, es_35, fun A z hA hz => by rw [up0_b hS8 hA, lb_1, decide_eq_true_eq]⟩
        | exact ⟨wp_1 hS8, 1, by decide, es_35, fun A z hA hz => wp_b hA⟩
        | exact ⟨jn1_t (wp_1 hS8) up0_j, 2, by decide, es_35, fun A z hA hz => up0_b hS8 hA⟩
        | exact ⟨jn1_t (wp_1 hS8) up0_j, 3, by decide, es_35, fun A z hA hz => up0_b hS8 hA⟩
        | exact ⟨jn1_t (wp_1 hS8) hJ.1, 4, by decide, es_35, f, s, by omega, by omega, hf, hs, fun A z hA hz => (JI_grp hp2 hfp (fun A z hA hz => wp_b hA) hJ hA hz).trans (GrpS_congr (fun a x ha hx => jn1_b (wp_1 hS8) hfp (by omega)) (fun a x ha hx => jn1_b (wp_1 hS8) hsp (by omega)))⟩
        | exact ⟨jn1_t (wp_1 hS8) hJ.1, 5, by decide, es_35, f, s, by omega, by omega, hf, hs, fun A z hA hz => (JI_grp hp2 hfp (fun A z hA hz => wp_b hA) hJ hA hz).trans (GrpS_congr (fun a x ha hx => jn1_b (wp_1 hS8) hfp (by omega)) (fun a x ha hx => jn1_b (wp_1 hS8) hsp (by omega)))⟩
        | exact ⟨jn1_t (wp_1 hS8) (jn1_t (ic_j hS8) (ic_j hS8)), 6, by decide, es_35, f, s, by omega, by omega, hf, hs, fun A z hA hz => by rw [ic_b hA, ic_b hA, wp_b hA, jn1_b (ic_j hS8) hsp (by omega), jn1_b (wp_1 hS8) hsp (by omega), jn1_b (wp_1 hS8) hfp (by omega), false_or]⟩
        | (obtain ⟨y1, y2⟩ := JI_more hp2 hfp (fun A z hA hz => by rw [ic_b hA, wp_b hA, false_or, jn1_b (ic_j hS8) hfp (by omega)]) hJ
           have hff : ∀ a x, a < S → x < 64 → (Rb (icR (wpR (σ.2 110) p S) p f S) f a x ↔ Rb (σ.2 110) f a x) := fun a x ha hx => by rw [jn1_b (ic_j hS8) hfp (by omega), jn1_b (wp_1 hS8) hfp (by omega)]
           exact ⟨jn1_t (wp_1 hS8) (jn1_t (ic_j hS8) hJ.1), 7, by decide, es_35, f, by omega, hf, fun A z hA hz h => y1 A z hA hz (h.imp (hff A z hA hz).mpr (GrpS_congr (fun _ _ _ _ => Iff.rfl) hff).mpr), fun D hD => y2 D (fun A z hA hz h => hD A z hA hz (h.imp (hff A z hA hz).mp (GrpS_congr (fun _ _ _ _ => Iff.rfl) hff).mp))⟩)
        | exact ⟨jn1_t (wp_1 hS8) up0_j, 8, by decide, es_35, s, by omega, hs, fun A z hA hz => up0_b hS8 hA⟩
        | exact ⟨jn1_t (wp_1 hS8) (mA_bit na hn3).1, 9, by decide, es_35, s, by omega, hs, fun A z hA hz => by
            rw [(mA_bit na hn3).2 A z (by omega), wp_b hA, and_false, or_false]
            exact ⟨fun h => ⟨h.2, h.1⟩, fun h => ⟨h.2, h.1⟩⟩⟩
        | exact ⟨wp_1 hS8, 10, by decide, es_35, dd, hd4, hfd, Or.inl ⟨c_247, fun A z hA hz => wp_b hA⟩⟩
        | exact ⟨jn1_t (wp_1 hS8) (ic_j hS8), 10, by decide, es_35, dd, hd4, hfd, Or.inr ⟨c, by omega, hgc, fun A z hA hz => by rw [ic_b hA, wp_b hA, false_or, jn1_b (wp_1 hS8) hcp (by omega)]⟩⟩
        | (exfalso; obtain ⟨kn, h1, h2⟩ := hkn; rw [h2, nI_toInt (by omega)] at hs_35; omega)
    · skip
      rw [es_35]
      refine vg_tabIn (tgt := 208) C d_T_weighPattern_35 (by decide) (by decide) rfl (by decide) ?_
      obtain ⟨s, hsn, hs, -⟩ := (hW.2 p hp).2.1 (by rw [es_35]; decide)
      rw [hs]
      refine vg_aload_n C d_T_weighPattern_208 rfl ?_
      refine wr_get C d_T_weighPattern_209 f_T_18 rfl rfl rfl rfl ?_
      refine vg_iload_n C d_T_weighPattern_212 rfl ?_
      refine vg_bipush (v := 8) C d_T_weighPattern_213 (by decide) ?_
      refine vg_imul C d_T_weighPattern_215 ?_
      rw [show (8 : Int32) = nI 8 from rfl, pk_mul]
      refine vg_aload_n C d_T_weighPattern_216 rfl ?_
      refine vg_aload_n C d_T_weighPattern_217 rfl ?_
      refine vg_iload_n C d_T_weighPattern_218 rfl ?_
      refine vg_iload C d_T_weighPattern_219 rfl ?_
      refine wr_callV (As := [_, _, _]) C (c_T_rowsOfOneElement Z hst ad (sL σ 110 (wpR (σ.2 110) p S)) (σ.1 3 p) s (by omega) k hk nc hc hc6 cd hcd) l_T_weighPattern_T_rowsOfOneElement k_T_136 rfl rfl rfl rfl rfl (Nat.le_of_ble_eq_true rfl) d_T_weighPattern_221 ⟨Nat.le_of_ble_eq_true rfl, Nat.le_of_ble_eq_true rfl⟩ (fun v_221 w_221 h_221 => ?_)
      obtain ⟨rfl, rfl⟩ := h_221
      rw [rO_congr (q' := kQE σ cd p s) nc (fun i hi => kQE_iff hcd hi)]
      refine wr_last C d_T_weighPattern_224 rfl rfl (by exact vp_in_nI (by omega) (by decide)) ?_
      rw [nI_clamp (by omega), sL_sL, sL_at]
      refine vg_goto (tgt := 267) C d_T_weighPattern_225 (by decide) ?_
      refine vg_return C hQ d_T_weighPattern_267 rfl ⟨rfl, _, ?_, rfl⟩
      first
        | exact ⟨jn1_t (wp_1 hS8) up0_j, 0, by decide, es_35, fun A z hA hz => by rw [up0_b hS8 hA, lb_1, decide_eq_true_eq]⟩
        | exact ⟨wp_1 hS8, 1, by decide, es_35, fun A z hA hz => wp_b hA⟩
        | exact ⟨jn1_t (wp_1 hS8) up0_j, 2, by decide, es_35, fun A z hA hz => up0_b hS8 hA⟩
        | exact ⟨jn1_t (wp_1 hS8) up0_j, 3, by decide, es_35, fun A z hA hz => up0_b hS8 hA⟩
        | exact ⟨jn1_t (wp_1 hS8) hJ.1, 4, by decide, es_35, f, s, by omega, by omega, hf, hs, fun A z hA hz => (JI_grp hp2 hfp (fun A z hA hz => wp_b hA) hJ hA hz).trans (GrpS_congr (fun a x ha hx => jn1_b (wp_1 hS8) hfp (by omega)) (fun a x ha hx => jn1_b (wp_1 hS8) hsp (by omega)))⟩
        | exact ⟨jn1_t (wp_1 hS8) hJ.1, 5, by decide, es_35, f, s, by omega, by omega, hf, hs, fun A z hA hz => (JI_grp hp2 hfp (fun A z hA hz => wp_b hA) hJ hA hz).trans (GrpS_congr (fun a x ha hx => jn1_b (wp_1 hS8) hfp (by omega)) (fun a x ha hx => jn1_b (wp_1 hS8) hsp (by omega)))⟩
        | exact ⟨jn1_t (wp_1 hS8) (jn1_t (ic_j hS8) (ic_j hS8)), 6, by decide, es_35, f, s, by omega, by omega, hf, hs, fun A z hA hz => by rw [ic_b hA, ic_b hA, wp_b hA, jn1_b (ic_j hS8) hsp (by omega), jn1_b (wp_1 hS8) hsp (by omega), jn1_b (wp_1 hS8) hfp (by omega), false_or]⟩
        | (obtain ⟨y1, y2⟩ := JI_more hp2 hfp (fun A z hA hz => by rw [ic_b hA, wp_b hA, false_or, jn1_b (ic_j hS8) hfp (by omega)]) hJ
           have hff : ∀ a x, a < S → x < 64 → (Rb (icR (wpR (σ.2 110) p S) p f S) f a x ↔ Rb (σ.2 110) f a x) := fun a x ha hx => by rw [jn1_b (ic_j hS8) hfp (by omega), jn1_b (wp_1 hS8) hfp (by omega)]
           exact ⟨jn1_t (wp_1 hS8) (jn1_t (ic_j hS8) hJ.1), 7, by decide, es_35, f, by omega, hf, fun A z hA hz h => y1 A z hA hz (h.imp (hff A z hA hz).mpr (GrpS_congr (fun _ _ _ _ => Iff.rfl) hff).mpr), fun D hD => y2 D (fun A z hA hz h => hD A z hA hz (h.imp (hff A z hA hz).mp (GrpS_congr (fun _ _ _ _ => Iff.rfl) hff).mp))⟩)
        | exact ⟨jn1_t (wp_1 hS8) up0_j, 8, by decide, es_35, s, by omega, hs, fun A z hA hz => up0_b hS8 hA⟩
        | exact ⟨jn1_t (wp_1 hS8) (mA_bit na hn3).1, 9, by decide, es_35, s, by omega, hs, fun A z hA hz => by
            rw [(mA_bit na hn3).2 A z (by omega), wp_b hA, and_false, or_false]
            exact ⟨fun h => ⟨h.2, h.1⟩, fun h => ⟨h.2, h.1⟩⟩⟩
        | exact ⟨wp_1 hS8, 10, by decide, es_35, dd, hd4, hfd, Or.inl ⟨c_247, fun A z hA hz => wp_b hA⟩⟩
        | exact ⟨jn1_t (wp_1 hS8) (ic_j hS8), 10, by decide, es_35, dd, hd4, hfd, Or.inr ⟨c, by omega, hgc, fun A z hA hz => by rw [ic_b hA, wp_b hA, false_or, jn1_b (wp_1 hS8) hcp (by omega)]⟩⟩
        | (exfalso; obtain ⟨kn, h1, h2⟩ := hkn; rw [h2, nI_toInt (by omega)] at hs_35; omega)
    · skip
      rw [es_35]
      refine vg_tabIn (tgt := 228) C d_T_weighPattern_35 (by decide) (by decide) rfl (by decide) ?_
      obtain ⟨s, hsn, hs, -⟩ := (hW.2 p hp).2.1 (by rw [es_35]; decide)
      refine vg_aload_n C d_T_weighPattern_228 rfl ?_
      refine vg_iload_n C d_T_weighPattern_229 rfl ?_
      refine vg_aload_n C d_T_weighPattern_230 rfl ?_
      refine wr_callV (As := [_, _]) C (c_T_matchAttributes Z hst ad (sL σ 110 (wpR (σ.2 110) p S)) k hk na hna hn3 p (by omega) s hs (by omega)) l_T_weighPattern_T_matchAttributes k_T_139 rfl rfl rfl rfl rfl (Nat.le_of_ble_eq_true rfl) d_T_weighPattern_231 ⟨Nat.le_of_ble_eq_true rfl, Nat.le_of_ble_eq_true rfl⟩ (fun v_231 w_231 h_231 => ?_)
      obtain ⟨rfl, rfl⟩ := h_231
      rw [sL_sL, sL_at, sL_ne _ (kd_ne (nd_3 hk) (y := 12) rfl (by decide))]
      refine vg_goto (tgt := 267) C d_T_weighPattern_234 (by decide) ?_
      refine vg_return C hQ d_T_weighPattern_267 rfl ⟨rfl, _, ?_, rfl⟩
      first
        | exact ⟨jn1_t (wp_1 hS8) up0_j, 0, by decide, es_35, fun A z hA hz => by rw [up0_b hS8 hA, lb_1, decide_eq_true_eq]⟩
        | exact ⟨wp_1 hS8, 1, by decide, es_35, fun A z hA hz => wp_b hA⟩
        | exact ⟨jn1_t (wp_1 hS8) up0_j, 2, by decide, es_35, fun A z hA hz => up0_b hS8 hA⟩
        | exact ⟨jn1_t (wp_1 hS8) up0_j, 3, by decide, es_35, fun A z hA hz => up0_b hS8 hA⟩
        | exact ⟨jn1_t (wp_1 hS8) hJ.1, 4, by decide, es_35, f, s, by omega, by omega, hf, hs, fun A z hA hz => (JI_grp hp2 hfp (fun A z hA hz => wp_b hA) hJ hA hz).trans (GrpS_congr (fun a x ha hx => jn1_b (wp_1 hS8) hfp (by omega)) (fun a x ha hx => jn1_b (wp_1 hS8) hsp (by omega)))⟩
        | exact ⟨jn1_t (wp_1 hS8) hJ.1, 5, by decide, es_35, f, s, by omega, by omega, hf, hs, fun A z hA hz => (JI_grp hp2 hfp (fun A z hA hz => wp_b hA) hJ hA hz).trans (GrpS_congr (fun a x ha hx => jn1_b (wp_1 hS8) hfp (by omega)) (fun a x ha hx => jn1_b (wp_1 hS8) hsp (by omega)))⟩
        | exact ⟨jn1_t (wp_1 hS8) (jn1_t (ic_j hS8) (ic_j hS8)), 6, by decide, es_35, f, s, by omega, by omega, hf, hs, fun A z hA hz => by rw [ic_b hA, ic_b hA, wp_b hA, jn1_b (ic_j hS8) hsp (by omega), jn1_b (wp_1 hS8) hsp (by omega), jn1_b (wp_1 hS8) hfp (by omega), false_or]⟩
        | (obtain ⟨y1, y2⟩ := JI_more hp2 hfp (fun A z hA hz => by rw [ic_b hA, wp_b hA, false_or, jn1_b (ic_j hS8) hfp (by omega)]) hJ
           have hff : ∀ a x, a < S → x < 64 → (Rb (icR (wpR (σ.2 110) p S) p f S) f a x ↔ Rb (σ.2 110) f a x) := fun a x ha hx => by rw [jn1_b (ic_j hS8) hfp (by omega), jn1_b (wp_1 hS8) hfp (by omega)]
           exact ⟨jn1_t (wp_1 hS8) (jn1_t (ic_j hS8) hJ.1), 7, by decide, es_35, f, by omega, hf, fun A z hA hz h => y1 A z hA hz (h.imp (hff A z hA hz).mpr (GrpS_congr (fun _ _ _ _ => Iff.rfl) hff).mpr), fun D hD => y2 D (fun A z hA hz h => hD A z hA hz (h.imp (hff A z hA hz).mp (GrpS_congr (fun _ _ _ _ => Iff.rfl) hff).mp))⟩)
        | exact ⟨jn1_t (wp_1 hS8) up0_j, 8, by decide, es_35, s, by omega, hs, fun A z hA hz => up0_b hS8 hA⟩
        | exact ⟨jn1_t (wp_1 hS8) (mA_bit na hn3).1, 9, by decide, es_35, s, by omega, hs, fun A z hA hz => by
            rw [(mA_bit na hn3).2 A z (by omega), wp_b hA, and_false, or_false]
            exact ⟨fun h => ⟨h.2, h.1⟩, fun h => ⟨h.2, h.1⟩⟩⟩
        | exact ⟨wp_1 hS8, 10, by decide, es_35, dd, hd4, hfd, Or.inl ⟨c_247, fun A z hA hz => wp_b hA⟩⟩
        | exact ⟨jn1_t (wp_1 hS8) (ic_j hS8), 10, by decide, es_35, dd, hd4, hfd, Or.inr ⟨c, by omega, hgc, fun A z hA hz => by rw [ic_b hA, wp_b hA, false_or, jn1_b (wp_1 hS8) hcp (by omega)]⟩⟩
        | (exfalso; obtain ⟨kn, h1, h2⟩ := hkn; rw [h2, nI_toInt (by omega)] at hs_35; omega)
    · skip
      rw [es_35]
      refine vg_tabIn (tgt := 237) C d_T_weighPattern_35 (by decide) (by decide) rfl (by decide) ?_
      obtain ⟨dd, hd4, hfd, hgd⟩ := (hW.2 p hp).2.2 (by rw [es_35]; rfl)
      rw [hfd]
      refine vg_aload_n C d_T_weighPattern_237 rfl ?_
      refine wr_get C d_T_weighPattern_238 f_T_28 rfl rfl rfl rfl ?_
      refine wr_get C d_T_weighPattern_241 f_T_142 rfl rfl rfl rfl ?_
      refine vg_iload_n C d_T_weighPattern_244 rfl ?_
      refine wr_iald C d_T_weighPattern_245 rfl rfl (by exact vp_in_nI hd4 (by decide)) ?_
      rw [nI_clamp (by omega), sL_1]
      refine vg_iconst (v := (-1)) C d_T_weighPattern_246 (by decide) ?_
      refine vg_icmp_eq (tgt := 267) C d_T_weighPattern_247 (by decide) (fun c_247 => ?_) (fun c_247 => ?_)
      · skip
        refine vg_return C hQ d_T_weighPattern_267 rfl ⟨rfl, _, ?_, rfl⟩
        first
          | exact ⟨jn1_t (wp_1 hS8) up0_j, 0, by decide, es_35, fun A z hA hz => by rw [up0_b hS8 hA, lb_1, decide_eq_true_eq]⟩
          | exact ⟨wp_1 hS8, 1, by decide, es_35, fun A z hA hz => wp_b hA⟩
          | exact ⟨jn1_t (wp_1 hS8) up0_j, 2, by decide, es_35, fun A z hA hz => up0_b hS8 hA⟩
          | exact ⟨jn1_t (wp_1 hS8) up0_j, 3, by decide, es_35, fun A z hA hz => up0_b hS8 hA⟩
          | exact ⟨jn1_t (wp_1 hS8) hJ.1, 4, by decide, es_35, f, s, by omega, by omega, hf, hs, fun A z hA hz => (JI_grp hp2 hfp (fun A z hA hz => wp_b hA) hJ hA hz).trans (GrpS_congr (fun a x ha hx => jn1_b (wp_1 hS8) hfp (by omega)) (fun a x ha hx => jn1_b (wp_1 hS8) hsp (by omega)))⟩
          | exact ⟨jn1_t (wp_1 hS8) hJ.1, 5, by decide, es_35, f, s, by omega, by omega, hf, hs, fun A z hA hz => (JI_grp hp2 hfp (fun A z hA hz => wp_b hA) hJ hA hz).trans (GrpS_congr (fun a x ha hx => jn1_b (wp_1 hS8) hfp (by omega)) (fun a x ha hx => jn1_b (wp_1 hS8) hsp (by omega)))⟩
          | exact ⟨jn1_t (wp_1 hS8) (jn1_t (ic_j hS8) (ic_j hS8)), 6, by decide, es_35, f, s, by omega, by omega, hf, hs, fun A z hA hz => by rw [ic_b hA, ic_b hA, wp_b hA, jn1_b (ic_j hS8) hsp (by omega), jn1_b (wp_1 hS8) hsp (by omega), jn1_b (wp_1 hS8) hfp (by omega), false_or]⟩
          | (obtain ⟨y1, y2⟩ := JI_more hp2 hfp (fun A z hA hz => by rw [ic_b hA, wp_b hA, false_or, jn1_b (ic_j hS8) hfp (by omega)]) hJ
             have hff : ∀ a x, a < S → x < 64 → (Rb (icR (wpR (σ.2 110) p S) p f S) f a x ↔ Rb (σ.2 110) f a x) := fun a x ha hx => by rw [jn1_b (ic_j hS8) hfp (by omega), jn1_b (wp_1 hS8) hfp (by omega)]
             exact ⟨jn1_t (wp_1 hS8) (jn1_t (ic_j hS8) hJ.1), 7, by decide, es_35, f, by omega, hf, fun A z hA hz h => y1 A z hA hz (h.imp (hff A z hA hz).mpr (GrpS_congr (fun _ _ _ _ => Iff.rfl) hff).mpr), fun D hD => y2 D (fun A z hA hz h => hD A z hA hz (h.imp (hff A z hA hz).mp (GrpS_congr (fun _ _ _ _ => Iff.rfl) hff).mp))⟩)
          | exact ⟨jn1_t (wp_1 hS8) up0_j, 8, by decide, es_35, s, by omega, hs, fun A z hA hz => up0_b hS8 hA⟩
          | exact ⟨jn1_t (wp_1 hS8) (mA_bit na hn3).1, 9, by decide, es_35, s, by omega, hs, fun A z hA hz => by
              rw [(mA_bit na hn3).2 A z (by omega), wp_b hA, and_false, or_false]
              exact ⟨fun h => ⟨h.2, h.1⟩, fun h => ⟨h.2, h.1⟩⟩⟩
          | exact ⟨wp_1 hS8, 10, by decide, es_35, dd, hd4, hfd, Or.inl ⟨c_247, fun A z hA hz => wp_b hA⟩⟩
          | exact ⟨jn1_t (wp_1 hS8) (ic_j hS8), 10, by decide, es_35, dd, hd4, hfd, Or.inr ⟨c, by omega, hgc, fun A z hA hz => by rw [ic_b hA, wp_b hA, false_or, jn1_b (wp_1 hS8) hcp (by omega)]⟩⟩
          | (exfalso; obtain ⟨kn, h1, h2⟩ := hkn; rw [h2, nI_toInt (by omega)] at hs_35; omega)
      · skip
        obtain ⟨c, hc9, hgc, hcH⟩ := hgd.resolve_left c_247
        have hcp : c ≠ p := fun e => by rw [e] at hcH; omega
        refine vg_aload_n C d_T_weighPattern_250 rfl ?_
        refine vg_iload_n C d_T_weighPattern_251 rfl ?_
        refine vg_aload_n C d_T_weighPattern_252 rfl ?_
        refine wr_get C d_T_weighPattern_253 f_T_28 rfl rfl rfl rfl ?_
        refine wr_get C d_T_weighPattern_256 f_T_142 rfl rfl rfl rfl ?_
        refine vg_iload_n C d_T_weighPattern_259 rfl ?_
        refine wr_iald C d_T_weighPattern_260 rfl rfl (by exact vp_in_nI hd4 (by decide)) ?_
        rw [nI_clamp (by omega), sL_1, hgc]
        refine wr_callV (As := [_, _]) C (c_T_include Z hst ad (sL σ 110 (wpR (σ.2 110) p S)) p c (by omega) (by omega) S hS hS8) l_T_weighPattern_T_include k_T_133 rfl rfl rfl rfl rfl (Nat.le_of_ble_eq_true rfl) d_T_weighPattern_261 ⟨Nat.le_of_ble_eq_true rfl, Nat.le_of_ble_eq_true rfl⟩ (fun v_261 w_261 h_261 => ?_)
        obtain ⟨rfl, rfl⟩ := h_261
        rw [sL_sL, sL_at]
        refine vg_goto (tgt := 267) C d_T_weighPattern_264 (by decide) ?_
        refine vg_return C hQ d_T_weighPattern_267 rfl ⟨rfl, _, ?_, rfl⟩
        first
          | exact ⟨jn1_t (wp_1 hS8) up0_j, 0, by decide, es_35, fun A z hA hz => by rw [up0_b hS8 hA, lb_1, decide_eq_true_eq]⟩
          | exact ⟨wp_1 hS8, 1, by decide, es_35, fun A z hA hz => wp_b hA⟩
          | exact ⟨jn1_t (wp_1 hS8) up0_j, 2, by decide, es_35, fun A z hA hz => up0_b hS8 hA⟩
          | exact ⟨jn1_t (wp_1 hS8) up0_j, 3, by decide, es_35, fun A z hA hz => up0_b hS8 hA⟩
          | exact ⟨jn1_t (wp_1 hS8) hJ.1, 4, by decide, es_35, f, s, by omega, by omega, hf, hs, fun A z hA hz => (JI_grp hp2 hfp (fun A z hA hz => wp_b hA) hJ hA hz).trans (GrpS_congr (fun a x ha hx => jn1_b (wp_1 hS8) hfp (by omega)) (fun a x ha hx => jn1_b (wp_1 hS8) hsp (by omega)))⟩
          | exact ⟨jn1_t (wp_1 hS8) hJ.1, 5, by decide, es_35, f, s, by omega, by omega, hf, hs, fun A z hA hz => (JI_grp hp2 hfp (fun A z hA hz => wp_b hA) hJ hA hz).trans (GrpS_congr (fun a x ha hx => jn1_b (wp_1 hS8) hfp (by omega)) (fun a x ha hx => jn1_b (wp_1 hS8) hsp (by omega)))⟩
          | exact ⟨jn1_t (wp_1 hS8) (jn1_t (ic_j hS8) (ic_j hS8)), 6, by decide, es_35, f, s, by omega, by omega, hf, hs, fun A z hA hz => by rw [ic_b hA, ic_b hA, wp_b hA, jn1_b (ic_j hS8) hsp (by omega), jn1_b (wp_1 hS8) hsp (by omega), jn1_b (wp_1 hS8) hfp (by omega), false_or]⟩
          | (obtain ⟨y1, y2⟩ := JI_more hp2 hfp (fun A z hA hz => by rw [ic_b hA, wp_b hA, false_or, jn1_b (ic_j hS8) hfp (by omega)]) hJ
             have hff : ∀ a x, a < S → x < 64 → (Rb (icR (wpR (σ.2 110) p S) p f S) f a x ↔ Rb (σ.2 110) f a x) := fun a x ha hx => by rw [jn1_b (ic_j hS8) hfp (by omega), jn1_b (wp_1 hS8) hfp (by omega)]
             exact ⟨jn1_t (wp_1 hS8) (jn1_t (ic_j hS8) hJ.1), 7, by decide, es_35, f, by omega, hf, fun A z hA hz h => y1 A z hA hz (h.imp (hff A z hA hz).mpr (GrpS_congr (fun _ _ _ _ => Iff.rfl) hff).mpr), fun D hD => y2 D (fun A z hA hz h => hD A z hA hz (h.imp (hff A z hA hz).mp (GrpS_congr (fun _ _ _ _ => Iff.rfl) hff).mp))⟩)
          | exact ⟨jn1_t (wp_1 hS8) up0_j, 8, by decide, es_35, s, by omega, hs, fun A z hA hz => up0_b hS8 hA⟩
          | exact ⟨jn1_t (wp_1 hS8) (mA_bit na hn3).1, 9, by decide, es_35, s, by omega, hs, fun A z hA hz => by
              rw [(mA_bit na hn3).2 A z (by omega), wp_b hA, and_false, or_false]
              exact ⟨fun h => ⟨h.2, h.1⟩, fun h => ⟨h.2, h.1⟩⟩⟩
          | exact ⟨wp_1 hS8, 10, by decide, es_35, dd, hd4, hfd, Or.inl ⟨c_247, fun A z hA hz => wp_b hA⟩⟩
          | exact ⟨jn1_t (wp_1 hS8) (ic_j hS8), 10, by decide, es_35, dd, hd4, hfd, Or.inr ⟨c, by omega, hgc, fun A z hA hz => by rw [ic_b hA, wp_b hA, false_or, jn1_b (wp_1 hS8) hcp (by omega)]⟩⟩
          | (exfalso; obtain ⟨kn, h1, h2⟩ := hkn; rw [h2, nI_toInt (by omega)] at hs_35; omega)
