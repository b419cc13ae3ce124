/-! Matcher.weigh -/
/-- a node: na attributes, nc children -/
def Nd (σ : sg) (k na nc : Nat) (cd : Nat → Option Nat) : Prop := σ.1 k 4 = nI na ∧ na ≤ 3 ∧ σ.1 k 7 = nI nc ∧ nc ≤ 6 ∧ ∀ i, i < nc → (cd i = none ∧ σ.1 (k + 4) i = -1) ∨ ∃ t, cd i = some t ∧ t < 16 ∧ σ.1 (k + 4) i = nI t
/-- the grammar -/
def Gr (σ : sg) (n : Nat) (H : Nat → Nat) : Prop := WG (σ.1 2) (σ.1 3) (σ.1 4) (σ.1 6) n H ∧ ∀ p, p < n → ∃ kn, kn ≤ 10 ∧ σ.1 2 p = nI kn
/-- the list stands -/
def Li (σ : sg) (n p m : Nat) : Prop := LA (σ.1 2) (σ.1 3) (σ.1 4) (σ.1 6) n p (σ.1 7) m ∧ σ.1 1 7 = nI m
/-- what weighing has found -/
def WO (σ : sg) (k na nc : Nat) (cd : Nat → Option Nat) (m : Nat) (R : Nat → Int64) (sd : Int64) : Prop := (∀ i, i < m → KE σ k na nc (2 ^ na) cd (ot (σ.1 7) i) R) ∧ ∀ q, q < 64 → (lb sd q = true ↔ ∃ i, i < m ∧ ot (σ.1 7) i = q ∧ Rb R q (2 ^ na - 1) (2 ^ nc - 1))
def s_w (σ : sg) (k na : Nat) (R : Nat → Int64) (sd : Int64) : sg := sL (sL (sI σ 107 (upd (σ.1 107) 5 (nI (2 ^ na)))) 110 R) k (vp_updL (σ.2 k) 8 sd)
theorem cd_16 {σ : sg} {k na nc : Nat} {cd : Nat → Option Nat} (h : Nd σ k na nc cd) : ∀ i t, i < nc → cd i = some t → t < 16 := fun i t hi e => by
  rcases h.2.2.2.2 i hi with ⟨a, -⟩ | ⟨t2, a, b, -⟩
  · rw [a] at e; cases e
  · rw [a] at e; cases e; exact b
theorem p2_64 : ∀ nc, nc ≤ 6 → 2 ^ nc - 1 < 64 := by
  intro nc h
  rcases (show nc = 0 ∨ nc = 1 ∨ nc = 2 ∨ nc = 3 ∨ nc = 4 ∨ nc = 5 ∨ nc = 6 by omega) with rfl | rfl | rfl | rfl | rfl | rfl | rfl <;> decide
theorem WO_step {σ : sg} {k na nc n p0 m i : Nat} {H : Nat → Nat} {cd : Nat → Option Nat} {R R' : Nat → Int64} {sd sd' : Int64} (hN : Nd σ k na nc cd) (hG : Gr σ n H) (hL : Li σ n p0 m) (hi : i < m) (h : WO σ k na nc cd i R sd) (hK : KS σ k na nc (2 ^ na) cd (ot (σ.1 7) i) R R') (hs : ∀ q, q < 64 → (lb sd' q = true ↔ lb sd q = true ∨ (q = ot (σ.1 7) i ∧ Rb R' q (2 ^ na - 1) (2 ^ nc - 1)))) : WO σ k na nc cd (i + 1) R' sd' := by
  obtain ⟨⟨l1, l2, l3, -, -⟩, -⟩ := hL
  obtain ⟨hp2, hS8, hS0⟩ := p2_of na hN.2.1
  have hn := hG.1.1
  have hne : ∀ j, j < i → ot (σ.1 7) j ≠ ot (σ.1 7) i := fun j hj e => by have := l3 j i (by omega) hi e; omega
  refine ⟨lt_s (fun j hj => ?_) (KE_new hS8 hG.1 (l2 i hi).2.1 (cd_16 hN) hK), fun q hq => ?_⟩
  · refine KE_keep hS8 (cd_16 hN) hK.1 (hne j hj) (fun c hc hch e => ?_) (h.1 j hj)
    obtain ⟨j2, h1, h2⟩ := (l2 j (by omega)).2.2 c hc hch
    exact hne j2 (by omega) (h2.trans e)
  · rw [hs q hq, h.2 q hq]
    constructor
    · rintro (⟨j, h1, h2, h3⟩ | ⟨h1, h2⟩)
      · refine ⟨j, by omega, h2, (jn1_b hK.1 (by rw [← h2]; exact hne j h1) (by generalize 2 ^ na = S at hS8 ⊢; omega)).mpr h3⟩
      · exact ⟨i, by omega, h1.symm, h2⟩
    · rintro ⟨j, h1, h2, h3⟩
      rcases Nat.lt_or_ge j i with y | y
      · exact Or.inl ⟨j, y, h2, (jn1_b hK.1 (by rw [← h2]; exact hne j y) (by generalize 2 ^ na = S at hS8 ⊢; omega)).mp h3⟩
      · have e : j = i := by omega
        subst e
        exact Or.inr ⟨h2.symm, h3⟩
theorem kAg_L {σ : sg} {k : Nat} {R : Nat → Int64} (hk : wd_kl[k]? = some 6) : kAg k (sL σ 110 R) σ := by
  have h3 := kd_ne (nd_3 hk) (b := 110) (y := 12) rfl (by decide)
  exact ⟨rfl, rfl, rfl, rfl, rfl, rfl, rfl, (sL_ne _ (by decide)).symm, (sL_ne _ (by decide)).symm, (sL_ne _ h3).symm, fun t ht => ⟨rfl, by rw [sL_ne _ (kd_ne (nd_of t ht) (y := 12) rfl (by decide))]⟩⟩
theorem kAg_T {σ : sg} {k : Nat} {r : Nat → Int32} (hk : wd_kl[k]? = some 6) : kAg k (sI σ 107 r) σ := by
  have h1 := kd_ne (nd_1 hk) (b := 107) (y := 10) rfl (by decide)
  have h4 := kd_ne (nd_4 hk) (b := 107) (y := 10) rfl (by decide)
  have h5 := kd_ne (nd_5 hk) (b := 107) (y := 10) rfl (by decide)
  exact ⟨(sI_ne _ (by decide)).symm, (sI_ne _ (by decide)).symm, (sI_ne _ (by decide)).symm, (sI_ne _ (by decide)).symm, (sI_ne _ h1).symm, (sI_ne _ h4).symm, (sI_ne _ h5).symm, rfl, rfl, rfl, fun t ht => ⟨by rw [sI_ne _ (kd_ne (nd_of t ht) (y := 10) rfl (by decide))], rfl⟩⟩
theorem Nd_T {σ : sg} {k na nc : Nat} {cd : Nat → Option Nat} {r : Nat → Int32} (hk : wd_kl[k]? = some 6) (h : Nd σ k na nc cd) : Nd (sI σ 107 r) k na nc cd := by
  unfold Nd
  rw [sI_ne _ (kd_ne hk (y := 10) rfl (by decide)), sI_ne _ (kd_ne (nd_4 hk) (b := 107) (y := 10) rfl (by decide))]
  exact h
theorem Gr_T {σ : sg} {n : Nat} {H : Nat → Nat} {r : Nat → Int32} (h : Gr σ n H) : Gr (sI σ 107 r) n H := h
theorem Li_T {σ : sg} {n p m : Nat} {r : Nat → Int32} (h : Li σ n p m) : Li (sI σ 107 r) n p m := h
theorem WO_0 {σ : sg} {k na nc : Nat} {cd : Nat → Option Nat} {R : Nat → Int64} : WO σ k na nc cd 0 R 0 := ⟨fun i hi => absurd hi (by omega), fun q _ => ⟨fun h => (by rw [lb_0] at h; cases h), fun ⟨i, hi, _⟩ => absurd hi (by omega)⟩⟩
set_option maxHeartbeats 4000000 in
set_option maxRecDepth 100000 in
theorem lp_T_weigh {Z : vg_Z} (hst : vg_St Z) {G : vg_G} {post : Option Value → va_W → Prop} (C : vg_C Z M_T_weigh G) (hQ : vg_Rt Z G 0 0 post) (ad : Nat → Nat) (σ : sg) (k : Nat) (hk : wd_kl[k]? = some 6) (na nc : Nat) (cd : Nat → Option Nat) (hN : Nd σ k na nc cd) (n : Nat) (H : Nat → Nat) (hG : Gr σ n H) (p0 m : Nat) (hL : Li σ n p0 m) (hS : σ.1 107 5 = nI (2 ^ na)) (hpost : ∀ R sd, WO σ k na nc cd m R sd → post none (wd Z ad (sL (sL σ 110 R) k (vp_updL (σ.2 k) 8 sd)))) : ∀ (n2 : Nat) (i : Nat) (R : Nat → Int64) (sd : Int64) (hlt : m < i + n2) (hi : i ≤ m) , WO σ k na nc cd i R sd → vg_K Z M_T_weigh G 0 0 24 [(5, .int (nI i)), (3, .long sd), (2, .int (nI (2 ^ nc - 1))), (0, .ref (ad 107)), (1, .ref (ad k))] [] (wd Z ad (sL σ 110 R)) := by
  have hn := hG.1.1
  have hm := hL.1.1
  obtain ⟨hp2, hS8, hS0⟩ := p2_of na hN.2.1
  have hc6 := hN.2.2.2.1
  intro n2
  induction n2 with
  | zero =>
    intro i R sd hlt hi hW
    exact absurd hlt (by omega)
  | succ n2 ih =>
    intro i R sd hlt hi hW
    refine vg_iload C d_T_weigh_24 rfl ?_
    refine vg_aload_n C d_T_weigh_26 rfl ?_
    refine wr_get C d_T_weigh_27 f_T_28 rfl rfl rfl rfl ?_
    refine wr_get C d_T_weigh_30 f_T_99 rfl rfl rfl rfl ?_
    rw [sL_1, hL.2]
    refine vg_icmp_ge (tgt := 94) C d_T_weigh_33 (by decide) (fun c_33 => ?_) (fun c_33 => ?_)
    · rw [nI_leI (by omega) (by omega)] at c_33
      refine vg_aload_n C d_T_weigh_94 rfl ?_
      refine vg_lload_n C d_T_weigh_95 rfl ?_
      refine wr_putl C d_T_weigh_96 f_T_95 p_N_8 hk rfl rfl (Nat.le_of_ble_eq_true rfl) (wf_lN8 _ _ _) ?_
      exact vg_return C hQ d_T_weigh_99 rfl (by rw [sL_ne _ (kd_ne hk (y := 12) rfl (by decide))]; exact hpost R sd (by rw [show m = i by omega]; exact hW))
    · rw [nI_leI (by omega) (by omega)] at c_33
      obtain ⟨ho1, ho2, -⟩ := hL.1.2.1 i (by omega)
      generalize hpq : ot (σ.1 7) i = p at ho1 ho2
      refine vg_aload_n C d_T_weigh_36 rfl ?_
      refine wr_get C d_T_weigh_37 f_T_28 rfl rfl rfl rfl ?_
      refine wr_get C d_T_weigh_40 f_T_102 rfl rfl rfl rfl ?_
      refine vg_iload C d_T_weigh_43 rfl ?_
      refine wr_iald C d_T_weigh_45 rfl rfl (by exact vp_in_nI (by omega) (by decide)) ?_
      rw [nI_clamp (by omega), sL_1, ho1]
      refine vg_istore C d_T_weigh_46 (Nat.le_of_ble_eq_true rfl) rfl ?_
      refine vg_aload_n C d_T_weigh_48 rfl ?_
      refine vg_iload C d_T_weigh_49 rfl ?_
      refine vg_aload_n C d_T_weigh_51 rfl ?_
      refine wr_callV (As := [_, _]) C (c_T_weighPattern Z hst ad (sL σ 110 R) k hk na nc (2 ^ na) hN.1 hN.2.1 hN.2.2.1 hN.2.2.2.1 hS rfl cd hN.2.2.2.2 n H hG.1 p ho2 (hG.2 p ho2)) l_T_weigh_T_weighPattern k_T_105 rfl rfl rfl rfl rfl (Nat.le_of_ble_eq_true rfl) d_T_weigh_52 ⟨Nat.le_of_ble_eq_true rfl, Nat.le_of_ble_eq_true rfl⟩ (fun v_52 w_52 h_52 => ?_)
      obtain ⟨rfl, R9, hK9, rfl⟩ := h_52
      rw [sL_sL]
      rw [sL_at] at hK9
      have hK : KS σ k na nc (2 ^ na) cd (ot (σ.1 7) i) R R9 := by rw [hpq]; exact KS_mv (kAg_L hk) (cd_16 hN) hK9
      refine vg_aload_n C d_T_weigh_55 rfl ?_
      refine wr_get C d_T_weigh_56 f_T_18 rfl rfl rfl rfl ?_
      refine vg_iload C d_T_weigh_59 rfl ?_
      refine vg_bipush (v := 8) C d_T_weigh_61 (by decide) ?_
      refine vg_imul C d_T_weigh_63 ?_
      rw [show (8 : Int32) = nI 8 from rfl, pk_mul]
      refine vg_aload_n C d_T_weigh_64 rfl ?_
      refine wr_get C d_T_weigh_65 f_T_79 rfl rfl rfl rfl ?_
      rw [sL_1, hS]
      refine vg_iadd C d_T_weigh_68 ?_
      rw [nI_add]
      refine vg_iconst (v := 1) C d_T_weigh_69 (by decide) ?_
      refine vg_isub C d_T_weigh_70 ?_
      rw [nI_p (by omega)]
      refine wr_lald C d_T_weigh_71 rfl rfl (by exact vp_in_nI (by omega) (by decide)) ?_
      rw [nI_clamp (by omega), sL_at]
      refine vg_iload_n C d_T_weigh_72 rfl ?_
      refine vg_lushr C d_T_weigh_73 ?_
      refine vg_lconst (v := 1) C d_T_weigh_74 (by decide) ?_
      refine vg_land C d_T_weigh_75 ?_
      refine vg_lconst (v := 0) C d_T_weigh_76 (by decide) ?_
      refine vg_lcmp C d_T_weigh_77 ?_
      refine vg_if_eq (tgt := 88) C d_T_weigh_78 (by decide) (fun c_78 => ?_) (fun c_78 => ?_)
      · rw [lg_eq, lb_tst (p2_64 nc hc6)] at c_78
        skip
        refine vg_iinc (v := nI (i + 1)) C d_T_weigh_88 rfl (nI_1 i) (Nat.le_of_ble_eq_true rfl) rfl ?_
        refine vg_goto (tgt := 24) C d_T_weigh_91 (by decide) ?_
        refine vg_lv [0, 2, 3, 4, 5] rfl ?_
        first
          | (refine ih (i + 1) R9 sd (by omega) (by omega) (WO_step hN hG hL (by omega) hW hK (fun q hq => ⟨Or.inl, fun h => h.resolve_right (fun z => ?_)⟩))
             obtain ⟨z1, z2⟩ := z
             rw [z1, hpq] at z2
             unfold Rb at z2
             rw [show p * 8 + (2 ^ na - 1) = p * 8 + 2 ^ na - 1 by omega, c_78] at z2
             cases z2)
          | (refine ih (i + 1) R9 _ (by omega) (by omega) (WO_step hN hG hL (by omega) hW hK (fun q hq => ?_))
             rw [lb_or, lb_one_shl (by omega) hq, Bool.or_eq_true, decide_eq_true_eq, hpq]
             refine or_congr Iff.rfl ⟨fun z => ⟨z, ?_⟩, fun z => z.1⟩
             unfold Rb
             rw [z, show p * 8 + (2 ^ na - 1) = p * 8 + 2 ^ na - 1 by omega]
             exact ts_nf c_78)
      · rw [lg_eq, lb_tst (p2_64 nc hc6)] at c_78
        refine vg_lload_n C d_T_weigh_81 rfl ?_
        refine vg_lconst (v := 1) C d_T_weigh_82 (by decide) ?_
        refine vg_iload C d_T_weigh_83 rfl ?_
        refine vg_lshl C d_T_weigh_85 ?_
        refine vg_lor C d_T_weigh_86 ?_
        refine vg_lstore_n C d_T_weigh_87 (Nat.le_of_ble_eq_true rfl) rfl ?_
        skip
        refine vg_iinc (v := nI (i + 1)) C d_T_weigh_88 rfl (nI_1 i) (Nat.le_of_ble_eq_true rfl) rfl ?_
        refine vg_goto (tgt := 24) C d_T_weigh_91 (by decide) ?_
        refine vg_lv [0, 1, 3, 4, 5] rfl ?_
        first
          | (refine ih (i + 1) R9 sd (by omega) (by omega) (WO_step hN hG hL (by omega) hW hK (fun q hq => ⟨Or.inl, fun h => h.resolve_right (fun z => ?_)⟩))
             obtain ⟨z1, z2⟩ := z
             rw [z1, hpq] at z2
             unfold Rb at z2
             rw [show p * 8 + (2 ^ na - 1) = p * 8 + 2 ^ na - 1 by omega, c_78] at z2
             cases z2)
          | (refine ih (i + 1) R9 _ (by omega) (by omega) (WO_step hN hG hL (by omega) hW hK (fun q hq => ?_))
             rw [lb_or, lb_one_shl (by omega) hq, Bool.or_eq_true, decide_eq_true_eq, hpq]
             refine or_congr Iff.rfl ⟨fun z => ⟨z, ?_⟩, fun z => z.1⟩
             unfold Rb
             rw [z, show p * 8 + (2 ^ na - 1) = p * 8 + 2 ^ na - 1 by omega]
             exact ts_nf c_78)
set_option maxHeartbeats 4000000 in
set_option maxRecDepth 100000 in
theorem c_T_weigh (Z : vg_Z) (hst : vg_St Z) (ad : Nat → Nat) (σ : sg) (k : Nat) (hk : wd_kl[k]? = some 6) (na nc : Nat) (cd : Nat → Option Nat) (hN : Nd σ k na nc cd) (n : Nat) (H : Nat → Nat) (hG : Gr σ n H) (p0 m : Nat) (hL : Li σ n p0 m)  : vg_T Z M_T_weigh 0 0 [.ref (ad 107), .ref (ad k)] (wd Z ad σ) (fun v w => v = none ∧ ∃ R sd, WO σ k na nc cd m R sd ∧ w = wd Z ad (s_w σ k na R sd)) := by
  refine vg_enter hst (by decide) rfl (Nat.le_of_ble_eq_true rfl) ?_
  intro G C hQ
  show vg_K Z M_T_weigh G 0 0 0 [(0, .ref (ad 107)), (1, .ref (ad k))] [] (wd Z ad σ)
  have hna3 := hN.2.1
  have hc6 := hN.2.2.2.1
  refine vg_aload_n C d_T_weigh_0 rfl ?_
  refine vg_iconst (v := 1) C d_T_weigh_1 (by decide) ?_
  refine vg_aload_n C d_T_weigh_2 rfl ?_
  refine wr_get C d_T_weigh_3 f_T_85 hk rfl rfl rfl ?_
  refine vg_ishl C d_T_weigh_6 ?_
  rw [hN.1, sh_one na (by omega)]
  refine wr_puti C d_T_weigh_7 f_T_79 p_T_5 rfl rfl rfl rfl rfl (Nat.le_of_ble_eq_true rfl) (wf_iT5 _ _ _) ?_
  refine vg_iconst (v := 1) C d_T_weigh_10 (by decide) ?_
  refine vg_aload_n C d_T_weigh_11 rfl ?_
  refine wr_get C d_T_weigh_12 f_T_82 hk rfl rfl rfl ?_
  refine vg_ishl C d_T_weigh_15 ?_
  rw [sI_ne _ (kd_ne hk (y := 10) rfl (by decide)), hN.2.2.1, sh_one nc (by omega)]
  refine vg_iconst (v := 1) C d_T_weigh_16 (by decide) ?_
  refine vg_isub C d_T_weigh_17 ?_
  rw [nI_p (Nat.two_pow_pos nc)]
  refine vg_istore_n C d_T_weigh_18 (Nat.le_of_ble_eq_true rfl) rfl ?_
  refine vg_lconst (v := 0) C d_T_weigh_19 (by decide) ?_
  refine vg_lstore_n C d_T_weigh_20 (Nat.le_of_ble_eq_true rfl) rfl ?_
  refine vg_iconst (v := 0) C d_T_weigh_21 (by decide) ?_
  refine vg_istore C d_T_weigh_22 (Nat.le_of_ble_eq_true rfl) rfl ?_
  refine vg_w (ws' := wd Z ad (sL (sI σ 107 (upd (σ.1 107) 5 (nI (2 ^ na)))) 110 ((sI σ 107 (upd (σ.1 107) 5 (nI (2 ^ na)))).2 110))) (by rw [sL_id]) ?_
  exact lp_T_weigh hst C hQ ad (sI σ 107 (upd (σ.1 107) 5 (nI (2 ^ na)))) k hk na nc cd (Nd_T hk hN) n H hG p0 m hL (by rw [sI_at]; exact pk_us) (fun R sd h => ⟨rfl, R, sd, ⟨fun i hi => KE_mv (kAg_T hk) (cd_16 hN) (h.1 i hi), h.2⟩, rfl⟩) (m + 1) 0 _ 0 (by omega) (by omega) WO_0
