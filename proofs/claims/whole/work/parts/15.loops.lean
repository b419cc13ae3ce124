/-! loops: Node.suits, hasAttribute, Document.takesAttribute, Grammar.definitionsGiven -/
set_option maxHeartbeats 4000000 in
set_option maxRecDepth 100000 in
theorem c_N_suits (Z : vg_Z) (hst : vg_St Z) (ad : Nat → Nat) (σ : sg) (j : Nat) (k : Nat) (hk : wd_kl[k]? = some 6) (hj : j < 64) : vg_T Z M_N_suits 0 0 [.ref (ad k), .int (nI j)] (wd Z ad σ) (fun v w => v = some (.int (bP (lb (σ.2 k 8) j = true))) ∧ w = wd Z ad σ) := by
  refine vg_enter hst (by decide) rfl (Nat.le_of_ble_eq_true rfl) ?_
  intro G C hQ
  show vg_K Z M_N_suits G 0 0 0 [(0, .ref (ad k)), (1, .int (nI j))] [] (wd Z ad σ)
  refine vg_aload_n C d_N_suits_0 rfl ?_
  refine wr_get C d_N_suits_1 f_N_38 hk rfl rfl rfl ?_
  refine vg_iload_n C d_N_suits_4 rfl ?_
  refine vg_lushr C d_N_suits_5 ?_
  refine vg_lconst (v := 1) C d_N_suits_6 (by decide) ?_
  refine vg_land C d_N_suits_7 ?_
  refine vg_lconst (v := 0) C d_N_suits_8 (by decide) ?_
  refine vg_lcmp C d_N_suits_9 ?_
  refine vg_if_eq (tgt := 17) C d_N_suits_10 (by decide) (fun c_10 => ?_) (fun c_10 => ?_)
  · rw [lg_eq, lb_tst hj] at c_10
    refine vg_iconst (v := 0) C d_N_suits_17 (by decide) ?_
    exact vg_ireturn C hQ d_N_suits_18 rfl (by first | rfl | assumption) (⟨by rw [bP_f (by rw [c_10]; decide)], rfl⟩)
  · rw [lg_eq, lb_tst hj] at c_10
    refine vg_iconst (v := 1) C d_N_suits_13 (by decide) ?_
    refine vg_goto (tgt := 18) C d_N_suits_14 (by decide) ?_
    exact vg_ireturn C hQ d_N_suits_18 rfl (by first | rfl | assumption) (⟨by rw [bP_t (by exact ts_nf c_10)], rfl⟩)
set_option maxHeartbeats 4000000 in
set_option maxRecDepth 100000 in
theorem lp_N_hasAttribute {Z : vg_Z} (hst : vg_St Z) {G : vg_G} {post : Option Value → va_W → Prop} (C : vg_C Z M_N_hasAttribute G) (hQ : vg_Rt Z G 0 0 post) (ad : Nat → Nat) (σ : sg) (k : Nat) (hk : wd_kl[k]? = some 6) (q : Int32) (a : Nat) (ha : σ.1 k 4 = nI a) (ha3 : a ≤ 3) (hp : post (some (.int (bP (∃ i, i < a ∧ σ.1 (k + 1) i = q)))) (wd Z ad σ)) : ∀ (n : Nat) (i : Nat) (hlt : a < i + n) (hi : i ≤ a) , (∀ j, j < i → σ.1 (k + 1) j ≠ q) → vg_K Z M_N_hasAttribute G 0 0 2 [(2, .int (nI i)), (0, .ref (ad k)), (1, .int q)] [] (wd Z ad σ) := by
  intro n
  induction n with
  | zero =>
    intro i hlt hi hno
    exact absurd hlt (by omega)
  | succ n ih =>
    intro i hlt hi hno
    refine vg_iload_n C d_N_hasAttribute_2 rfl ?_
    refine vg_aload_n C d_N_hasAttribute_3 rfl ?_
    refine wr_get C d_N_hasAttribute_4 f_N_32 hk rfl rfl rfl ?_
    rw [ha]
    refine vg_icmp_ge (tgt := 28) C d_N_hasAttribute_7 (by decide) (fun c_7 => ?_) (fun c_7 => ?_)
    · rw [nI_leI (by omega) (by omega)] at c_7
      refine vg_iconst (v := 0) C d_N_hasAttribute_28 (by decide) ?_
      exact vg_ireturn C hQ d_N_hasAttribute_29 rfl (by first | rfl | assumption) (by have e := hp; rw [bP_f (p := (∃ i, i < a ∧ σ.1 (k + 1) i = q)) (by rintro ⟨j, hj, h⟩; exact hno j (by omega) h)] at e; exact e)
    · rw [nI_leI (by omega) (by omega)] at c_7
      refine vg_aload_n C d_N_hasAttribute_10 rfl ?_
      refine wr_get C d_N_hasAttribute_11 f_N_9 hk rfl rfl rfl ?_
      refine vg_iload_n C d_N_hasAttribute_14 rfl ?_
      refine wr_iald C d_N_hasAttribute_15 (nd_1 hk) rfl (by exact vp_in_nI (by omega) (by decide)) ?_
      rw [nI_clamp (by omega)]
      refine vg_iload_n C d_N_hasAttribute_16 rfl ?_
      refine vg_icmp_ne (tgt := 22) C d_N_hasAttribute_17 (by decide) (fun c_17 => ?_) (fun c_17 => ?_)
      · skip
        refine vg_iinc (v := nI (i + 1)) C d_N_hasAttribute_22 rfl (nI_1 i) (Nat.le_of_ble_eq_true rfl) rfl ?_
        refine vg_goto (tgt := 2) C d_N_hasAttribute_25 (by decide) ?_
        exact ih (i + 1) (by omega) (by omega) (lt_s hno c_17)
      · skip
        refine vg_iconst (v := 1) C d_N_hasAttribute_20 (by decide) ?_
        exact vg_ireturn C hQ d_N_hasAttribute_21 rfl (by first | rfl | assumption) (by have e := hp; rw [bP_t (p := (∃ i, i < a ∧ σ.1 (k + 1) i = q)) ⟨i, by omega, c_17⟩] at e; exact e)
set_option maxHeartbeats 4000000 in
set_option maxRecDepth 100000 in
theorem c_N_hasAttribute (Z : vg_Z) (hst : vg_St Z) (ad : Nat → Nat) (σ : sg) (q : Int32) (a : Nat) (k : Nat) (hk : wd_kl[k]? = some 6) (ha : σ.1 k 4 = nI a) (ha3 : a ≤ 3) : vg_T Z M_N_hasAttribute 0 0 [.ref (ad k), .int q] (wd Z ad σ) (fun v w => v = some (.int (bP (∃ i, i < a ∧ σ.1 (k + 1) i = q))) ∧ w = wd Z ad σ) := by
  refine vg_enter hst (by decide) rfl (Nat.le_of_ble_eq_true rfl) ?_
  intro G C hQ
  show vg_K Z M_N_hasAttribute G 0 0 0 [(0, .ref (ad k)), (1, .int q)] [] (wd Z ad σ)
  refine vg_iconst (v := 0) C d_N_hasAttribute_0 (by decide) ?_
  refine vg_istore_n C d_N_hasAttribute_1 (Nat.le_of_ble_eq_true rfl) rfl ?_
  exact lp_N_hasAttribute hst C hQ ad σ k hk q a ha ha3 ⟨rfl, rfl⟩ (a + 1) 0 (by omega) (by omega) (fun j hj => absurd hj (by omega))
set_option maxHeartbeats 4000000 in
set_option maxRecDepth 100000 in
theorem c_D_takesAttribute (Z : vg_Z) (hst : vg_St Z) (ad : Nat → Nat) (σ : sg) (nm : Int32) (sz dn t : Nat) (hs : σ.1 8 1 = nI sz) (hz : sz ≤ 16) (hd : σ.1 8 3 = nI dn) (hn : dn ≤ 4) (ht : dn ≠ 0 → σ.1 10 (dn - 1) = nI t) (hu : t < 16) (a : Nat) (ha : dn ≠ 0 → σ.1 (11 + 6 * t) 4 = nI a) (ha3 : a ≤ 3) : vg_T Z M_D_takesAttribute 0 0 [.ref (ad 8), .int nm] (wd Z ad σ) (fun v w => v = some (.int (bP (dn ≠ 0 ∧ σ.1 (11 + 6 * t) 7 = 0 ∧ a < 3 ∧ ¬ (∃ i, i < a ∧ σ.1 (11 + 6 * t + 1) i = nm)))) ∧ w = wd Z ad σ) := by
  refine vg_enter hst (by decide) rfl (Nat.le_of_ble_eq_true rfl) ?_
  intro G C hQ
  show vg_K Z M_D_takesAttribute G 0 0 0 [(0, .ref (ad 8)), (1, .int nm)] [] (wd Z ad σ)
  refine vg_aload_n C d_D_takesAttribute_0 rfl ?_
  refine wr_get C d_D_takesAttribute_1 f_D_26 rfl rfl rfl rfl ?_
  rw [hd]
  refine vg_if_ne (tgt := 9) C d_D_takesAttribute_4 (by decide) (fun c_4 => ?_) (fun c_4 => ?_)
  · rw [nI_z (by omega)] at c_4
    refine vg_aload_n C d_D_takesAttribute_9 rfl ?_
    refine wr_get C d_D_takesAttribute_10 f_D_11 rfl rfl rfl rfl ?_
    refine vg_aload_n C d_D_takesAttribute_13 rfl ?_
    refine wr_get C d_D_takesAttribute_14 f_D_17 rfl rfl rfl rfl ?_
    refine vg_aload_n C d_D_takesAttribute_17 rfl ?_
    refine wr_get C d_D_takesAttribute_18 f_D_26 rfl rfl rfl rfl ?_
    rw [hd]
    refine vg_iconst (v := 1) C d_D_takesAttribute_21 (by decide) ?_
    refine vg_isub C d_D_takesAttribute_22 ?_
    rw [nI_p (by omega)]
    refine wr_iald C d_D_takesAttribute_23 rfl rfl (by exact vp_in_nI (by omega) (by decide)) ?_
    rw [nI_clamp (by omega), ht c_4]
    refine wr_nald C d_D_takesAttribute_24 (by exact vp_in_nI hu (by decide)) ?_
    rw [nI_clamp (by omega)]
    refine vg_astore_n C d_D_takesAttribute_25 (Nat.le_of_ble_eq_true rfl) rfl ?_
    refine vg_aload_n C d_D_takesAttribute_26 rfl ?_
    refine wr_get C d_D_takesAttribute_27 f_D_44 (nd_of t hu) rfl rfl rfl ?_
    refine vg_if_ne (tgt := 53) C d_D_takesAttribute_30 (by decide) (fun c_30 => ?_) (fun c_30 => ?_)
    · skip
      refine vg_iconst (v := 0) C d_D_takesAttribute_53 (by decide) ?_
      exact vg_ireturn C hQ d_D_takesAttribute_54 rfl (by first | rfl | assumption) (⟨by rw [bP_f (by intro hN; first | exact hN.1 c_4 | exact c_30 hN.2.1 | exact absurd hN.2.2.1 (by omega) | exact hN.2.2.2 c_46)], rfl⟩)
    · skip
      refine vg_aload_n C d_D_takesAttribute_33 rfl ?_
      refine wr_get C d_D_takesAttribute_34 f_D_47 (nd_of t hu) rfl rfl rfl ?_
      rw [ha c_4]
      refine vg_iconst (v := 3) C d_D_takesAttribute_37 (by decide) ?_
      refine vg_icmp_ge (tgt := 53) C d_D_takesAttribute_38 (by decide) (fun c_38 => ?_) (fun c_38 => ?_)
      · rw [show (3 : Int32) = nI 3 from rfl, nI_leI (by decide) (by omega)] at c_38
        refine vg_iconst (v := 0) C d_D_takesAttribute_53 (by decide) ?_
        exact vg_ireturn C hQ d_D_takesAttribute_54 rfl (by first | rfl | assumption) (⟨by rw [bP_f (by intro hN; first | exact hN.1 c_4 | exact c_30 hN.2.1 | exact absurd hN.2.2.1 (by omega) | exact hN.2.2.2 c_46)], rfl⟩)
      · rw [show (3 : Int32) = nI 3 from rfl, nI_leI (by decide) (by omega)] at c_38
        refine vg_aload_n C d_D_takesAttribute_41 rfl ?_
        refine vg_iload_n C d_D_takesAttribute_42 rfl ?_
        refine wr_callV (As := [_]) C (c_N_hasAttribute Z hst ad σ nm a (11 + 6 * t) (nd_of t hu) (ha c_4) ha3) l_D_takesAttribute_N_hasAttribute k_D_50 (nd_of t hu) rfl rfl rfl rfl (Nat.le_of_ble_eq_true rfl) d_D_takesAttribute_43 ⟨Nat.le_of_ble_eq_true rfl, Nat.le_of_ble_eq_true rfl⟩ (fun v_43 w_43 h_43 => ?_)
        obtain ⟨rfl, rfl⟩ := h_43
        refine vg_if_ne (tgt := 53) C d_D_takesAttribute_46 (by decide) (fun c_46 => ?_) (fun c_46 => ?_)
        · rw [bP_eq] at c_46; (try simp only [Classical.not_not] at c_46)
          refine vg_iconst (v := 0) C d_D_takesAttribute_53 (by decide) ?_
          exact vg_ireturn C hQ d_D_takesAttribute_54 rfl (by first | rfl | assumption) (⟨by rw [bP_f (by intro hN; first | exact hN.1 c_4 | exact c_30 hN.2.1 | exact absurd hN.2.2.1 (by omega) | exact hN.2.2.2 c_46)], rfl⟩)
        · rw [bP_eq] at c_46; (try simp only [Classical.not_not] at c_46)
          refine vg_iconst (v := 1) C d_D_takesAttribute_49 (by decide) ?_
          refine vg_goto (tgt := 54) C d_D_takesAttribute_50 (by decide) ?_
          exact vg_ireturn C hQ d_D_takesAttribute_54 rfl (by first | rfl | assumption) (⟨by rw [bP_t (by exact ⟨c_4, c_30, by omega, c_46⟩)], rfl⟩)
  · rw [nI_z (by omega)] at c_4
    refine vg_iconst (v := 0) C d_D_takesAttribute_7 (by decide) ?_
    exact vg_ireturn C hQ d_D_takesAttribute_8 rfl (by first | rfl | assumption) (⟨by rw [bP_f (by intro hN; first | exact hN.1 c_4 | exact c_30 hN.2.1 | exact absurd hN.2.2.1 (by omega) | exact hN.2.2.2 c_46)], rfl⟩)
def gct (σ : sg) : Nat → Nat
  | 0 => 0
  | i + 1 => gct σ i + (if σ.1 6 i = -1 then 0 else 1)
theorem gct_le (σ : sg) : ∀ i, gct σ i ≤ i
  | 0 => Nat.le_refl 0
  | i + 1 => by have := gct_le σ i; unfold gct; split <;> omega
