/-! Matcher: suitsNode, leastNode, mostChildren, suitsNothing; Grammar.definitionsGiven -/
/-- what asking about a lone row leaves alone -/
def FrL (σ τ : sg) : Prop := FrW σ τ ∧ ∀ u, u < 16 → τ.2 (11 + 6 * u) = σ.2 (11 + 6 * u)
theorem FrL_rf {σ : sg} : FrL σ σ := ⟨FrW_rf, fun _ _ => rfl⟩
theorem FrL_tr {σ τ υ : sg} (h1 : FrL σ τ) (h2 : FrL τ υ) : FrL σ υ := ⟨FrW_tr h1.1 h2.1, fun u hu => (h2.2 u hu).trans (h1.2 u hu)⟩
theorem FrL_w {σ : sg} {x y : Int32} {R : Nat → Int64} {sd : Int64} : FrL σ (s_w (s_lt σ x y) 111 0 R sd) := ⟨FrW_tr FrW_lt (FrW_w (Or.inl rfl)), fun u hu => by rw [s_w_ne (by omega) (by omega)]; rfl⟩
theorem CS_fr {σ τ : sg} {D : Dc} {nd m j : Nat} (h : FrL σ τ) (hC : CS σ D nd m j) (hnd : nd ≤ 16) : CS τ D nd m j := fun t t1 t2 q hq => by
  rw [h.2 t (by omega), (FrW_k h.1).1, (FrW_k h.1).2.1, (FrW_k h.1).2.2.1, (FrW_k h.1).2.2.2]
  exact hC t t1 t2 q ((FrW_lst h.1).mp hq)
/-- the node t alone, as the pattern p's matter -/
def S1N (σ : sg) (D : Dc) (t p : Nat) : Prop := S1 (σ.1 2) (σ.1 3) (σ.1 4) (σ.1 6) (eN (σ.1 2) (σ.1 3) (σ.1 4) D (FU (σ.1 2) (σ.1 3) (σ.1 4) (σ.1 6) D) t) p
theorem S1N_fr {σ τ : sg} {D : Dc} {t p : Nat} (h : FrW σ τ) : S1N τ D t p ↔ S1N σ D t p := by
  unfold S1N
  rw [(FrW_k h).1, (FrW_k h).2.1, (FrW_k h).2.2.1, (FrW_k h).2.2.2]
theorem lst_s8 {σ : sg} {n p0 m : Nat} {H : Nat → Nat} (hG : Gr σ n H) (hL : Li σ n p0 m) : ∀ p, lst σ m p → σ.1 2 p = 8 → lst σ m (ot (σ.1 4) p) := by
  rintro p ⟨i, hi, rfl⟩ h8
  have hn := hG.1.1
  obtain ⟨c, c1, c2, -⟩ := (hG.1.2 _ (hL.1.2.1 i hi).2.1).2.1 (Or.inr (Or.inr (Or.inr (Or.inl h8))))
  rw [ot_e (by omega) c2]
  exact hL.1.2.2.2.2 i hi h8 c (by omega) c2
def lsP (P : Nat → Prop) (nd : Nat) (v : Int32) : Prop := (∃ i, i < nd ∧ v = nI i ∧ P i ∧ ∀ j, j < i → ¬ P j) ∨ (v = -1 ∧ ∀ i, i < nd → ¬ P i)
def gtP (P : Nat → Prop) (nc : Nat) (v : Int32) : Prop := (∃ i, i ≤ nc ∧ v = nI i ∧ P i ∧ ∀ j, i < j → j ≤ nc → ¬ P j) ∨ (v = -1 ∧ ∀ i, i ≤ nc → ¬ P i)
theorem nI_d0 : ∀ j, j < 17 → (nI j - 1 < 0 ↔ j = 0) := by decide +kernel
theorem nI_us {l : Nat} : nI (l + 1) - 1 = nI l := nI_p (by omega)
set_option maxHeartbeats 4000000 in
set_option maxRecDepth 100000 in
theorem c_T_suitsNode (Z : vg_Z) (hst : vg_St Z) (ad : Nat → Nat) (σ : sg) (n : Nat) (H : Nat → Nat) (hG : Gr σ n H) (hH : ∀ q, q < n → H q ≤ 32) (hT : BT σ) (D : Dc) (nd : Nat) (hC : RC σ D nd) (p m : Nat) (hL : Li σ n p m) (j : Nat) (hS : CS σ D nd m j) (t : Nat) (htj : j ≤ t) (htn : t < nd)  : vg_T Z M_T_suitsNode 0 0 [.ref (ad 107), .int (nI p), .int (nI t)] (wd Z ad σ) (fun v w => v = some (.int (bP (S1N σ D t p))) ∧ ∃ τ, FrL σ τ ∧ w = wd Z ad τ) := by
  refine vg_enter hst (by decide) rfl (Nat.le_of_ble_eq_true rfl) ?_
  intro G C hQ
  show vg_K Z M_T_suitsNode G 0 0 0 [(0, .ref (ad 107)), (1, .int (nI p)), (2, .int (nI t))] [] (wd Z ad σ)
  have hn := hG.1.1
  have hnd := hC.1.1
  have ht : t < 16 := by omega
  obtain ⟨na, nj, hR⟩ := hC.2.2 t htn
  have hnm := hR.1
  have hlp : lst σ m p := hL.1.2.2.2.1
  have hpn := lst_n hL p hlp
  refine vg_aload_n C d_T_suitsNode_0 rfl ?_
  refine wr_get C d_T_suitsNode_1 f_T_24 rfl rfl rfl rfl ?_
  refine vg_iconst (v := 0) C d_T_suitsNode_4 (by decide) ?_
  refine wr_callV (As := [_]) C (c_N_begin Z hst ad σ 0 111 rfl) l_T_suitsNode_N_begin k_T_64 rfl rfl rfl rfl rfl (Nat.le_of_ble_eq_true rfl) d_T_suitsNode_5 ⟨Nat.le_of_ble_eq_true rfl, Nat.le_of_ble_eq_true rfl⟩ (fun v_5 w_5 h_5 => ?_)
  obtain ⟨rfl, rfl⟩ := h_5
  refine vg_aload_n C d_T_suitsNode_8 rfl ?_
  refine wr_get C d_T_suitsNode_9 f_T_24 rfl rfl rfl rfl ?_
  refine vg_iload_n C d_T_suitsNode_12 rfl ?_
  refine vg_iconst (v := 0) C d_T_suitsNode_13 (by decide) ?_
  refine wr_callV (As := [_, _]) C (c_N_addChild Z hst ad (s_begin σ 111 0) (nI t) 0 0 111 rfl s_begin_at.2 (by decide)) l_T_suitsNode_N_addChild k_T_67 rfl rfl rfl rfl rfl (Nat.le_of_ble_eq_true rfl) d_T_suitsNode_14 ⟨Nat.le_of_ble_eq_true rfl, Nat.le_of_ble_eq_true rfl⟩ (fun v_14 w_14 h_14 => ?_)
  obtain ⟨rfl, rfl⟩ := h_14
  refine vg_w (ws' := wd Z ad (s_lt σ (nI t) 0)) rfl ?_
  refine vg_aload_n C d_T_suitsNode_17 rfl ?_
  refine vg_aload_n C d_T_suitsNode_18 rfl ?_
  refine wr_get C d_T_suitsNode_19 f_T_24 rfl rfl rfl rfl ?_
  refine wr_callV (As := [_]) C (c_T_weigh Z hst ad (s_lt σ (nI t) 0) 111 rfl 0 1 (fun _ => some t) (Nd_n ht) n H (FrW_Gr FrW_lt hG) p m (FrW_Li FrW_lt hL)) l_T_suitsNode_T_weigh k_T_61 rfl rfl rfl rfl rfl (Nat.le_of_ble_eq_true rfl) d_T_suitsNode_22 ⟨Nat.le_of_ble_eq_true rfl, Nat.le_of_ble_eq_true rfl⟩ (fun v_22 w_22 h_22 => ?_)
  obtain ⟨rfl, R, sd, hO, rfl⟩ := h_22
  have hsem := lone_n ht D (FU (σ.1 2) (σ.1 3) (σ.1 4) (σ.1 6) D) hnm (fun q hq h8 => hS t htj htn _ (lst_s8 hG hL q hq h8)) hT hG hH hL hO p (by omega)
  refine vg_aload_n C d_T_suitsNode_25 rfl ?_
  refine wr_get C d_T_suitsNode_26 f_T_24 rfl rfl rfl rfl ?_
  refine vg_iload_n C d_T_suitsNode_29 rfl ?_
  refine wr_callV (As := [_]) C (c_N_suits Z hst ad (s_w (s_lt σ (nI t) 0) 111 0 R sd) p 111 rfl (by omega)) l_T_suitsNode_N_suits k_T_71 rfl rfl rfl rfl rfl (Nat.le_of_ble_eq_true rfl) d_T_suitsNode_30 ⟨Nat.le_of_ble_eq_true rfl, Nat.le_of_ble_eq_true rfl⟩ (fun v_30 w_30 h_30 => ?_)
  obtain ⟨rfl, rfl⟩ := h_30
  exact vg_ireturn C hQ d_T_suitsNode_33 rfl (by exact bP_nar _) (⟨by rw [s_w_at, bP_congr (hsem.trans (and_iff_right hlp))]; rfl, _, FrL_w, rfl⟩)
theorem RC_fr {σ τ : sg} {D : Dc} {nd : Nat} (h : FrW σ τ) (hC : RC σ D nd) : RC τ D nd := by
  refine ⟨hC.1, by rw [h.1 8 (by decide) (by decide) (by decide) (by decide)]; exact hC.2.1, fun t ht => ?_⟩
  obtain ⟨na, nj, q⟩ := hC.2.2 t ht
  exact ⟨na, nj, RN_fr (by have := hC.1.1; omega) h q⟩
set_option maxHeartbeats 4000000 in
set_option maxRecDepth 100000 in
theorem lp_T_leastNode {Z : vg_Z} (hst : vg_St Z) {G : vg_G} {post : Option Value → va_W → Prop} (C : vg_C Z M_T_leastNode G) (hQ : vg_Rt Z G 0 0 post) (ad : Nat → Nat) (σ : sg) (n : Nat) (H : Nat → Nat) (hG : Gr σ n H) (hH : ∀ q, q < n → H q ≤ 32) (hT : BT σ) (D : Dc) (nd : Nat) (hC : RC σ D nd) (p m : Nat) (hL : Li σ n p m) (hS : CS σ D nd m 0) (hpost : ∀ v τ, lsP (fun t => S1N σ D t p) nd v → FrL σ τ → post (some (.int v)) (wd Z ad τ)) : ∀ (n2 : Nat) (i : Nat) (τ : sg) (hlt : nd < i + n2) (hi : i ≤ nd) , FrL σ τ → (∀ j, j < i → ¬ S1N σ D j p) → vg_K Z M_T_leastNode G 0 0 2 [(2, .int (nI i)), (0, .ref (ad 107)), (1, .int (nI p))] [] (wd Z ad τ) := by
  have hnd := hC.1.1
  intro n2
  induction n2 with
  | zero =>
    intro i τ hlt hi hF hno
    exact absurd hlt (by omega)
  | succ n2 ih =>
    intro i τ hlt hi hF hno
    refine vg_iload_n C d_T_leastNode_2 rfl ?_
    refine vg_aload_n C d_T_leastNode_3 rfl ?_
    refine wr_get C d_T_leastNode_4 f_T_32 rfl rfl rfl rfl ?_
    refine wr_get C d_T_leastNode_7 f_T_47 rfl rfl rfl rfl ?_
    rw [(RC_fr hF.1 hC).2.1]
    refine vg_icmp_ge (tgt := 30) C d_T_leastNode_10 (by decide) (fun c_10 => ?_) (fun c_10 => ?_)
    · rw [nI_leI (by omega) (by omega)] at c_10
      refine vg_iconst (v := (-1)) C d_T_leastNode_30 (by decide) ?_
      exact vg_ireturn C hQ d_T_leastNode_31 rfl (by first | rfl | assumption) (hpost _ τ (Or.inr ⟨rfl, fun j hj => hno j (by omega)⟩) hF)
    · rw [nI_leI (by omega) (by omega)] at c_10
      refine vg_aload_n C d_T_leastNode_13 rfl ?_
      refine vg_iload_n C d_T_leastNode_14 rfl ?_
      refine vg_iload_n C d_T_leastNode_15 rfl ?_
      refine wr_callV (As := [_, _]) C (c_T_suitsNode Z hst ad τ n H (FrW_Gr hF.1 hG) hH (FrW_BT hF.1 hT) D nd (RC_fr hF.1 hC) p m (FrW_Li hF.1 hL) 0 (CS_fr hF hS hnd) i (by omega) (by omega)) l_T_leastNode_T_suitsNode k_T_75 rfl rfl rfl rfl rfl (Nat.le_of_ble_eq_true rfl) d_T_leastNode_16 ⟨Nat.le_of_ble_eq_true rfl, Nat.le_of_ble_eq_true rfl⟩ (fun v_16 w_16 h_16 => ?_)
      obtain ⟨rfl, υ, hF2, rfl⟩ := h_16
      rw [bP_congr (S1N_fr hF.1)]
      refine vg_if_eq (tgt := 24) C d_T_leastNode_19 (by decide) (fun c_19 => ?_) (fun c_19 => ?_)
      · rw [bP_eq] at c_19; (try simp only [Classical.not_not] at c_19)
        refine vg_iinc (v := nI (i + 1)) C d_T_leastNode_24 rfl (nI_1 i) (Nat.le_of_ble_eq_true rfl) rfl ?_
        refine vg_goto (tgt := 2) C d_T_leastNode_27 (by decide) ?_
        exact ih (i + 1) υ (by omega) (by omega) (FrL_tr hF hF2) (lt_s hno c_19)
      · rw [bP_eq] at c_19; (try simp only [Classical.not_not] at c_19)
        refine vg_iload_n C d_T_leastNode_22 rfl ?_
        exact vg_ireturn C hQ d_T_leastNode_23 rfl (by first | rfl | assumption) (hpost _ υ (Or.inl ⟨i, by omega, rfl, c_19, hno⟩) (FrL_tr hF hF2))
set_option maxHeartbeats 4000000 in
set_option maxRecDepth 100000 in
theorem c_T_leastNode (Z : vg_Z) (hst : vg_St Z) (ad : Nat → Nat) (σ : sg) (n : Nat) (H : Nat → Nat) (hG : Gr σ n H) (hH : ∀ q, q < n → H q ≤ 32) (hT : BT σ) (D : Dc) (nd : Nat) (hC : RC σ D nd) (p m : Nat) (hL : Li σ n p m) (hS : CS σ D nd m 0)  : vg_T Z M_T_leastNode 0 0 [.ref (ad 107), .int (nI p)] (wd Z ad σ) (fun v w => ∃ x, v = some (.int x) ∧ lsP (fun t => S1N σ D t p) nd x ∧ ∃ τ, FrL σ τ ∧ w = wd Z ad τ) := by
  refine vg_enter hst (by decide) rfl (Nat.le_of_ble_eq_true rfl) ?_
  intro G C hQ
  show vg_K Z M_T_leastNode G 0 0 0 [(0, .ref (ad 107)), (1, .int (nI p))] [] (wd Z ad σ)
  refine vg_iconst (v := 0) C d_T_leastNode_0 (by decide) ?_
  refine vg_istore_n C d_T_leastNode_1 (Nat.le_of_ble_eq_true rfl) rfl ?_
  exact lp_T_leastNode hst C hQ ad σ n H hG hH hT D nd hC p m hL hS (fun v τ h hF => ⟨v, rfl, h, τ, hF, rfl⟩) (nd + 1) 0 σ (by omega) (by omega) FrL_rf (fun j hj => absurd hj (by omega))
set_option maxHeartbeats 4000000 in
set_option maxRecDepth 100000 in
theorem lp_T_mostChildren {Z : vg_Z} (hst : vg_St Z) {G : vg_G} {post : Option Value → va_W → Prop} (C : vg_C Z M_T_mostChildren G) (hQ : vg_Rt Z G 0 0 post) (ad : Nat → Nat) (σ : sg) (p S : Nat) (hp : p < 40) (hS0 : 0 < S) (hS8 : S ≤ 8) (t : Nat) (ht : t < 16) (nc : Nat) (hc6 : nc ≤ 6) (hpost : ∀ v, gtP (fun l => Rb (σ.2 110) p (S - 1) (2 ^ l - 1)) nc v → post (some (.int v)) (wd Z ad σ)) : ∀ (n2 : Nat) (i : Nat) (hlt : i < n2) (hi : i ≤ nc + 1) , (∀ j, i ≤ j → j ≤ nc → ¬ Rb (σ.2 110) p (S - 1) (2 ^ j - 1)) → vg_K Z M_T_mostChildren G 0 0 23 [(5, .int (nI i - 1)), (3, .long (σ.2 110 (p * 8 + (S - 1)))), (0, .ref (ad 107)), (1, .int (nI p)), (2, .ref (ad (11 + 6 * t)))] [] (wd Z ad σ) := by
  intro n2
  induction n2 with
  | zero =>
    intro i hlt hi hno
    exact absurd hlt (by omega)
  | succ n2 ih =>
    intro i hlt hi hno
    refine vg_iload C d_T_mostChildren_23 rfl ?_
    refine vg_if_lt (tgt := 56) C d_T_mostChildren_25 (by decide) (fun c_25 => ?_) (fun c_25 => ?_)
    · rw [nI_d0 i (by omega)] at c_25
      refine vg_iconst (v := (-1)) C d_T_mostChildren_56 (by decide) ?_
      exact vg_ireturn C hQ d_T_mostChildren_57 rfl (by first | rfl | assumption) (hpost (-1) (Or.inr ⟨rfl, fun j hj => hno j (by omega) hj⟩))
    · rw [nI_d0 i (by omega)] at c_25
      obtain ⟨l, rfl⟩ : ∃ l, i = l + 1 := ⟨i - 1, by omega⟩
      refine vg_iconst (v := 1) C d_T_mostChildren_28 (by decide) ?_
      refine vg_iload C d_T_mostChildren_29 rfl ?_
      rw [nI_us]
      refine vg_ishl C d_T_mostChildren_31 ?_
      rw [sh_one l (by omega)]
      refine vg_iconst (v := 1) C d_T_mostChildren_32 (by decide) ?_
      refine vg_isub C d_T_mostChildren_33 ?_
      rw [nI_p (Nat.two_pow_pos l)]
      refine vg_istore C d_T_mostChildren_34 (Nat.le_of_ble_eq_true rfl) rfl ?_
      refine vg_lload_n C d_T_mostChildren_36 rfl ?_
      refine vg_iload C d_T_mostChildren_37 rfl ?_
      refine vg_lushr C d_T_mostChildren_39 ?_
      refine vg_lconst (v := 1) C d_T_mostChildren_40 (by decide) ?_
      refine vg_land C d_T_mostChildren_41 ?_
      refine vg_lconst (v := 0) C d_T_mostChildren_42 (by decide) ?_
      refine vg_lcmp C d_T_mostChildren_43 ?_
      refine vg_if_eq (tgt := 50) C d_T_mostChildren_44 (by decide) (fun c_44 => ?_) (fun c_44 => ?_)
      · rw [lg_eq, lb_tst (p2_64 l (by omega))] at c_44
        refine vg_iinc (v := nI l - 1) C d_T_mostChildren_50 rfl (nI_m1 l (by omega)) (Nat.le_of_ble_eq_true rfl) rfl ?_
        refine vg_goto (tgt := 23) C d_T_mostChildren_53 (by decide) ?_
        refine vg_lv [0, 2, 3, 4, 5] rfl ?_
        refine ih l (by omega) (by omega) (fun j h1 h2 => ?_)
        rcases Nat.lt_or_ge l j with y | y
        · exact hno j y h2
        · rw [show j = l by omega]
          unfold Rb
          rw [c_44]
          exact fun e => by cases e
      · rw [lg_eq, lb_tst (p2_64 l (by omega))] at c_44
        refine vg_iload C d_T_mostChildren_47 rfl ?_
        exact vg_ireturn C hQ d_T_mostChildren_49 rfl (by first | rfl | assumption) (by have z := hpost (nI l) (Or.inl ⟨l, by omega, rfl, ts_nf c_44, fun j h1 h2 => hno j (by omega) h2⟩); exact z)
set_option maxHeartbeats 4000000 in
set_option maxRecDepth 100000 in
theorem c_T_mostChildren (Z : vg_Z) (hst : vg_St Z) (ad : Nat → Nat) (σ : sg) (p S : Nat) (hp : p < 40) (hS0 : 0 < S) (hS8 : S ≤ 8) (t : Nat) (ht : t < 16) (nc : Nat) (hc6 : nc ≤ 6) (hS : σ.1 107 5 = nI S) (hc : σ.1 (11 + 6 * t) 7 = nI nc)  : vg_T Z M_T_mostChildren 0 0 [.ref (ad 107), .int (nI p), .ref (ad (11 + 6 * t))] (wd Z ad σ) (fun v w => ∃ x, v = some (.int x) ∧ gtP (fun l => Rb (σ.2 110) p (S - 1) (2 ^ l - 1)) nc x ∧ w = wd Z ad σ) := by
  refine vg_enter hst (by decide) rfl (Nat.le_of_ble_eq_true rfl) ?_
  intro G C hQ
  show vg_K Z M_T_mostChildren G 0 0 0 [(0, .ref (ad 107)), (1, .int (nI p)), (2, .ref (ad (11 + 6 * t)))] [] (wd Z ad σ)
  refine vg_aload_n C d_T_mostChildren_0 rfl ?_
  refine wr_get C d_T_mostChildren_1 f_T_18 rfl rfl rfl rfl ?_
  refine vg_iload_n C d_T_mostChildren_4 rfl ?_
  refine vg_bipush (v := 8) C d_T_mostChildren_5 (by decide) ?_
  refine vg_imul C d_T_mostChildren_7 ?_
  rw [show (8 : Int32) = nI 8 from rfl, pk_mul]
  refine vg_aload_n C d_T_mostChildren_8 rfl ?_
  refine wr_get C d_T_mostChildren_9 f_T_79 rfl rfl rfl rfl ?_
  rw [hS]
  refine vg_iadd C d_T_mostChildren_12 ?_
  rw [nI_add]
  refine vg_iconst (v := 1) C d_T_mostChildren_13 (by decide) ?_
  refine vg_isub C d_T_mostChildren_14 ?_
  rw [nI_p (by omega), show p * 8 + S - 1 = p * 8 + (S - 1) by omega]
  refine wr_lald C d_T_mostChildren_15 rfl rfl (by exact vp_in_nI (by omega) (by decide)) ?_
  rw [nI_clamp (by omega)]
  refine vg_lstore_n C d_T_mostChildren_16 (Nat.le_of_ble_eq_true rfl) rfl ?_
  refine vg_aload_n C d_T_mostChildren_17 rfl ?_
  refine wr_get C d_T_mostChildren_18 f_T_82 (nd_of t ht) rfl rfl rfl ?_
  rw [hc, ← nI_us (l := nc)]
  refine vg_istore C d_T_mostChildren_21 (Nat.le_of_ble_eq_true rfl) rfl ?_
  exact lp_T_mostChildren hst C hQ ad σ p S hp hS0 hS8 t ht nc hc6 (fun v h => ⟨v, rfl, h, rfl⟩) (nc + 2) (nc + 1) (by omega) (by omega) (fun j h1 h2 => absurd h1 (by omega))
set_option maxHeartbeats 4000000 in
set_option maxRecDepth 100000 in
theorem c_T_suitsNothing (Z : vg_Z) (hst : vg_St Z) (ad : Nat → Nat) (σ : sg) (n : Nat) (H : Nat → Nat) (hG : Gr σ n H) (hH : ∀ q, q < n → H q ≤ 32) (hT : BT σ) (p : Nat) (hp : p < n)  : vg_T Z M_T_suitsNothing 0 0 [.ref (ad 107), .int (nI p)] (wd Z ad σ) (fun v w => v = some (.int (bP (SN (σ.1 2) (σ.1 3) (σ.1 4) (σ.1 6) p))) ∧ ∃ o m sn τ, FrL (stL σ o m sn) τ ∧ w = wd Z ad τ) := by
  refine vg_enter hst (by decide) rfl (Nat.le_of_ble_eq_true rfl) ?_
  intro G C hQ
  show vg_K Z M_T_suitsNothing G 0 0 0 [(0, .ref (ad 107)), (1, .int (nI p))] [] (wd Z ad σ)
  have hn := hG.1.1
  refine vg_aload_n C d_T_suitsNothing_0 rfl ?_
  refine wr_get C d_T_suitsNothing_1 f_T_28 rfl rfl rfl rfl ?_
  refine vg_iload_n C d_T_suitsNothing_4 rfl ?_
  refine wr_callV (As := [_]) C (c_G_listAll Z hst ad σ n H hG.1 hH p hp) l_T_suitsNothing_G_listAll k_T_41 rfl rfl rfl rfl rfl (Nat.le_of_ble_eq_true rfl) d_T_suitsNothing_5 ⟨Nat.le_of_ble_eq_true rfl, Nat.le_of_ble_eq_true rfl⟩ (fun v_5 w_5 h_5 => ?_)
  obtain ⟨rfl, o, m, sn, hLA, rfl⟩ := h_5
  have hG1 := Gr_st (o := o) (m := m) (sn := sn) hG
  have hL1 := Li_st (m := m) (sn := sn) hLA
  have hT1 := BT_st (o := o) (m := m) (sn := sn) hT
  refine vg_aload_n C d_T_suitsNothing_8 rfl ?_
  refine wr_get C d_T_suitsNothing_9 f_T_24 rfl rfl rfl rfl ?_
  refine vg_iconst (v := 0) C d_T_suitsNothing_12 (by decide) ?_
  refine wr_callV (As := [_]) C (c_N_begin Z hst ad (stL σ o m sn) 0 111 rfl) l_T_suitsNothing_N_begin k_T_64 rfl rfl rfl rfl rfl (Nat.le_of_ble_eq_true rfl) d_T_suitsNothing_13 ⟨Nat.le_of_ble_eq_true rfl, Nat.le_of_ble_eq_true rfl⟩ (fun v_13 w_13 h_13 => ?_)
  obtain ⟨rfl, rfl⟩ := h_13
  refine vg_aload_n C d_T_suitsNothing_16 rfl ?_
  refine vg_aload_n C d_T_suitsNothing_17 rfl ?_
  refine wr_get C d_T_suitsNothing_18 f_T_24 rfl rfl rfl rfl ?_
  refine wr_callV (As := [_]) C (c_T_weigh Z hst ad (s_begin (stL σ o m sn) 111 0) 111 rfl 0 0 (fun _ => none) Nd_0 n H (FrW_Gr FrW_begin hG1) p m (FrW_Li FrW_begin hL1)) l_T_suitsNothing_T_weigh k_T_61 rfl rfl rfl rfl rfl (Nat.le_of_ble_eq_true rfl) d_T_suitsNothing_21 ⟨Nat.le_of_ble_eq_true rfl, Nat.le_of_ble_eq_true rfl⟩ (fun v_21 w_21 h_21 => ?_)
  obtain ⟨rfl, R, sd, hO, rfl⟩ := h_21
  have hsem := lone_0 (FrW_BT FrW_begin hT1) Nd_0 (FrW_Gr FrW_begin hG1) hH (FrW_Li FrW_begin hL1) hO p (by omega)
  refine vg_aload_n C d_T_suitsNothing_24 rfl ?_
  refine wr_get C d_T_suitsNothing_25 f_T_24 rfl rfl rfl rfl ?_
  refine vg_iload_n C d_T_suitsNothing_28 rfl ?_
  refine wr_callV (As := [_]) C (c_N_suits Z hst ad (s_w (s_begin (stL σ o m sn) 111 0) 111 0 R sd) p 111 rfl (by omega)) l_T_suitsNothing_N_suits k_T_71 rfl rfl rfl rfl rfl (Nat.le_of_ble_eq_true rfl) d_T_suitsNothing_29 ⟨Nat.le_of_ble_eq_true rfl, Nat.le_of_ble_eq_true rfl⟩ (fun v_29 w_29 h_29 => ?_)
  obtain ⟨rfl, rfl⟩ := h_29
  exact vg_ireturn C hQ d_T_suitsNothing_32 rfl (by exact bP_nar _) (⟨by rw [s_w_at, bP_congr (hsem.trans (and_iff_right ((FrW_lst FrW_begin).mpr hL1.1.2.2.2.1)))]; rfl, o, m, sn, _, ⟨FrW_tr FrW_begin (FrW_w (Or.inl rfl)), fun u hu => by rw [s_w_ne (by omega) (by omega)]; rfl⟩, rfl⟩)
set_option maxHeartbeats 4000000 in
set_option maxRecDepth 100000 in
theorem lp_G_definitionsGiven {Z : vg_Z} (hst : vg_St Z) {G : vg_G} {post : Option Value → va_W → Prop} (C : vg_C Z M_G_definitionsGiven G) (hQ : vg_Rt Z G 0 0 post) (ad : Nat → Nat) (σ : sg) (hpost : post (some (.int (nI (gct σ 4)))) (wd Z ad σ)) : ∀ (n2 : Nat) (i : Nat) (hlt : 4 < i + n2) (hi : i ≤ 4) , vg_K Z M_G_definitionsGiven G 0 0 13 [(4, .int (nI i)), (3, .int (nI 4)), (2, .ref (ad 6)), (1, .int (nI (gct σ i))), (0, .ref (ad 1))] [] (wd Z ad σ) := by
  intro n2
  induction n2 with
  | zero =>
    intro i hlt hi
    exact absurd hlt (by omega)
  | succ n2 ih =>
    intro i hlt hi
    refine vg_iload C d_G_definitionsGiven_13 rfl ?_
    refine vg_iload_n C d_G_definitionsGiven_15 rfl ?_
    refine vg_icmp_ge (tgt := 40) C d_G_definitionsGiven_16 (by decide) (fun c_16 => ?_) (fun c_16 => ?_)
    · rw [nI_leI (by omega) (by omega)] at c_16
      refine vg_iload_n C d_G_definitionsGiven_40 rfl ?_
      exact vg_ireturn C hQ d_G_definitionsGiven_41 rfl (by first | rfl | assumption) (by rw [show i = 4 by omega]; exact hpost)
    · rw [nI_leI (by omega) (by omega)] at c_16
      refine vg_aload_n C d_G_definitionsGiven_19 rfl ?_
      refine vg_iload C d_G_definitionsGiven_20 rfl ?_
      refine wr_iald C d_G_definitionsGiven_22 rfl rfl (by exact vp_in_nI (by omega) (by decide)) ?_
      rw [nI_clamp (by omega)]
      refine vg_istore C d_G_definitionsGiven_23 (Nat.le_of_ble_eq_true rfl) rfl ?_
      refine vg_iload C d_G_definitionsGiven_25 rfl ?_
      refine vg_iconst (v := (-1)) C d_G_definitionsGiven_27 (by decide) ?_
      refine vg_icmp_eq (tgt := 34) C d_G_definitionsGiven_28 (by decide) (fun c_28 => ?_) (fun c_28 => ?_)
      · skip
        refine vg_iinc (v := nI (i + 1)) C d_G_definitionsGiven_34 rfl (nI_1 i) (Nat.le_of_ble_eq_true rfl) rfl ?_
        refine vg_goto (tgt := 13) C d_G_definitionsGiven_37 (by decide) ?_
        refine vg_lv [0, 2, 3, 4, 5] rfl ?_
        first
          | (have e : gct σ (i + 1) = gct σ i + 1 := by show gct σ i + _ = _; rw [if_neg c_28]
             rw [← e]
             exact ih (i + 1) (by omega) (by omega))
          | (have e : gct σ (i + 1) = gct σ i := by show gct σ i + _ = _; rw [if_pos c_28, Nat.add_zero]
             rw [← e]
             exact ih (i + 1) (by omega) (by omega))
      · skip
        refine vg_iinc (v := nI (gct σ i + 1)) C d_G_definitionsGiven_31 rfl (nI_1 (gct σ i)) (Nat.le_of_ble_eq_true rfl) rfl ?_
        refine vg_iinc (v := nI (i + 1)) C d_G_definitionsGiven_34 rfl (nI_1 i) (Nat.le_of_ble_eq_true rfl) rfl ?_
        refine vg_goto (tgt := 13) C d_G_definitionsGiven_37 (by decide) ?_
        refine vg_lv [0, 3, 4, 1, 5] rfl ?_
        first
          | (have e : gct σ (i + 1) = gct σ i + 1 := by show gct σ i + _ = _; rw [if_neg c_28]
             rw [← e]
             exact ih (i + 1) (by omega) (by omega))
          | (have e : gct σ (i + 1) = gct σ i := by show gct σ i + _ = _; rw [if_pos c_28, Nat.add_zero]
             rw [← e]
             exact ih (i + 1) (by omega) (by omega))
set_option maxHeartbeats 4000000 in
set_option maxRecDepth 100000 in
theorem c_G_definitionsGiven (Z : vg_Z) (hst : vg_St Z) (ad : Nat → Nat) (σ : sg)   : vg_T Z M_G_definitionsGiven 0 0 [.ref (ad 1)] (wd Z ad σ) (fun v w => v = some (.int (nI (gct σ 4))) ∧ w = wd Z ad σ) := by
  refine vg_enter hst (by decide) rfl (Nat.le_of_ble_eq_true rfl) ?_
  intro G C hQ
  show vg_K Z M_G_definitionsGiven G 0 0 0 [(0, .ref (ad 1))] [] (wd Z ad σ)
  refine vg_iconst (v := 0) C d_G_definitionsGiven_0 (by decide) ?_
  refine vg_istore_n C d_G_definitionsGiven_1 (Nat.le_of_ble_eq_true rfl) rfl ?_
  refine vg_aload_n C d_G_definitionsGiven_2 rfl ?_
  refine wr_get C d_G_definitionsGiven_3 f_G_24 rfl rfl rfl rfl ?_
  refine vg_astore_n C d_G_definitionsGiven_6 (Nat.le_of_ble_eq_true rfl) rfl ?_
  refine vg_aload_n C d_G_definitionsGiven_7 rfl ?_
  refine wr_alen (t := 0) C d_G_definitionsGiven_8 rfl rfl rfl ?_
  refine vg_istore_n C d_G_definitionsGiven_9 (Nat.le_of_ble_eq_true rfl) rfl ?_
  refine vg_iconst (v := 0) C d_G_definitionsGiven_10 (by decide) ?_
  refine vg_istore C d_G_definitionsGiven_11 (Nat.le_of_ble_eq_true rfl) rfl ?_
  exact lp_G_definitionsGiven hst C hQ ad σ ⟨rfl, rfl⟩ 5 0 (by omega) (by omega)
