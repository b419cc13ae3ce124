/-! Matcher: weighValues, weighNodes, suitsNode, leastNode, mostChildren, suitsNothing -/
theorem Nd_t {σ : sg} {v : Int32} : Nd (s_lt σ (-1) v) 111 0 1 (fun _ => none) := ⟨s_lt_at.1, by decide, s_lt_at.2.1, by decide, fun i hi => Or.inl ⟨rfl, by rw [show i = 0 by omega]; exact s_lt_at.2.2.1⟩⟩
theorem Nd_n {σ : sg} {t : Nat} (ht : t < 16) : Nd (s_lt σ (nI t) 0) 111 0 1 (fun _ => some t) := ⟨s_lt_at.1, by decide, s_lt_at.2.1, by decide, fun i hi => Or.inr ⟨t, rfl, ht, by rw [show i = 0 by omega]; exact s_lt_at.2.2.1⟩⟩
theorem Nd_0 {σ : sg} : Nd (s_begin σ 111 0) 111 0 0 (fun _ => none) := ⟨s_begin_at.1, by decide, s_begin_at.2, by decide, fun i hi => absurd hi (by omega)⟩
/-- the first i values of node t are weighed, nothing else of the nodes has changed -/
def VI (σ τ : sg) (m t i : Nat) : Prop := FrW σ τ ∧ (∀ u, u < 16 → τ.2 (11 + 6 * u) = σ.2 (11 + 6 * u)) ∧ (∀ u, u < 16 → u ≠ t → τ.2 (11 + 6 * u + 3) = σ.2 (11 + 6 * u + 3)) ∧ VS τ m t i
theorem VI_0 {σ : sg} {m t : Nat} : VI σ σ m t 0 := ⟨FrW_rf, fun _ _ => rfl, fun _ _ _ => rfl, fun j hj => absurd hj (by omega)⟩
def s_vs (τ : sg) (t i : Nat) (v : Int32) (R : Nat → Int64) (sd : Int64) : sg := sL (s_w (s_lt τ (-1) v) 111 0 R sd) (11 + 6 * t + 3) (vp_updL ((s_w (s_lt τ (-1) v) 111 0 R sd).2 (11 + 6 * t + 3)) i sd)
theorem VI_step {σ τ : sg} {n p0 m t i : Nat} {H : Nat → Nat} {R : Nat → Int64} {sd : Int64} (ht : t < 16) (hG : Gr σ n H) (hH : ∀ q, q < n → H q ≤ 32) (hT : BT σ) (hL : Li σ n p0 m) (h : VI σ τ m t i) (hO : WO (s_lt τ (-1) (σ.1 (11 + 6 * t + 2) i)) 111 0 1 (fun _ => none) m R sd) : VI σ (s_vs τ t i (σ.1 (11 + 6 * t + 2) i) R sd) m t (i + 1) := by
  obtain ⟨h1, h2, h3, h4⟩ := h
  have hf : FrW τ (s_vs τ t i (σ.1 (11 + 6 * t + 2) i) R sd) := by
    refine FrW_tr (FrW_lt (x := -1) (y := σ.1 (11 + 6 * t + 2) i)) (FrW_tr (FrW_w (k := 111) (na := 0) (R := R) (sd := sd) (Or.inl rfl)) ⟨fun _ _ _ _ _ => rfl, fun j a b c => ?_⟩)
    exact sL_ne _ (c t ht).2
  have hfs := FrW_tr h1 hf
  have hsem := lone_t (FrW_BT h1 hT) (FrW_Gr h1 hG) hH (FrW_Li h1 hL) hO
  have hlg : ∀ j, j ≠ 11 + 6 * t + 3 → j ≠ 111 → j ≠ 110 → (s_vs τ t i (σ.1 (11 + 6 * t + 2) i) R sd).2 j = τ.2 j := fun j a b c => by
    unfold s_vs
    rw [sL_ne _ a, s_w_ne b c]
    rfl
  refine ⟨hfs, fun u hu => (hlg _ (by omega) (by omega) (by omega)).trans (h2 u hu), fun u hu hn => (hlg _ (by omega) (by omega) (by omega)).trans (h3 u hu hn), ?_⟩
  have e7 : ∀ j, j ≠ 107 → j ≠ 111 → j ≠ 115 → j ≠ 116 → (s_vs τ t i (σ.1 (11 + 6 * t + 2) i) R sd).1 j = τ.1 j := hf.1
  have old : ∀ j, j ≠ i → (s_vs τ t i (σ.1 (11 + 6 * t + 2) i) R sd).2 (11 + 6 * t + 3) j = τ.2 (11 + 6 * t + 3) j := fun j hj => by
    unfold s_vs
    rw [sL_at, pk_uLn hj, s_w_ne (by omega) (by omega)]
    rfl
  have new : (s_vs τ t i (σ.1 (11 + 6 * t + 2) i) R sd).2 (11 + 6 * t + 3) i = sd := by
    unfold s_vs
    rw [sL_at]
    exact pk_uLs
  intro j hj q hq
  rw [FrW_lst hf, e7 2 (by decide) (by decide) (by decide) (by decide), e7 3 (by decide) (by decide) (by decide) (by decide), e7 4 (by decide) (by decide) (by decide) (by decide), e7 6 (by decide) (by decide) (by decide) (by decide), e7 (11 + 6 * t + 2) (by omega) (by omega) (by omega) (by omega)]
  rcases Nat.lt_or_ge j i with y | y
  · rw [old j (by omega)]
    exact h4 j y q hq
  · rw [show j = i by omega, new, h1.1 (11 + 6 * t + 2) (by omega) (by omega) (by omega) (by omega)]
    exact hsem q hq
set_option maxHeartbeats 4000000 in
set_option maxRecDepth 100000 in
theorem lp_T_weighValues {Z : vg_Z} (hst : vg_St Z) {G : vg_G} {post : Option Value → va_W → Prop} (C : vg_C Z M_T_weighValues G) (hQ : vg_Rt Z G 0 0 post) (ad : Nat → Nat) (σ : sg) (t : Nat) (ht : t < 16) (na nc : Nat) (cd : Nat → Option Nat) (hN : Nd σ (11 + 6 * t) na nc cd) (n : Nat) (H : Nat → Nat) (hG : Gr σ n H) (hH : ∀ q, q < n → H q ≤ 32) (hT : BT σ) (p0 m : Nat) (hL : Li σ n p0 m) (hpost : ∀ τ, VI σ τ m t na → post none (wd Z ad τ)) : ∀ (n2 : Nat) (i : Nat) (τ : sg) (hlt : na < i + n2) (hi : i ≤ na) , VI σ τ m t i → vg_K Z M_T_weighValues G 0 0 2 [(2, .int (nI i)), (0, .ref (ad 107)), (1, .ref (ad (11 + 6 * t)))] [] (wd Z ad τ) := by
  have hn := hG.1.1
  have hna3 := hN.2.1
  intro n2
  induction n2 with
  | zero =>
    intro i τ hlt hi hV
    exact absurd hlt (by omega)
  | succ n2 ih =>
    intro i τ hlt hi hV
    refine vg_iload_n C d_T_weighValues_2 rfl ?_
    refine vg_aload_n C d_T_weighValues_3 rfl ?_
    refine wr_get C d_T_weighValues_4 f_T_85 (nd_of t ht) rfl rfl rfl ?_
    rw [hV.1.1 _ (by omega) (by omega) (by omega) (by omega), hN.1]
    refine vg_icmp_ge (tgt := 59) C d_T_weighValues_7 (by decide) (fun c_7 => ?_) (fun c_7 => ?_)
    · rw [nI_leI (by omega) (by omega)] at c_7
      exact vg_return C hQ d_T_weighValues_59 rfl (hpost τ (by rw [show na = i by omega]; exact hV))
    · rw [nI_leI (by omega) (by omega)] at c_7
      refine vg_aload_n C d_T_weighValues_10 rfl ?_
      refine wr_get C d_T_weighValues_11 f_T_24 rfl rfl rfl rfl ?_
      refine vg_iconst (v := 0) C d_T_weighValues_14 (by decide) ?_
      refine wr_callV (As := [_]) C (c_N_begin Z hst ad τ 0 111 rfl) l_T_weighValues_N_begin k_T_64 rfl rfl rfl rfl rfl (Nat.le_of_ble_eq_true rfl) d_T_weighValues_15 ⟨Nat.le_of_ble_eq_true rfl, Nat.le_of_ble_eq_true rfl⟩ (fun v_15 w_15 h_15 => ?_)
      obtain ⟨rfl, rfl⟩ := h_15
      refine vg_aload_n C d_T_weighValues_18 rfl ?_
      refine wr_get C d_T_weighValues_19 f_T_24 rfl rfl rfl rfl ?_
      refine vg_iconst (v := (-1)) C d_T_weighValues_22 (by decide) ?_
      refine vg_aload_n C d_T_weighValues_23 rfl ?_
      refine wr_get C d_T_weighValues_24 f_T_88 (nd_of t ht) rfl rfl rfl ?_
      refine vg_iload_n C d_T_weighValues_27 rfl ?_
      refine wr_iald C d_T_weighValues_28 (nd_2 (nd_of t ht)) rfl (by exact vp_in_nI (by omega) (by decide)) ?_
      rw [nI_clamp (by omega), s_begin_ne (by omega), hV.1.1 _ (by omega) (by omega) (by omega) (by omega)]
      refine wr_callV (As := [_, _]) C (c_N_addChild Z hst ad (s_begin τ 111 0) (-1) (σ.1 (11 + 6 * t + 2) i) 0 111 rfl s_begin_at.2 (by decide)) l_T_weighValues_N_addChild k_T_67 rfl rfl rfl rfl rfl (Nat.le_of_ble_eq_true rfl) d_T_weighValues_29 ⟨Nat.le_of_ble_eq_true rfl, Nat.le_of_ble_eq_true rfl⟩ (fun v_29 w_29 h_29 => ?_)
      obtain ⟨rfl, rfl⟩ := h_29
      refine vg_w (ws' := wd Z ad (s_lt τ (-1) (σ.1 (11 + 6 * t + 2) i))) rfl ?_
      refine vg_aload_n C d_T_weighValues_32 rfl ?_
      refine vg_aload_n C d_T_weighValues_33 rfl ?_
      refine wr_get C d_T_weighValues_34 f_T_24 rfl rfl rfl rfl ?_
      refine wr_callV (As := [_]) C (c_T_weigh Z hst ad (s_lt τ (-1) (σ.1 (11 + 6 * t + 2) i)) 111 rfl 0 1 (fun _ => none) Nd_t n H (FrW_Gr (FrW_tr hV.1 FrW_lt) hG) p0 m (FrW_Li (FrW_tr hV.1 FrW_lt) hL)) l_T_weighValues_T_weigh k_T_61 rfl rfl rfl rfl rfl (Nat.le_of_ble_eq_true rfl) d_T_weighValues_37 ⟨Nat.le_of_ble_eq_true rfl, Nat.le_of_ble_eq_true rfl⟩ (fun v_37 w_37 h_37 => ?_)
      obtain ⟨rfl, R, sd, hO, rfl⟩ := h_37
      refine vg_aload_n C d_T_weighValues_40 rfl ?_
      refine wr_get C d_T_weighValues_41 f_T_92 (nd_of t ht) rfl rfl rfl ?_
      refine vg_iload_n C d_T_weighValues_44 rfl ?_
      refine vg_aload_n C d_T_weighValues_45 rfl ?_
      refine wr_get C d_T_weighValues_46 f_T_24 rfl rfl rfl rfl ?_
      refine wr_get C d_T_weighValues_49 f_T_95 rfl rfl rfl rfl ?_
      rw [s_w_at]
      refine wr_last C d_T_weighValues_52 (nd_3 (nd_of t ht)) rfl (by exact vp_in_nI (by omega) (by decide)) ?_
      rw [nI_clamp (by omega)]
      refine vg_iinc (v := nI (i + 1)) C d_T_weighValues_53 rfl (nI_1 i) (Nat.le_of_ble_eq_true rfl) rfl ?_
      refine vg_goto (tgt := 2) C d_T_weighValues_56 (by decide) ?_
      exact ih (i + 1) _ (by omega) (by omega) (VI_step ht hG hH hT hL hV hO)
set_option maxHeartbeats 4000000 in
set_option maxRecDepth 100000 in
theorem c_T_weighValues (Z : vg_Z) (hst : vg_St Z) (ad : Nat → Nat) (σ : sg) (t : Nat) (ht : t < 16) (na nc : Nat) (cd : Nat → Option Nat) (hN : Nd σ (11 + 6 * t) na nc cd) (n : Nat) (H : Nat → Nat) (hG : Gr σ n H) (hH : ∀ q, q < n → H q ≤ 32) (hT : BT σ) (p0 m : Nat) (hL : Li σ n p0 m)  : vg_T Z M_T_weighValues 0 0 [.ref (ad 107), .ref (ad (11 + 6 * t))] (wd Z ad σ) (fun v w => v = none ∧ ∃ τ, VI σ τ m t na ∧ w = wd Z ad τ) := by
  refine vg_enter hst (by decide) rfl (Nat.le_of_ble_eq_true rfl) ?_
  intro G C hQ
  show vg_K Z M_T_weighValues G 0 0 0 [(0, .ref (ad 107)), (1, .ref (ad (11 + 6 * t)))] [] (wd Z ad σ)
  refine vg_iconst (v := 0) C d_T_weighValues_0 (by decide) ?_
  refine vg_istore_n C d_T_weighValues_1 (Nat.le_of_ble_eq_true rfl) rfl ?_
  exact lp_T_weighValues hst C hQ ad σ t ht na nc cd hN n H hG hH hT p0 m hL (fun τ h => ⟨rfl, τ, h, rfl⟩) (na + 1) 0 σ (by omega) (by omega) VI_0
/-- from node j on all is weighed; the node j was the last -/
def NI (σ τ : sg) (D : Dc) (nd m j : Nat) : Prop := FrW σ τ ∧ CS τ D nd m j ∧ (j < nd → ∃ na nj, RN τ D j na nj ∧ τ.1 107 5 = nI (2 ^ na) ∧ ∀ q, lst τ m q → ∀ z, z < 64 → (Rb (τ.2 110) q (2 ^ na - 1) z ↔ MD (τ.1 2) (τ.1 3) (τ.1 4) (τ.1 6) D (FU (τ.1 2) (τ.1 3) (τ.1 4) (τ.1 6) D) j q (mk D j 6) z))
theorem NI_0 {σ : sg} {D : Dc} {nd m : Nat} : NI σ σ D nd m nd := ⟨FrW_rf, fun t h1 h2 => absurd h1 (by omega), fun h => absurd h (by omega)⟩
theorem FrW_k {σ τ : sg} (h : FrW σ τ) : τ.1 2 = σ.1 2 ∧ τ.1 3 = σ.1 3 ∧ τ.1 4 = σ.1 4 ∧ τ.1 6 = σ.1 6 := ⟨h.1 2 (by decide) (by decide) (by decide) (by decide), h.1 3 (by decide) (by decide) (by decide) (by decide), h.1 4 (by decide) (by decide) (by decide) (by decide), h.1 6 (by decide) (by decide) (by decide) (by decide)⟩
theorem NI_step {σ τ υ : sg} {D : Dc} {nd n p0 m j na : Nat} {nj : Nat → Nat} {H : Nat → Nat} {R : Nat → Int64} {sd : Int64} (hG : Gr σ n H) (hH : ∀ q, q < n → H q ≤ 32) (hT : BT σ) (hL : Li σ n p0 m) (hC : RC σ D nd) (hj : j < nd) (h : NI σ τ D nd m (j + 1)) (hR : RN τ D j na nj) (hV : VI τ υ m j na) (hO : WO υ (11 + 6 * j) na (D.2.2.1 j) (D.2.2.2.1 j) m R sd) : NI σ (s_w υ (11 + 6 * j) na R sd) D nd m j := by
  have hnd := hC.1.1
  obtain ⟨h1, h2, -⟩ := h
  obtain ⟨v1, v2, v3, v4⟩ := hV
  have f2 := FrW_tr h1 v1
  have f3 : FrW υ (s_w υ (11 + 6 * j) na R sd) := FrW_w (Or.inr ⟨j, by omega, rfl⟩)
  have f4 := FrW_tr f2 f3
  have hRu := RN_fr (by omega) v1 hR
  have hnm : ∀ u, u < nd → υ.1 (11 + 6 * u) 0 = D.1 u := fun u hu => by
    obtain ⟨na2, nj2, q⟩ := hC.2.2 u hu
    exact (RN_fr (by omega) f2 q).1
  have hCu : CS υ D nd m (j + 1) := fun t t1 t2 q hq => by
    rw [v2 t (by omega), (FrW_k v1).1, (FrW_k v1).2.1, (FrW_k v1).2.2.1, (FrW_k v1).2.2.2]
    exact h2 t t1 t2 q ((FrW_lst v1).mp hq)
  obtain ⟨s1, s2⟩ := N_sem (FrW_BT f2 hT) (FrW_Gr f2 hG) hH (FrW_Li f2 hL) hC.1 hj hRu hnm v4 hCu hO
  refine ⟨f4, fun t t1 t2 q hq => ?_, fun _ => ⟨na, nj, RN_fr (by omega) f3 hRu, s_w_S, fun q hq z hz => ?_⟩⟩
  · rw [FrW_lst f3] at hq
    rw [(FrW_k f3).1, (FrW_k f3).2.1, (FrW_k f3).2.2.1, (FrW_k f3).2.2.2]
    rcases Nat.lt_or_ge j t with y | y
    · rw [s_w_ne (by omega) (by omega)]
      exact hCu t y t2 q hq
    · rw [show t = j by omega, s_w_at]
      exact s2 q hq
  · rw [FrW_lst f3] at hq
    rw [s_w_R (by omega), (FrW_k f3).1, (FrW_k f3).2.1, (FrW_k f3).2.2.1, (FrW_k f3).2.2.2]
    exact s1 q hq z hz
theorem nI_dn : ∀ j, j < 17 → ∀ i, i < 17 → (nI j - 1 < nI i ↔ j ≤ i) := by decide +kernel
theorem nI_m1 : ∀ j, j < 17 → nI j + Int32.ofInt (-1) = nI j - 1 := by decide +kernel
/-- weighing all: the list, the nodes -/
def WN (σ τ : sg) (D : Dc) (nd n p j : Nat) : Prop := ∃ o m sn, LA (σ.1 2) (σ.1 3) (σ.1 4) (σ.1 6) n p o m ∧ NI (stL σ o m sn) τ D nd m j
set_option maxHeartbeats 4000000 in
set_option maxRecDepth 100000 in
theorem lp_T_weighNodes {Z : vg_Z} (hst : vg_St Z) {G : vg_G} {post : Option Value → va_W → Prop} (C : vg_C Z M_T_weighNodes G) (hQ : vg_Rt Z G 0 0 post) (ad : Nat → Nat) (σ : sg) (n : Nat) (H : Nat → Nat) (hG : Gr σ n H) (hH : ∀ q, q < n → H q ≤ 32) (hT : BT σ) (D : Dc) (nd : Nat) (hC : RC σ D nd) (p0 m : Nat) (hL : Li σ n p0 m) (p i0 : Nat) (hi0 : i0 ≤ nd) (hpost : ∀ τ, NI σ τ D nd m i0 → post none (wd Z ad τ)) : ∀ (n2 : Nat) (i : Nat) (τ : sg) (hlt : i < i0 + n2) (hi : i0 ≤ i) (hin : i ≤ nd) , NI σ τ D nd m i → vg_K Z M_T_weighNodes G 0 0 18 [(3, .int (nI i - 1)), (0, .ref (ad 107)), (1, .int (nI p)), (2, .int (nI i0))] [] (wd Z ad τ) := by
  have hnd := hC.1.1
  intro n2
  induction n2 with
  | zero =>
    intro i τ hlt hi hin hV
    exact absurd hlt (by omega)
  | succ n2 ih =>
    intro i τ hlt hi hin hV
    refine vg_iload_n C d_T_weighNodes_18 rfl ?_
    refine vg_iload_n C d_T_weighNodes_19 rfl ?_
    refine vg_icmp_lt (tgt := 52) C d_T_weighNodes_20 (by decide) (fun c_20 => ?_) (fun c_20 => ?_)
    · rw [nI_dn i (by omega) i0 (by omega)] at c_20
      exact vg_return C hQ d_T_weighNodes_52 rfl (hpost τ (by rw [show i0 = i by omega]; exact hV))
    · rw [nI_dn i (by omega) i0 (by omega)] at c_20
      obtain ⟨j, rfl⟩ : ∃ j, i = j + 1 := ⟨i - 1, by omega⟩
      have ej : nI (j + 1) - 1 = nI j := nI_p (by omega)
      obtain ⟨na, nj, hRσ⟩ := hC.2.2 j (by omega)
      have hR := RN_fr (by omega) hV.1 hRσ
      refine vg_aload_n C d_T_weighNodes_23 rfl ?_
      refine wr_get C d_T_weighNodes_24 f_T_32 rfl rfl rfl rfl ?_
      refine wr_get C d_T_weighNodes_27 f_T_53 rfl rfl rfl rfl ?_
      refine vg_iload_n C d_T_weighNodes_30 rfl ?_
      rw [ej]
      refine wr_nald C d_T_weighNodes_31 (by exact vp_in_nI (by omega) (by decide)) ?_
      rw [nI_clamp (by omega)]
      refine vg_astore C d_T_weighNodes_32 (Nat.le_of_ble_eq_true rfl) rfl ?_
      refine vg_aload_n C d_T_weighNodes_34 rfl ?_
      refine vg_aload C d_T_weighNodes_35 rfl ?_
      refine wr_callV (As := [_]) C (c_T_weighValues Z hst ad τ j (by omega) na (D.2.2.1 j) (D.2.2.2.1 j) (RN_Nd hC.1 (by omega) hR) n H (FrW_Gr hV.1 hG) hH (FrW_BT hV.1 hT) p0 m (FrW_Li hV.1 hL)) l_T_weighNodes_T_weighValues k_T_57 rfl rfl rfl rfl rfl (Nat.le_of_ble_eq_true rfl) d_T_weighNodes_37 ⟨Nat.le_of_ble_eq_true rfl, Nat.le_of_ble_eq_true rfl⟩ (fun v_37 w_37 h_37 => ?_)
      obtain ⟨rfl, υ, hVI, rfl⟩ := h_37
      refine vg_aload_n C d_T_weighNodes_40 rfl ?_
      refine vg_aload C d_T_weighNodes_41 rfl ?_
      refine wr_callV (As := [_]) C (c_T_weigh Z hst ad υ (11 + 6 * j) (nd_of j (by omega)) na (D.2.2.1 j) (D.2.2.2.1 j) (RN_Nd hC.1 (by omega) (RN_fr (by omega) hVI.1 hR)) n H (FrW_Gr (FrW_tr hV.1 hVI.1) hG) p0 m (FrW_Li (FrW_tr hV.1 hVI.1) hL)) l_T_weighNodes_T_weigh k_T_61 rfl rfl rfl rfl rfl (Nat.le_of_ble_eq_true rfl) d_T_weighNodes_43 ⟨Nat.le_of_ble_eq_true rfl, Nat.le_of_ble_eq_true rfl⟩ (fun v_43 w_43 h_43 => ?_)
      obtain ⟨rfl, R, sd, hO, rfl⟩ := h_43
      refine vg_iinc (v := nI j - 1) C d_T_weighNodes_46 rfl (nI_m1 j (by omega)) (Nat.le_of_ble_eq_true rfl) rfl ?_
      refine vg_goto (tgt := 18) C d_T_weighNodes_49 (by decide) ?_
      refine vg_lv [0, 2, 3, 4] rfl ?_
      exact ih j _ (by omega) (by omega) (by omega) (NI_step hG hH hT hL hC (by omega) hV hR hVI hO)
theorem RC_st {σ : sg} {D : Dc} {nd m : Nat} {o : Nat → Int32} {sn : Int64} (h : RC σ D nd) : RC (stL σ o m sn) D nd := by
  refine ⟨h.1, by rw [stL_ne _ _ _ _ (by decide) (by decide)]; exact h.2.1, fun t ht => ?_⟩
  obtain ⟨na, nj, q⟩ := h.2.2 t ht
  refine ⟨na, nj, ?_⟩
  unfold RN
  rw [stL_ne _ _ _ _ (j := 11 + 6 * t) (by omega) (by omega), stL_ne _ _ _ _ (j := 11 + 6 * t + 1) (by omega) (by omega), stL_ne _ _ _ _ (j := 11 + 6 * t + 2) (by omega) (by omega), stL_ne _ _ _ _ (j := 11 + 6 * t + 4) (by omega) (by omega), stL_ne _ _ _ _ (j := 11 + 6 * t + 5) (by omega) (by omega)]
  exact q
theorem Li_st {σ : sg} {n p m : Nat} {o : Nat → Int32} {sn : Int64} (h : LA (σ.1 2) (σ.1 3) (σ.1 4) (σ.1 6) n p o m) : Li (stL σ o m sn) n p m := by
  unfold Li
  rw [stL_ne _ _ _ _ (j := 2) (by decide) (by decide), stL_ne _ _ _ _ (j := 3) (by decide) (by decide), stL_ne _ _ _ _ (j := 4) (by decide) (by decide), stL_ne _ _ _ _ (j := 6) (by decide) (by decide), stL_o, stL_m]
  exact ⟨h, rfl⟩
theorem Gr_st {σ : sg} {n m : Nat} {H : Nat → Nat} {o : Nat → Int32} {sn : Int64} (h : Gr σ n H) : Gr (stL σ o m sn) n H := by
  unfold Gr
  rw [stL_ne _ _ _ _ (j := 2) (by decide) (by decide), stL_ne _ _ _ _ (j := 3) (by decide) (by decide), stL_ne _ _ _ _ (j := 4) (by decide) (by decide), stL_ne _ _ _ _ (j := 6) (by decide) (by decide)]
  exact h
theorem BT_st {σ : sg} {m : Nat} {o : Nat → Int32} {sn : Int64} (h : BT σ) : BT (stL σ o m sn) := fun x y hx hy => by
  rw [stL_2 _ _ _ _ (j := 108) (by decide), stL_2 _ _ _ _ (j := 109) (by decide)]
  exact h x y hx hy
set_option maxHeartbeats 4000000 in
set_option maxRecDepth 100000 in
theorem c_T_weighNodes (Z : vg_Z) (hst : vg_St Z) (ad : Nat → Nat) (σ : sg) (n : Nat) (H : Nat → Nat) (hG : Gr σ n H) (hH : ∀ q, q < n → H q ≤ 32) (hT : BT σ) (D : Dc) (nd : Nat) (hC : RC σ D nd) (p : Nat) (hp : p < n) (i0 : Nat) (hi0 : i0 ≤ nd)  : vg_T Z M_T_weighNodes 0 0 [.ref (ad 107), .int (nI p), .int (nI i0)] (wd Z ad σ) (fun v w => v = none ∧ ∃ τ, WN σ τ D nd n p i0 ∧ w = wd Z ad τ) := by
  refine vg_enter hst (by decide) rfl (Nat.le_of_ble_eq_true rfl) ?_
  intro G C hQ
  show vg_K Z M_T_weighNodes G 0 0 0 [(0, .ref (ad 107)), (1, .int (nI p)), (2, .int (nI i0))] [] (wd Z ad σ)
  refine vg_aload_n C d_T_weighNodes_0 rfl ?_
  refine wr_get C d_T_weighNodes_1 f_T_28 rfl rfl rfl rfl ?_
  refine vg_iload_n C d_T_weighNodes_4 rfl ?_
  refine wr_callV (As := [_]) C (c_G_listAll Z hst ad σ n H hG.1 hH p hp) l_T_weighNodes_G_listAll k_T_41 rfl rfl rfl rfl rfl (Nat.le_of_ble_eq_true rfl) d_T_weighNodes_5 ⟨Nat.le_of_ble_eq_true rfl, Nat.le_of_ble_eq_true rfl⟩ (fun v_5 w_5 h_5 => ?_)
  obtain ⟨rfl, o, m, sn, hLA, rfl⟩ := h_5
  refine vg_aload_n C d_T_weighNodes_8 rfl ?_
  refine wr_get C d_T_weighNodes_9 f_T_32 rfl rfl rfl rfl ?_
  refine wr_get C d_T_weighNodes_12 f_T_47 rfl rfl rfl rfl ?_
  rw [stL_ne _ _ _ _ (by decide) (by decide), hC.2.1]
  refine vg_iconst (v := 1) C d_T_weighNodes_15 (by decide) ?_
  refine vg_isub C d_T_weighNodes_16 ?_
  refine vg_istore_n C d_T_weighNodes_17 (Nat.le_of_ble_eq_true rfl) rfl ?_
  exact lp_T_weighNodes hst C hQ ad (stL σ o m sn) n H (Gr_st hG) hH (BT_st hT) D nd (RC_st hC) p m (Li_st hLA) p i0 hi0 (fun τ h => ⟨rfl, τ, ⟨o, m, sn, hLA, h⟩, rfl⟩) (nd + 1) nd _ (by omega) (by omega) (by omega) NI_0
