/-! Grammar.comesTo, listAll -/
theorem stL_start (σ : sg) : sL (sI σ 1 (upd (σ.1 1) 7 0)) 1 (vp_updL (σ.2 1) 8 0) = stL σ (σ.1 7) 0 0 := by
  unfold stL
  rw [sI_id, nI_0]
def Cm (k f s g : Nat → Int32) (p : Nat) (e : Int32) : Prop := ∃ q, q < 40 ∧ Rch k f s g p q ∧ k q = 10 ∧ f q = e
theorem lsI_0 {k f s g : Nat → Int32} {n : Nat} {o : Nat → Int32} {sn : Int64} : ls_I k f s g n o 0 sn := ⟨fun i h => absurd h (by omega), fun i j h => absurd h (by omega)⟩
theorem lsS_0 {n : Nat} {H : Nat → Nat} {o : Nat → Int32} {m h : Nat} : ls_S n H o m 0 h := fun q _ hb => by rw [lb_0] at hb; cases hb
theorem lsP_Cm {k f s g : Nat → Int32} {n p m : Nat} {H : Nat → Nat} {o o0 : Nat → Int32} {sn : Int64} {e : Int32} (hn : n ≤ 40) (h : ls_P k f s g n H p o0 0 0 o m sn) : (∃ i, i < m ∧ k (ot o i) = 10 ∧ f (ot o i) = e) ↔ Cm k f s g p e := by
  obtain ⟨h1, h2, h3, h4, h5, h6⟩ := h
  constructor
  · rintro ⟨i, hi, a, b⟩
    exact ⟨ot o i, by have := (h1.1 i hi).2.1; omega, (h6 i (Nat.zero_le i) hi).2, a, b⟩
  · rintro ⟨q, hq, hr, a, b⟩
    obtain ⟨i, hi, e2⟩ := hr (fun q => ∃ i, i < m ∧ ot o i = q) h4 (fun x c hx hc hch => by
      obtain ⟨i, hi, rfl⟩ := hx
      obtain ⟨j, hj, e3⟩ := (h1.1 i hi).2.2.2 c hc hch
      exact ⟨j, by omega, e3⟩)
    exact ⟨i, hi, by rw [e2]; exact a, by rw [e2]; exact b⟩
theorem lsI_m {k f s g : Nat → Int32} {n m : Nat} {o : Nat → Int32} {sn : Int64} (h : ls_I k f s g n o m sn) : m ≤ n := php n m (ot o) (fun i hi => (h.1 i hi).2.1) h.2
set_option maxHeartbeats 4000000 in
set_option maxRecDepth 100000 in
theorem lp_G_comesTo {Z : vg_Z} (hst : vg_St Z) {G : vg_G} {post : Option Value → va_W → Prop} (C : vg_C Z M_G_comesTo G) (hQ : vg_Rt Z G 0 0 post) (ad : Nat → Nat) (σ : sg) (n : Nat) (H : Nat → Nat) (hW : WG (σ.1 2) (σ.1 3) (σ.1 4) (σ.1 6) n H) (hH : ∀ q, q < n → H q ≤ 32) (o : Nat → Int32) (m : Nat) (sn : Int64) (hL : ls_I (σ.1 2) (σ.1 3) (σ.1 4) (σ.1 6) n o m sn) (x e : Int32) (hp : post (some (.int (bP (∃ i, i < m ∧ σ.1 2 (ot o i) = 10 ∧ σ.1 3 (ot o i) = e)))) (wd Z ad (stL σ o m sn))) : ∀ (n2 : Nat) (i : Nat) (hlt : m < i + n2) (hi : i ≤ m) , (∀ j, j < i → ¬ (σ.1 2 (ot o j) = 10 ∧ σ.1 3 (ot o j) = e)) → vg_K Z M_G_comesTo G 0 0 12 [(3, .int (nI i)), (0, .ref (ad 1)), (1, .int x), (2, .int e)] [] (wd Z ad (stL σ o m sn)) := by
  have hm := lsI_m hL
  have hn := hW.1
  intro n2
  induction n2 with
  | zero =>
    intro i hlt hi hno
    exact absurd hlt (by omega)
  | succ n2 ih =>
    intro i hlt hi hno
    refine vg_iload_n C d_G_comesTo_12 rfl ?_
    refine vg_aload_n C d_G_comesTo_13 rfl ?_
    refine wr_get C d_G_comesTo_14 f_G_61 rfl rfl rfl rfl ?_
    rw [stL_m]
    refine vg_icmp_ge (tgt := 59) C d_G_comesTo_17 (by decide) (fun c_17 => ?_) (fun c_17 => ?_)
    · rw [nI_leI (by omega) (by omega)] at c_17
      refine vg_iconst (v := 0) C d_G_comesTo_59 (by decide) ?_
      exact vg_ireturn C hQ d_G_comesTo_60 rfl (by first | rfl | assumption) (by have z := hp; rw [bP_f (p := (∃ i, i < m ∧ σ.1 2 (ot o i) = 10 ∧ σ.1 3 (ot o i) = e)) (by rintro ⟨j, hj, h⟩; exact hno j (by omega) h)] at z; exact z)
    · rw [nI_leI (by omega) (by omega)] at c_17
      obtain ⟨ho1, ho2, -⟩ := hL.1 i (by omega)
      have ho1 : o i = nI (ot o i) := ho1
      refine vg_aload_n C d_G_comesTo_20 rfl ?_
      refine wr_get C d_G_comesTo_21 f_G_9 rfl rfl rfl rfl ?_
      refine vg_aload_n C d_G_comesTo_24 rfl ?_
      refine wr_get C d_G_comesTo_25 f_G_27 rfl rfl rfl rfl ?_
      refine vg_iload_n C d_G_comesTo_28 rfl ?_
      refine wr_iald C d_G_comesTo_29 rfl rfl (by exact vp_in_nI (by omega) (by decide)) ?_
      rw [nI_clamp (by omega), stL_o, ho1]
      refine wr_iald C d_G_comesTo_30 rfl rfl (by exact vp_in_nI (by omega) (by decide)) ?_
      rw [nI_clamp (by omega), stL_ne _ _ _ _ (by decide) (by decide)]
      refine vg_bipush (v := 10) C d_G_comesTo_31 (by decide) ?_
      refine vg_icmp_ne (tgt := 53) C d_G_comesTo_33 (by decide) (fun c_33 => ?_) (fun c_33 => ?_)
      · skip
        refine vg_iinc (v := nI (i + 1)) C d_G_comesTo_53 rfl (nI_1 i) (Nat.le_of_ble_eq_true rfl) rfl ?_
        refine vg_goto (tgt := 12) C d_G_comesTo_56 (by decide) ?_
        first | exact ih (i + 1) (by omega) (by omega) (lt_s hno (fun h => c_33 h.1)) | exact ih (i + 1) (by omega) (by omega) (lt_s hno (fun h => c_48 h.2))
      · skip
        refine vg_aload_n C d_G_comesTo_36 rfl ?_
        refine wr_get C d_G_comesTo_37 f_G_15 rfl rfl rfl rfl ?_
        refine vg_aload_n C d_G_comesTo_40 rfl ?_
        refine wr_get C d_G_comesTo_41 f_G_27 rfl rfl rfl rfl ?_
        refine vg_iload_n C d_G_comesTo_44 rfl ?_
        refine wr_iald C d_G_comesTo_45 rfl rfl (by exact vp_in_nI (by omega) (by decide)) ?_
        rw [nI_clamp (by omega), stL_o, ho1]
        refine wr_iald C d_G_comesTo_46 rfl rfl (by exact vp_in_nI (by omega) (by decide)) ?_
        rw [nI_clamp (by omega), stL_ne _ _ _ _ (by decide) (by decide)]
        refine vg_iload_n C d_G_comesTo_47 rfl ?_
        refine vg_icmp_ne (tgt := 53) C d_G_comesTo_48 (by decide) (fun c_48 => ?_) (fun c_48 => ?_)
        · skip
          refine vg_iinc (v := nI (i + 1)) C d_G_comesTo_53 rfl (nI_1 i) (Nat.le_of_ble_eq_true rfl) rfl ?_
          refine vg_goto (tgt := 12) C d_G_comesTo_56 (by decide) ?_
          first | exact ih (i + 1) (by omega) (by omega) (lt_s hno (fun h => c_33 h.1)) | exact ih (i + 1) (by omega) (by omega) (lt_s hno (fun h => c_48 h.2))
        · skip
          refine vg_iconst (v := 1) C d_G_comesTo_51 (by decide) ?_
          exact vg_ireturn C hQ d_G_comesTo_52 rfl (by first | rfl | assumption) (by have z := hp; rw [bP_t (p := (∃ i, i < m ∧ σ.1 2 (ot o i) = 10 ∧ σ.1 3 (ot o i) = e)) ⟨i, by omega, c_33, c_48⟩] at z; exact z)
set_option maxHeartbeats 4000000 in
set_option maxRecDepth 100000 in
theorem c_G_comesTo (Z : vg_Z) (hst : vg_St Z) (ad : Nat → Nat) (σ : sg) (n : Nat) (H : Nat → Nat) (hW : WG (σ.1 2) (σ.1 3) (σ.1 4) (σ.1 6) n H) (hH : ∀ q, q < n → H q ≤ 32) (p : Nat) (hp : p < n) (e : Int32)  : vg_T Z M_G_comesTo 0 0 [.ref (ad 1), .int (nI p), .int e] (wd Z ad σ) (fun v w => v = some (.int (bP (Cm (σ.1 2) (σ.1 3) (σ.1 4) (σ.1 6) p e))) ∧ ∃ o m sn, w = wd Z ad (stL σ o m sn)) := by
  refine vg_enter hst (by decide) rfl (Nat.le_of_ble_eq_true rfl) ?_
  intro G C hQ
  show vg_K Z M_G_comesTo G 0 0 0 [(0, .ref (ad 1)), (1, .int (nI p)), (2, .int e)] [] (wd Z ad σ)
  refine vg_aload_n C d_G_comesTo_0 rfl ?_
  refine wr_callV (As := []) C (c_G_startList Z hst ad σ) l_G_comesTo_G_startList k_G_54 rfl rfl rfl rfl rfl (Nat.le_of_ble_eq_true rfl) d_G_comesTo_1 ⟨Nat.le_of_ble_eq_true rfl, Nat.le_of_ble_eq_true rfl⟩ (fun v_1 w_1 h_1 => ?_)
  obtain ⟨rfl, rfl⟩ := h_1
  rw [stL_start]
  refine vg_aload_n C d_G_comesTo_4 rfl ?_
  refine vg_iload_n C d_G_comesTo_5 rfl ?_
  refine vg_iconst (v := 0) C d_G_comesTo_6 (by decide) ?_
  refine wr_callV (As := [_, _]) C (c_G_list Z hst ad σ n H hW 33 p 0 _ _ _ hp (by have := hH p hp; omega) (by have := hH p hp; omega) lsI_0 lsS_0) l_G_comesTo_G_list k_G_57 rfl rfl rfl rfl rfl (Nat.le_of_ble_eq_true rfl) d_G_comesTo_7 ⟨Nat.le_of_ble_eq_true rfl, Nat.le_of_ble_eq_true rfl⟩ (fun v_7 w_7 h_7 => ?_)
  obtain ⟨rfl, o, m, sn, hP, rfl⟩ := h_7
  refine vg_iconst (v := 0) C d_G_comesTo_10 (by decide) ?_
  refine vg_istore_n C d_G_comesTo_11 (Nat.le_of_ble_eq_true rfl) rfl ?_
  exact lp_G_comesTo hst C hQ ad σ n H hW hH o m sn hP.1 (nI p) e ⟨by rw [bP_congr (lsP_Cm hW.1 hP)], o, m, sn, rfl⟩ (m + 1) 0 (by omega) (by omega) (fun j hj => absurd hj (by omega))
/-- the list of all patterns that have a say in p -/
def LA (k f s g : Nat → Int32) (n p : Nat) (o : Nat → Int32) (m : Nat) : Prop := m ≤ n ∧ (∀ i, i < m → o i = nI (ot o i) ∧ ot o i < n ∧ ∀ c, c < 40 → Ch k f s g (ot o i) c → ∃ j, j < i ∧ ot o j = c) ∧ (∀ i j, i < m → j < m → ot o i = ot o j → i = j) ∧ (∃ i, i < m ∧ ot o i = p) ∧ ∀ i, i < m → k (ot o i) = 8 → ∀ c, c < 40 → s (ot o i) = nI c → ∃ j, j < m ∧ ot o j = c
/-- whoever is seen is listed -/
def ls_A (n : Nat) (o : Nat → Int32) (m : Nat) (sn : Int64) : Prop := ∀ q, q < n → lb sn q = true → ∃ i, i < m ∧ ot o i = q
theorem lsA_P {k f s g : Nat → Int32} {n p m m' : Nat} {H : Nat → Nat} {o o' : Nat → Int32} {sn sn' : Int64} (hn : n ≤ 40) (h : ls_P k f s g n H p o m sn o' m' sn') (hA : ls_A n o m sn) : ls_A n o' m' sn' := by
  intro q hq hb
  rcases (h.2.2.2.2.1 q (by omega)).mp hb with z | ⟨i, z1, z2, z3⟩
  · obtain ⟨i, hi, e⟩ := hA q hq z
    exact ⟨i, by have := h.2.1; omega, by rw [ot_of (h.2.2.1 i hi)]; exact e⟩
  · exact ⟨i, z2, z3⟩
theorem lsA_S {n m h : Nat} {H : Nat → Nat} {o : Nat → Int32} {sn : Int64} (hA : ls_A n o m sn) : ls_S n H o m sn h := fun q hq hb => Or.inl (hA q hq hb)
set_option maxHeartbeats 4000000 in
set_option maxRecDepth 100000 in
theorem lp_G_listAll {Z : vg_Z} (hst : vg_St Z) {G : vg_G} {post : Option Value → va_W → Prop} (C : vg_C Z M_G_listAll G) (hQ : vg_Rt Z G 0 0 post) (ad : Nat → Nat) (σ : sg) (n : Nat) (H : Nat → Nat) (hW : WG (σ.1 2) (σ.1 3) (σ.1 4) (σ.1 6) n H) (hH : ∀ q, q < n → H q ≤ 32) (p : Nat) (hpost : ∀ o m sn, LA (σ.1 2) (σ.1 3) (σ.1 4) (σ.1 6) n p o m → post none (wd Z ad (stL σ o m sn))) : ∀ (n2 : Nat) (i : Nat) (o : Nat → Int32) (m : Nat) (sn : Int64) (hlt : 40 < i + n2) (hi : i ≤ 40) (him : i ≤ m) , ls_I (σ.1 2) (σ.1 3) (σ.1 4) (σ.1 6) n o m sn → ls_A n o m sn → (∃ i, i < m ∧ ot o i = p) → (∀ j, j < i → σ.1 2 (ot o j) = 8 → ∀ c, c < 40 → σ.1 4 (ot o j) = nI c → ∃ j2, j2 < m ∧ ot o j2 = c) → vg_K Z M_G_listAll G 0 0 12 [(2, .int (nI i)), (0, .ref (ad 1)), (1, .int (nI p))] [] (wd Z ad (stL σ o m sn)) := by
  have hn := hW.1
  intro n2
  induction n2 with
  | zero =>
    intro i o m sn hlt hi him hL hA hpl hel
    exact absurd hlt (by omega)
  | succ n2 ih =>
    intro i o m sn hlt hi him hL hA hpl hel
    have hm := lsI_m hL
    refine vg_iload_n C d_G_listAll_12 rfl ?_
    refine vg_aload_n C d_G_listAll_13 rfl ?_
    refine wr_get C d_G_listAll_14 f_G_61 rfl rfl rfl rfl ?_
    rw [stL_m]
    refine vg_icmp_ge (tgt := 64) C d_G_listAll_17 (by decide) (fun c_17 => ?_) (fun c_17 => ?_)
    · rw [nI_leI (by omega) (by omega)] at c_17
      exact vg_return C hQ d_G_listAll_64 rfl (hpost o m sn ⟨hm, fun i hi => ⟨(hL.1 i hi).1, (hL.1 i hi).2.1, (hL.1 i hi).2.2.2⟩, hL.2, hpl, fun j hj => hel j (by omega)⟩)
    · rw [nI_leI (by omega) (by omega)] at c_17
      refine vg_iload_n C d_G_listAll_20 rfl ?_
      refine vg_bipush (v := 40) C d_G_listAll_21 (by decide) ?_
      refine vg_icmp_ge (tgt := 64) C d_G_listAll_23 (by decide) (fun c_23 => ?_) (fun c_23 => ?_)
      · rw [show (40 : Int32) = nI 40 from rfl, nI_leI (by decide) (by omega)] at c_23
        exact vg_return C hQ d_G_listAll_64 rfl (hpost o m sn ⟨hm, fun i hi => ⟨(hL.1 i hi).1, (hL.1 i hi).2.1, (hL.1 i hi).2.2.2⟩, hL.2, hpl, fun j hj => hel j (by omega)⟩)
      · rw [show (40 : Int32) = nI 40 from rfl, nI_leI (by decide) (by omega)] at c_23
        obtain ⟨ho1, ho2, -⟩ := hL.1 i (by omega)
        have ho1 : o i = nI (ot o i) := ho1
        refine vg_aload_n C d_G_listAll_26 rfl ?_
        refine wr_get C d_G_listAll_27 f_G_9 rfl rfl rfl rfl ?_
        refine vg_aload_n C d_G_listAll_30 rfl ?_
        refine wr_get C d_G_listAll_31 f_G_27 rfl rfl rfl rfl ?_
        refine vg_iload_n C d_G_listAll_34 rfl ?_
        refine wr_iald C d_G_listAll_35 rfl rfl (by exact vp_in_nI (by omega) (by decide)) ?_
        rw [nI_clamp (by omega), stL_o, ho1]
        refine wr_iald C d_G_listAll_36 rfl rfl (by exact vp_in_nI (by omega) (by decide)) ?_
        rw [nI_clamp (by omega), stL_ne _ _ _ _ (by decide) (by decide)]
        refine vg_bipush (v := 8) C d_G_listAll_37 (by decide) ?_
        refine vg_icmp_ne (tgt := 58) C d_G_listAll_39 (by decide) (fun c_39 => ?_) (fun c_39 => ?_)
        · skip
          refine vg_iinc (v := nI (i + 1)) C d_G_listAll_58 rfl (nI_1 i) (Nat.le_of_ble_eq_true rfl) rfl ?_
          refine vg_goto (tgt := 12) C d_G_listAll_61 (by decide) ?_
          first
            | (refine ih (i + 1) o m sn (by omega) (by omega) (by omega) hL hA hpl (lt_s hel (fun h => absurd h c_39)))
            | (refine ih (i + 1) o2 m2 sn2 (by omega) (by omega) (by have := hP.2.1; omega) hP.1 (lsA_P hW.1 hP hA) (by obtain ⟨j, hj, e⟩ := hpl; exact ⟨j, by have := hP.2.1; omega, by rw [ot_of (hP.2.2.1 j hj)]; exact e⟩) (fun j hj h8 c9 hc9 e9 => ?_)
               have hjm : j < m := by omega
               rw [ot_of (hP.2.2.1 j hjm)] at h8 e9
               rcases Nat.lt_or_ge j i with q | q
               · obtain ⟨j2, h1, h2⟩ := hel j q h8 c9 hc9 e9
                 exact ⟨j2, by have := hP.2.1; omega, by rw [ot_of (hP.2.2.1 j2 h1)]; exact h2⟩
               · rw [show j = i by omega, hsc] at e9
                 cases nI_i (by have := hW.1; omega) hc9 e9
                 exact hP.2.2.2.1)
        · skip
          refine vg_aload_n C d_G_listAll_42 rfl ?_
          refine vg_aload_n C d_G_listAll_43 rfl ?_
          refine wr_get C d_G_listAll_44 f_G_18 rfl rfl rfl rfl ?_
          refine vg_aload_n C d_G_listAll_47 rfl ?_
          refine wr_get C d_G_listAll_48 f_G_27 rfl rfl rfl rfl ?_
          refine vg_iload_n C d_G_listAll_51 rfl ?_
          skip
          refine wr_iald C d_G_listAll_52 rfl rfl (by exact vp_in_nI (by omega) (by decide)) ?_
          rw [nI_clamp (by omega), stL_o, ho1]
          refine wr_iald C d_G_listAll_53 rfl rfl (by exact vp_in_nI (by omega) (by decide)) ?_
          rw [nI_clamp (by omega), stL_ne _ _ _ _ (by decide) (by decide)]
          obtain ⟨c, hc, hsc, -⟩ := (hW.2 _ ho2).2.1 (Or.inr (Or.inr (Or.inr (Or.inl c_39))))
          rw [hsc]
          refine vg_iconst (v := 0) C d_G_listAll_54 (by decide) ?_
          refine wr_callV (As := [_, _]) C (c_G_list Z hst ad σ n H hW 33 c 0 o m sn hc (by have := hH c hc; omega) (by have := hH c hc; omega) hL (lsA_S hA)) l_G_listAll_G_list k_G_57 rfl rfl rfl rfl rfl (Nat.le_of_ble_eq_true rfl) d_G_listAll_55 ⟨Nat.le_of_ble_eq_true rfl, Nat.le_of_ble_eq_true rfl⟩ (fun v_55 w_55 h_55 => ?_)
          obtain ⟨rfl, o2, m2, sn2, hP, rfl⟩ := h_55
          refine vg_iinc (v := nI (i + 1)) C d_G_listAll_58 rfl (nI_1 i) (Nat.le_of_ble_eq_true rfl) rfl ?_
          refine vg_goto (tgt := 12) C d_G_listAll_61 (by decide) ?_
          first
            | (refine ih (i + 1) o m sn (by omega) (by omega) (by omega) hL hA hpl (lt_s hel (fun h => absurd h c_39)))
            | (refine ih (i + 1) o2 m2 sn2 (by omega) (by omega) (by have := hP.2.1; omega) hP.1 (lsA_P hW.1 hP hA) (by obtain ⟨j, hj, e⟩ := hpl; exact ⟨j, by have := hP.2.1; omega, by rw [ot_of (hP.2.2.1 j hj)]; exact e⟩) (fun j hj h8 c9 hc9 e9 => ?_)
               have hjm : j < m := by omega
               rw [ot_of (hP.2.2.1 j hjm)] at h8 e9
               rcases Nat.lt_or_ge j i with q | q
               · obtain ⟨j2, h1, h2⟩ := hel j q h8 c9 hc9 e9
                 exact ⟨j2, by have := hP.2.1; omega, by rw [ot_of (hP.2.2.1 j2 h1)]; exact h2⟩
               · rw [show j = i by omega, hsc] at e9
                 cases nI_i (by have := hW.1; omega) hc9 e9
                 exact hP.2.2.2.1)
set_option maxHeartbeats 4000000 in
set_option maxRecDepth 100000 in
theorem c_G_listAll (Z : vg_Z) (hst : vg_St Z) (ad : Nat → Nat) (σ : sg) (n : Nat) (H : Nat → Nat) (hW : WG (σ.1 2) (σ.1 3) (σ.1 4) (σ.1 6) n H) (hH : ∀ q, q < n → H q ≤ 32) (p : Nat) (hp : p < n)  : vg_T Z M_G_listAll 0 0 [.ref (ad 1), .int (nI p)] (wd Z ad σ) (fun v w => v = none ∧ ∃ o m sn, LA (σ.1 2) (σ.1 3) (σ.1 4) (σ.1 6) n p o m ∧ w = wd Z ad (stL σ o m sn)) := by
  refine vg_enter hst (by decide) rfl (Nat.le_of_ble_eq_true rfl) ?_
  intro G C hQ
  show vg_K Z M_G_listAll G 0 0 0 [(0, .ref (ad 1)), (1, .int (nI p))] [] (wd Z ad σ)
  refine vg_aload_n C d_G_listAll_0 rfl ?_
  refine wr_callV (As := []) C (c_G_startList Z hst ad σ) l_G_listAll_G_startList k_G_54 rfl rfl rfl rfl rfl (Nat.le_of_ble_eq_true rfl) d_G_listAll_1 ⟨Nat.le_of_ble_eq_true rfl, Nat.le_of_ble_eq_true rfl⟩ (fun v_1 w_1 h_1 => ?_)
  obtain ⟨rfl, rfl⟩ := h_1
  rw [stL_start]
  refine vg_aload_n C d_G_listAll_4 rfl ?_
  refine vg_iload_n C d_G_listAll_5 rfl ?_
  refine vg_iconst (v := 0) C d_G_listAll_6 (by decide) ?_
  refine wr_callV (As := [_, _]) C (c_G_list Z hst ad σ n H hW 33 p 0 _ _ _ hp (by have := hH p hp; omega) (by have := hH p hp; omega) lsI_0 lsS_0) l_G_listAll_G_list k_G_57 rfl rfl rfl rfl rfl (Nat.le_of_ble_eq_true rfl) d_G_listAll_7 ⟨Nat.le_of_ble_eq_true rfl, Nat.le_of_ble_eq_true rfl⟩ (fun v_7 w_7 h_7 => ?_)
  obtain ⟨rfl, o, m, sn, hP, rfl⟩ := h_7
  refine vg_iconst (v := 0) C d_G_listAll_10 (by decide) ?_
  refine vg_istore_n C d_G_listAll_11 (Nat.le_of_ble_eq_true rfl) rfl ?_
  exact lp_G_listAll hst C hQ ad σ n H hW hH p (fun o m sn h => ⟨rfl, o, m, sn, h, rfl⟩) 41 0 o m sn (by omega) (by omega) (by omega) hP.1 (lsA_P hW.1 hP (fun q _ hb => by rw [lb_0] at hb; cases hb)) hP.2.2.2.1 (fun j hj => absurd hj (by omega))
