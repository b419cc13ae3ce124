/-! Document's methods -/
theorem nI_z {n : Nat} (h : n < 2 ^ 31) : nI n = 0 ↔ n = 0 := nI_eq (b := 0) h (by decide)
theorem nI_p {n : Nat} (h : 0 < n) : nI n - 1 = nI (n - 1) := by
  have e := nI_pred (n - 1)
  rwa [show n - 1 + 1 = n by omega] at e
theorem nI_gt {n : Nat} (h : n < 2 ^ 31) : nI n ≤ 0 ↔ n = 0 := by
  have e := nI_leI (a := n) (b := 0) h (by decide)
  rw [nI_0] at e
  rw [e]
  omega
theorem s_begin_ne {σ : sg} {k j : Nat} {x : Int32} (h : j ≠ k) : (s_begin σ k x).1 j = σ.1 j := sI_ne _ h
theorem s_addC_ne {σ : sg} {k c j : Nat} {x y : Int32} (h : j ≠ k) (h4 : j ≠ k + 4) (h5 : j ≠ k + 5) : (s_addC σ k c x y).1 j = σ.1 j := by
  unfold s_addC
  rw [sI_ne _ h, sI_ne _ h5, sI_ne _ h4]
theorem s_addA_ne {σ : sg} {k c j : Nat} {x y : Int32} (h : j ≠ k) (h4 : j ≠ k + 1) (h5 : j ≠ k + 2) : (s_addA σ k c x y).1 j = σ.1 j := by
  unfold s_addA
  rw [sI_ne _ h, sI_ne _ h5, sI_ne _ h4]
set_option maxHeartbeats 4000000 in
set_option maxRecDepth 100000 in
theorem c_D_has (Z : vg_Z) (hst : vg_St Z) (ad : Nat → Nat) (σ : sg) (p : Int32)  : vg_T Z M_D_has 0 0 [.ref (ad 8), .int p] (wd Z ad σ) (fun v w => v = some (.int (bI (decide (0 ≤ p ∧ p < σ.1 8 1)))) ∧ w = wd Z ad σ) := by
  refine vg_enter hst (by decide) rfl (Nat.le_of_ble_eq_true rfl) ?_
  intro G C hQ
  show vg_K Z M_D_has G 0 0 0 [(0, .ref (ad 8)), (1, .int p)] [] (wd Z ad σ)
  refine vg_iload_n C d_D_has_0 rfl ?_
  refine vg_if_lt (tgt := 16) C d_D_has_1 (by decide) (fun c_1 => ?_) (fun c_1 => ?_)
  · skip
    refine vg_iconst (v := 0) C d_D_has_16 (by decide) ?_
    exact vg_ireturn C hQ d_D_has_17 rfl (by first | rfl | assumption) (⟨by rw [bI_f (decide_eq_false (by intro hN; (try simp only [Int32.lt_iff_toInt_lt, Int32.le_iff_toInt_le, ← Int32.toInt_inj, i32_m1, i32_0, i32_1, i32_2, i32_3, i32_4, i32_5, i32_6, i32_7, i32_8, i32_9, i32_10, i32_16, i32_40, i32_n0, i32_n1, i32_n2, i32_n3, i32_n4, i32_n5, i32_n6, i32_n7, i32_n8, i32_n9, i32_n10, i32_n11, i32_n12] at c_1); (try simp only [Int32.lt_iff_toInt_lt, Int32.le_iff_toInt_le, ← Int32.toInt_inj, i32_m1, i32_0, i32_1, i32_2, i32_3, i32_4, i32_5, i32_6, i32_7, i32_8, i32_9, i32_10, i32_16, i32_40, i32_n0, i32_n1, i32_n2, i32_n3, i32_n4, i32_n5, i32_n6, i32_n7, i32_n8, i32_n9, i32_n10, i32_n11, i32_n12] at hN); (try simp only [Int32.lt_iff_toInt_lt, Int32.le_iff_toInt_le, ← Int32.toInt_inj, i32_m1, i32_0, i32_1, i32_2, i32_3, i32_4, i32_5, i32_6, i32_7, i32_8, i32_9, i32_10, i32_16, i32_40, i32_n0, i32_n1, i32_n2, i32_n3, i32_n4, i32_n5, i32_n6, i32_n7, i32_n8, i32_n9, i32_n10, i32_n11, i32_n12]); omega))], rfl⟩)
  · skip
    refine vg_iload_n C d_D_has_4 rfl ?_
    refine vg_aload_n C d_D_has_5 rfl ?_
    refine wr_get C d_D_has_6 f_D_22 rfl rfl rfl rfl ?_
    refine vg_icmp_ge (tgt := 16) C d_D_has_9 (by decide) (fun c_9 => ?_) (fun c_9 => ?_)
    · skip
      refine vg_iconst (v := 0) C d_D_has_16 (by decide) ?_
      exact vg_ireturn C hQ d_D_has_17 rfl (by first | rfl | assumption) (⟨by rw [bI_f (decide_eq_false (by intro hN; (try simp only [Int32.lt_iff_toInt_lt, Int32.le_iff_toInt_le, ← Int32.toInt_inj, i32_m1, i32_0, i32_1, i32_2, i32_3, i32_4, i32_5, i32_6, i32_7, i32_8, i32_9, i32_10, i32_16, i32_40, i32_n0, i32_n1, i32_n2, i32_n3, i32_n4, i32_n5, i32_n6, i32_n7, i32_n8, i32_n9, i32_n10, i32_n11, i32_n12] at c_1); (try simp only [Int32.lt_iff_toInt_lt, Int32.le_iff_toInt_le, ← Int32.toInt_inj, i32_m1, i32_0, i32_1, i32_2, i32_3, i32_4, i32_5, i32_6, i32_7, i32_8, i32_9, i32_10, i32_16, i32_40, i32_n0, i32_n1, i32_n2, i32_n3, i32_n4, i32_n5, i32_n6, i32_n7, i32_n8, i32_n9, i32_n10, i32_n11, i32_n12] at c_9); (try simp only [Int32.lt_iff_toInt_lt, Int32.le_iff_toInt_le, ← Int32.toInt_inj, i32_m1, i32_0, i32_1, i32_2, i32_3, i32_4, i32_5, i32_6, i32_7, i32_8, i32_9, i32_10, i32_16, i32_40, i32_n0, i32_n1, i32_n2, i32_n3, i32_n4, i32_n5, i32_n6, i32_n7, i32_n8, i32_n9, i32_n10, i32_n11, i32_n12] at hN); (try simp only [Int32.lt_iff_toInt_lt, Int32.le_iff_toInt_le, ← Int32.toInt_inj, i32_m1, i32_0, i32_1, i32_2, i32_3, i32_4, i32_5, i32_6, i32_7, i32_8, i32_9, i32_10, i32_16, i32_40, i32_n0, i32_n1, i32_n2, i32_n3, i32_n4, i32_n5, i32_n6, i32_n7, i32_n8, i32_n9, i32_n10, i32_n11, i32_n12]); omega))], rfl⟩)
    · skip
      refine vg_iconst (v := 1) C d_D_has_12 (by decide) ?_
      refine vg_goto (tgt := 17) C d_D_has_13 (by decide) ?_
      exact vg_ireturn C hQ d_D_has_17 rfl (by first | rfl | assumption) (⟨by rw [bI_t (decide_eq_true (by (try simp only [Int32.lt_iff_toInt_lt, Int32.le_iff_toInt_le, ← Int32.toInt_inj, i32_m1, i32_0, i32_1, i32_2, i32_3, i32_4, i32_5, i32_6, i32_7, i32_8, i32_9, i32_10, i32_16, i32_40, i32_n0, i32_n1, i32_n2, i32_n3, i32_n4, i32_n5, i32_n6, i32_n7, i32_n8, i32_n9, i32_n10, i32_n11, i32_n12] at c_1); (try simp only [Int32.lt_iff_toInt_lt, Int32.le_iff_toInt_le, ← Int32.toInt_inj, i32_m1, i32_0, i32_1, i32_2, i32_3, i32_4, i32_5, i32_6, i32_7, i32_8, i32_9, i32_10, i32_16, i32_40, i32_n0, i32_n1, i32_n2, i32_n3, i32_n4, i32_n5, i32_n6, i32_n7, i32_n8, i32_n9, i32_n10, i32_n11, i32_n12] at c_9); (try simp only [Int32.lt_iff_toInt_lt, Int32.le_iff_toInt_le, ← Int32.toInt_inj, i32_m1, i32_0, i32_1, i32_2, i32_3, i32_4, i32_5, i32_6, i32_7, i32_8, i32_9, i32_10, i32_16, i32_40, i32_n0, i32_n1, i32_n2, i32_n3, i32_n4, i32_n5, i32_n6, i32_n7, i32_n8, i32_n9, i32_n10, i32_n11, i32_n12]); omega))], rfl⟩)
set_option maxHeartbeats 4000000 in
set_option maxRecDepth 100000 in
theorem c_D_lastOpen (Z : vg_Z) (hst : vg_St Z) (ad : Nat → Nat) (σ : sg)  (sz dn t : Nat) (hs : σ.1 8 1 = nI sz) (hz : sz ≤ 16) (hd : σ.1 8 3 = nI dn) (hn : dn ≤ 4) (ht : dn ≠ 0 → σ.1 10 (dn - 1) = nI t) (hu : t < 16) : vg_T Z M_D_lastOpen 0 0 [.ref (ad 8)] (wd Z ad σ) (fun v w => v = some (.int (if dn = 0 then -1 else nI t)) ∧ w = wd Z ad σ) := by
  refine vg_enter hst (by decide) rfl (Nat.le_of_ble_eq_true rfl) ?_
  intro G C hQ
  show vg_K Z M_D_lastOpen G 0 0 0 [(0, .ref (ad 8))] [] (wd Z ad σ)
  refine vg_aload_n C d_D_lastOpen_0 rfl ?_
  refine wr_get C d_D_lastOpen_1 f_D_26 rfl rfl rfl rfl ?_
  rw [hd]
  refine vg_if_ne (tgt := 11) C d_D_lastOpen_4 (by decide) (fun c_4 => ?_) (fun c_4 => ?_)
  · rw [nI_z (by omega)] at c_4
    refine vg_aload_n C d_D_lastOpen_11 rfl ?_
    refine wr_get C d_D_lastOpen_12 f_D_17 rfl rfl rfl rfl ?_
    refine vg_aload_n C d_D_lastOpen_15 rfl ?_
    refine wr_get C d_D_lastOpen_16 f_D_26 rfl rfl rfl rfl ?_
    rw [hd]
    refine vg_iconst (v := 1) C d_D_lastOpen_19 (by decide) ?_
    refine vg_isub C d_D_lastOpen_20 ?_
    rw [nI_p (by omega)]
    refine wr_iald C d_D_lastOpen_21 rfl rfl (by exact vp_in_nI (by omega) (by decide)) ?_
    exact vg_ireturn C hQ d_D_lastOpen_22 rfl (by first | rfl | assumption) (⟨by first | rw [if_pos c_4] | rw [if_neg c_4, nI_clamp (by omega), ht c_4], rfl⟩)
  · rw [nI_z (by omega)] at c_4
    refine vg_iconst (v := (-1)) C d_D_lastOpen_7 (by decide) ?_
    refine vg_goto (tgt := 22) C d_D_lastOpen_8 (by decide) ?_
    exact vg_ireturn C hQ d_D_lastOpen_22 rfl (by first | rfl | assumption) (⟨by first | rw [if_pos c_4] | rw [if_neg c_4, nI_clamp (by omega), ht c_4], rfl⟩)
set_option maxHeartbeats 4000000 in
set_option maxRecDepth 100000 in
theorem c_D_lastName (Z : vg_Z) (hst : vg_St Z) (ad : Nat → Nat) (σ : sg)  (sz dn t : Nat) (hs : σ.1 8 1 = nI sz) (hz : sz ≤ 16) (hd : σ.1 8 3 = nI dn) (hn : dn ≤ 4) (ht : dn ≠ 0 → σ.1 10 (dn - 1) = nI t) (hu : t < 16) : vg_T Z M_D_lastName 0 0 [.ref (ad 8)] (wd Z ad σ) (fun v w => v = some (.int (if dn = 0 then -1 else σ.1 (11 + 6 * t) 0)) ∧ w = wd Z ad σ) := by
  refine vg_enter hst (by decide) rfl (Nat.le_of_ble_eq_true rfl) ?_
  intro G C hQ
  show vg_K Z M_D_lastName G 0 0 0 [(0, .ref (ad 8))] [] (wd Z ad σ)
  refine vg_aload_n C d_D_lastName_0 rfl ?_
  refine wr_get C d_D_lastName_1 f_D_26 rfl rfl rfl rfl ?_
  rw [hd]
  refine vg_if_ne (tgt := 11) C d_D_lastName_4 (by decide) (fun c_4 => ?_) (fun c_4 => ?_)
  · rw [nI_z (by omega)] at c_4
    refine vg_aload_n C d_D_lastName_11 rfl ?_
    refine wr_get C d_D_lastName_12 f_D_11 rfl rfl rfl rfl ?_
    refine vg_aload_n C d_D_lastName_15 rfl ?_
    refine wr_get C d_D_lastName_16 f_D_17 rfl rfl rfl rfl ?_
    refine vg_aload_n C d_D_lastName_19 rfl ?_
    refine wr_get C d_D_lastName_20 f_D_26 rfl rfl rfl rfl ?_
    rw [hd]
    refine vg_iconst (v := 1) C d_D_lastName_23 (by decide) ?_
    refine vg_isub C d_D_lastName_24 ?_
    rw [nI_p (by omega)]
    refine wr_iald C d_D_lastName_25 rfl rfl (by exact vp_in_nI (by omega) (by decide)) ?_
    rw [nI_clamp (by omega), ht c_4]
    refine wr_nald C d_D_lastName_26 (by exact vp_in_nI hu (by decide)) ?_
    rw [nI_clamp (by omega)]
    refine wr_get C d_D_lastName_27 f_D_29 (nd_of t hu) rfl rfl rfl ?_
    exact vg_ireturn C hQ d_D_lastName_30 rfl (by first | rfl | assumption) (⟨by first | rw [if_pos c_4] | rw [if_neg c_4], rfl⟩)
  · rw [nI_z (by omega)] at c_4
    refine vg_iconst (v := (-1)) C d_D_lastName_7 (by decide) ?_
    refine vg_goto (tgt := 30) C d_D_lastName_8 (by decide) ?_
    exact vg_ireturn C hQ d_D_lastName_30 rfl (by first | rfl | assumption) (⟨by first | rw [if_pos c_4] | rw [if_neg c_4], rfl⟩)
set_option maxHeartbeats 4000000 in
set_option maxRecDepth 100000 in
theorem c_D_takesChild (Z : vg_Z) (hst : vg_St Z) (ad : Nat → Nat) (σ : sg)  (sz dn t : Nat) (hs : σ.1 8 1 = nI sz) (hz : sz ≤ 16) (hd : σ.1 8 3 = nI dn) (hn : dn ≤ 4) (ht : dn ≠ 0 → σ.1 10 (dn - 1) = nI t) (hu : t < 16) : vg_T Z M_D_takesChild 0 0 [.ref (ad 8)] (wd Z ad σ) (fun v w => v = some (.int (bI (decide (dn ≠ 0 ∧ σ.1 (11 + 6 * t) 7 < 6)))) ∧ w = wd Z ad σ) := by
  refine vg_enter hst (by decide) rfl (Nat.le_of_ble_eq_true rfl) ?_
  intro G C hQ
  show vg_K Z M_D_takesChild G 0 0 0 [(0, .ref (ad 8))] [] (wd Z ad σ)
  refine vg_aload_n C d_D_takesChild_0 rfl ?_
  refine wr_get C d_D_takesChild_1 f_D_26 rfl rfl rfl rfl ?_
  rw [hd]
  refine vg_if_le (tgt := 35) C d_D_takesChild_4 (by decide) (fun c_4 => ?_) (fun c_4 => ?_)
  · rw [nI_gt (by omega)] at c_4
    refine vg_iconst (v := 0) C d_D_takesChild_35 (by decide) ?_
    exact vg_ireturn C hQ d_D_takesChild_36 rfl (by first | rfl | assumption) (⟨by rw [bI_f (decide_eq_false (by intro hN; (try simp only [Int32.lt_iff_toInt_lt, Int32.le_iff_toInt_le, ← Int32.toInt_inj, i32_m1, i32_0, i32_1, i32_2, i32_3, i32_4, i32_5, i32_6, i32_7, i32_8, i32_9, i32_10, i32_16, i32_40, i32_n0, i32_n1, i32_n2, i32_n3, i32_n4, i32_n5, i32_n6, i32_n7, i32_n8, i32_n9, i32_n10, i32_n11, i32_n12] at c_4); (try simp only [Int32.lt_iff_toInt_lt, Int32.le_iff_toInt_le, ← Int32.toInt_inj, i32_m1, i32_0, i32_1, i32_2, i32_3, i32_4, i32_5, i32_6, i32_7, i32_8, i32_9, i32_10, i32_16, i32_40, i32_n0, i32_n1, i32_n2, i32_n3, i32_n4, i32_n5, i32_n6, i32_n7, i32_n8, i32_n9, i32_n10, i32_n11, i32_n12] at hN); (try simp only [Int32.lt_iff_toInt_lt, Int32.le_iff_toInt_le, ← Int32.toInt_inj, i32_m1, i32_0, i32_1, i32_2, i32_3, i32_4, i32_5, i32_6, i32_7, i32_8, i32_9, i32_10, i32_16, i32_40, i32_n0, i32_n1, i32_n2, i32_n3, i32_n4, i32_n5, i32_n6, i32_n7, i32_n8, i32_n9, i32_n10, i32_n11, i32_n12]); omega))], rfl⟩)
  · rw [nI_gt (by omega)] at c_4
    refine vg_aload_n C d_D_takesChild_7 rfl ?_
    refine wr_get C d_D_takesChild_8 f_D_11 rfl rfl rfl rfl ?_
    refine vg_aload_n C d_D_takesChild_11 rfl ?_
    refine wr_get C d_D_takesChild_12 f_D_17 rfl rfl rfl rfl ?_
    refine vg_aload_n C d_D_takesChild_15 rfl ?_
    refine wr_get C d_D_takesChild_16 f_D_26 rfl rfl rfl rfl ?_
    rw [hd]
    refine vg_iconst (v := 1) C d_D_takesChild_19 (by decide) ?_
    refine vg_isub C d_D_takesChild_20 ?_
    rw [nI_p (by omega)]
    refine wr_iald C d_D_takesChild_21 rfl rfl (by exact vp_in_nI (by omega) (by decide)) ?_
    rw [nI_clamp (by omega), ht c_4]
    refine wr_nald C d_D_takesChild_22 (by exact vp_in_nI hu (by decide)) ?_
    rw [nI_clamp (by omega)]
    refine wr_get C d_D_takesChild_23 f_D_44 (nd_of t hu) rfl rfl rfl ?_
    refine vg_bipush (v := 6) C d_D_takesChild_26 (by decide) ?_
    refine vg_icmp_ge (tgt := 35) C d_D_takesChild_28 (by decide) (fun c_28 => ?_) (fun c_28 => ?_)
    · skip
      refine vg_iconst (v := 0) C d_D_takesChild_35 (by decide) ?_
      exact vg_ireturn C hQ d_D_takesChild_36 rfl (by first | rfl | assumption) (⟨by rw [bI_f (decide_eq_false (by intro hN; (try simp only [Int32.lt_iff_toInt_lt, Int32.le_iff_toInt_le, ← Int32.toInt_inj, i32_m1, i32_0, i32_1, i32_2, i32_3, i32_4, i32_5, i32_6, i32_7, i32_8, i32_9, i32_10, i32_16, i32_40, i32_n0, i32_n1, i32_n2, i32_n3, i32_n4, i32_n5, i32_n6, i32_n7, i32_n8, i32_n9, i32_n10, i32_n11, i32_n12] at c_4); (try simp only [Int32.lt_iff_toInt_lt, Int32.le_iff_toInt_le, ← Int32.toInt_inj, i32_m1, i32_0, i32_1, i32_2, i32_3, i32_4, i32_5, i32_6, i32_7, i32_8, i32_9, i32_10, i32_16, i32_40, i32_n0, i32_n1, i32_n2, i32_n3, i32_n4, i32_n5, i32_n6, i32_n7, i32_n8, i32_n9, i32_n10, i32_n11, i32_n12] at c_28); (try simp only [Int32.lt_iff_toInt_lt, Int32.le_iff_toInt_le, ← Int32.toInt_inj, i32_m1, i32_0, i32_1, i32_2, i32_3, i32_4, i32_5, i32_6, i32_7, i32_8, i32_9, i32_10, i32_16, i32_40, i32_n0, i32_n1, i32_n2, i32_n3, i32_n4, i32_n5, i32_n6, i32_n7, i32_n8, i32_n9, i32_n10, i32_n11, i32_n12] at hN); (try simp only [Int32.lt_iff_toInt_lt, Int32.le_iff_toInt_le, ← Int32.toInt_inj, i32_m1, i32_0, i32_1, i32_2, i32_3, i32_4, i32_5, i32_6, i32_7, i32_8, i32_9, i32_10, i32_16, i32_40, i32_n0, i32_n1, i32_n2, i32_n3, i32_n4, i32_n5, i32_n6, i32_n7, i32_n8, i32_n9, i32_n10, i32_n11, i32_n12]); omega))], rfl⟩)
    · skip
      refine vg_iconst (v := 1) C d_D_takesChild_31 (by decide) ?_
      refine vg_goto (tgt := 36) C d_D_takesChild_32 (by decide) ?_
      exact vg_ireturn C hQ d_D_takesChild_36 rfl (by first | rfl | assumption) (⟨by rw [bI_t (decide_eq_true (by (try simp only [Int32.lt_iff_toInt_lt, Int32.le_iff_toInt_le, ← Int32.toInt_inj, i32_m1, i32_0, i32_1, i32_2, i32_3, i32_4, i32_5, i32_6, i32_7, i32_8, i32_9, i32_10, i32_16, i32_40, i32_n0, i32_n1, i32_n2, i32_n3, i32_n4, i32_n5, i32_n6, i32_n7, i32_n8, i32_n9, i32_n10, i32_n11, i32_n12] at c_4); (try simp only [Int32.lt_iff_toInt_lt, Int32.le_iff_toInt_le, ← Int32.toInt_inj, i32_m1, i32_0, i32_1, i32_2, i32_3, i32_4, i32_5, i32_6, i32_7, i32_8, i32_9, i32_10, i32_16, i32_40, i32_n0, i32_n1, i32_n2, i32_n3, i32_n4, i32_n5, i32_n6, i32_n7, i32_n8, i32_n9, i32_n10, i32_n11, i32_n12] at c_28); (try simp only [Int32.lt_iff_toInt_lt, Int32.le_iff_toInt_le, ← Int32.toInt_inj, i32_m1, i32_0, i32_1, i32_2, i32_3, i32_4, i32_5, i32_6, i32_7, i32_8, i32_9, i32_10, i32_16, i32_40, i32_n0, i32_n1, i32_n2, i32_n3, i32_n4, i32_n5, i32_n6, i32_n7, i32_n8, i32_n9, i32_n10, i32_n11, i32_n12]); omega))], rfl⟩)
set_option maxHeartbeats 4000000 in
set_option maxRecDepth 100000 in
theorem c_D_takesNode (Z : vg_Z) (hst : vg_St Z) (ad : Nat → Nat) (σ : sg)  (sz dn t : Nat) (hs : σ.1 8 1 = nI sz) (hz : sz ≤ 16) (hd : σ.1 8 3 = nI dn) (hn : dn ≤ 4) (ht : dn ≠ 0 → σ.1 10 (dn - 1) = nI t) (hu : t < 16) : vg_T Z M_D_takesNode 0 0 [.ref (ad 8)] (wd Z ad σ) (fun v w => v = some (.int (bI (decide ((dn = 0 ∧ sz = 0) ∨ (dn ≠ 0 ∧ sz < 16 ∧ dn < 4 ∧ σ.1 (11 + 6 * t) 7 < 6))))) ∧ w = wd Z ad σ) := by
  refine vg_enter hst (by decide) rfl (Nat.le_of_ble_eq_true rfl) ?_
  intro G C hQ
  show vg_K Z M_D_takesNode G 0 0 0 [(0, .ref (ad 8))] [] (wd Z ad σ)
  refine vg_aload_n C d_D_takesNode_0 rfl ?_
  refine wr_get C d_D_takesNode_1 f_D_26 rfl rfl rfl rfl ?_
  rw [hd]
  refine vg_if_ne (tgt := 20) C d_D_takesNode_4 (by decide) (fun c_4 => ?_) (fun c_4 => ?_)
  · rw [nI_z (by omega)] at c_4
    refine vg_aload_n C d_D_takesNode_20 rfl ?_
    refine wr_get C d_D_takesNode_21 f_D_22 rfl rfl rfl rfl ?_
    rw [hs]
    refine vg_bipush (v := 16) C d_D_takesNode_24 (by decide) ?_
    refine vg_icmp_ge (tgt := 48) C d_D_takesNode_26 (by decide) (fun c_26 => ?_) (fun c_26 => ?_)
    · rw [show (16 : Int32) = nI 16 from rfl, nI_leI (by decide) (by omega)] at c_26
      refine vg_iconst (v := 0) C d_D_takesNode_48 (by decide) ?_
      exact vg_ireturn C hQ d_D_takesNode_49 rfl (by first | rfl | assumption) (⟨by rw [bI_f (decide_eq_false (by intro hN; (try simp only [Int32.lt_iff_toInt_lt, Int32.le_iff_toInt_le, ← Int32.toInt_inj, i32_m1, i32_0, i32_1, i32_2, i32_3, i32_4, i32_5, i32_6, i32_7, i32_8, i32_9, i32_10, i32_16, i32_40, i32_n0, i32_n1, i32_n2, i32_n3, i32_n4, i32_n5, i32_n6, i32_n7, i32_n8, i32_n9, i32_n10, i32_n11, i32_n12] at c_4); (try simp only [Int32.lt_iff_toInt_lt, Int32.le_iff_toInt_le, ← Int32.toInt_inj, i32_m1, i32_0, i32_1, i32_2, i32_3, i32_4, i32_5, i32_6, i32_7, i32_8, i32_9, i32_10, i32_16, i32_40, i32_n0, i32_n1, i32_n2, i32_n3, i32_n4, i32_n5, i32_n6, i32_n7, i32_n8, i32_n9, i32_n10, i32_n11, i32_n12] at c_26); (try simp only [Int32.lt_iff_toInt_lt, Int32.le_iff_toInt_le, ← Int32.toInt_inj, i32_m1, i32_0, i32_1, i32_2, i32_3, i32_4, i32_5, i32_6, i32_7, i32_8, i32_9, i32_10, i32_16, i32_40, i32_n0, i32_n1, i32_n2, i32_n3, i32_n4, i32_n5, i32_n6, i32_n7, i32_n8, i32_n9, i32_n10, i32_n11, i32_n12] at hN); (try simp only [Int32.lt_iff_toInt_lt, Int32.le_iff_toInt_le, ← Int32.toInt_inj, i32_m1, i32_0, i32_1, i32_2, i32_3, i32_4, i32_5, i32_6, i32_7, i32_8, i32_9, i32_10, i32_16, i32_40, i32_n0, i32_n1, i32_n2, i32_n3, i32_n4, i32_n5, i32_n6, i32_n7, i32_n8, i32_n9, i32_n10, i32_n11, i32_n12]); omega))], rfl⟩)
    · rw [show (16 : Int32) = nI 16 from rfl, nI_leI (by decide) (by omega)] at c_26
      refine vg_aload_n C d_D_takesNode_29 rfl ?_
      refine wr_get C d_D_takesNode_30 f_D_26 rfl rfl rfl rfl ?_
      rw [hd]
      refine vg_iconst (v := 4) C d_D_takesNode_33 (by decide) ?_
      refine vg_icmp_ge (tgt := 48) C d_D_takesNode_34 (by decide) (fun c_34 => ?_) (fun c_34 => ?_)
      · rw [show (4 : Int32) = nI 4 from rfl, nI_leI (by decide) (by omega)] at c_34
        refine vg_iconst (v := 0) C d_D_takesNode_48 (by decide) ?_
        exact vg_ireturn C hQ d_D_takesNode_49 rfl (by first | rfl | assumption) (⟨by rw [bI_f (decide_eq_false (by intro hN; (try simp only [Int32.lt_iff_toInt_lt, Int32.le_iff_toInt_le, ← Int32.toInt_inj, i32_m1, i32_0, i32_1, i32_2, i32_3, i32_4, i32_5, i32_6, i32_7, i32_8, i32_9, i32_10, i32_16, i32_40, i32_n0, i32_n1, i32_n2, i32_n3, i32_n4, i32_n5, i32_n6, i32_n7, i32_n8, i32_n9, i32_n10, i32_n11, i32_n12] at c_4); (try simp only [Int32.lt_iff_toInt_lt, Int32.le_iff_toInt_le, ← Int32.toInt_inj, i32_m1, i32_0, i32_1, i32_2, i32_3, i32_4, i32_5, i32_6, i32_7, i32_8, i32_9, i32_10, i32_16, i32_40, i32_n0, i32_n1, i32_n2, i32_n3, i32_n4, i32_n5, i32_n6, i32_n7, i32_n8, i32_n9, i32_n10, i32_n11, i32_n12] at c_26); (try simp only [Int32.lt_iff_toInt_lt, Int32.le_iff_toInt_le, ← Int32.toInt_inj, i32_m1, i32_0, i32_1, i32_2, i32_3, i32_4, i32_5, i32_6, i32_7, i32_8, i32_9, i32_10, i32_16, i32_40, i32_n0, i32_n1, i32_n2, i32_n3, i32_n4, i32_n5, i32_n6, i32_n7, i32_n8, i32_n9, i32_n10, i32_n11, i32_n12] at c_34); (try simp only [Int32.lt_iff_toInt_lt, Int32.le_iff_toInt_le, ← Int32.toInt_inj, i32_m1, i32_0, i32_1, i32_2, i32_3, i32_4, i32_5, i32_6, i32_7, i32_8, i32_9, i32_10, i32_16, i32_40, i32_n0, i32_n1, i32_n2, i32_n3, i32_n4, i32_n5, i32_n6, i32_n7, i32_n8, i32_n9, i32_n10, i32_n11, i32_n12] at hN); (try simp only [Int32.lt_iff_toInt_lt, Int32.le_iff_toInt_le, ← Int32.toInt_inj, i32_m1, i32_0, i32_1, i32_2, i32_3, i32_4, i32_5, i32_6, i32_7, i32_8, i32_9, i32_10, i32_16, i32_40, i32_n0, i32_n1, i32_n2, i32_n3, i32_n4, i32_n5, i32_n6, i32_n7, i32_n8, i32_n9, i32_n10, i32_n11, i32_n12]); omega))], rfl⟩)
      · rw [show (4 : Int32) = nI 4 from rfl, nI_leI (by decide) (by omega)] at c_34
        refine vg_aload_n C d_D_takesNode_37 rfl ?_
        refine wr_callV (As := []) C (c_D_takesChild Z hst ad σ sz dn t hs hz hd hn ht hu) l_D_takesNode_D_takesChild k_D_32 rfl rfl rfl rfl rfl (Nat.le_of_ble_eq_true rfl) d_D_takesNode_38 ⟨Nat.le_of_ble_eq_true rfl, Nat.le_of_ble_eq_true rfl⟩ (fun v_38 w_38 h_38 => ?_)
        obtain ⟨rfl, rfl⟩ := h_38
        refine vg_if_eq (tgt := 48) C d_D_takesNode_41 (by decide) (fun c_41 => ?_) (fun c_41 => ?_)
        · rw [bI_eq] at c_41; simp only [decide_eq_false_iff_not, decide_eq_true_eq, Bool.not_eq_false, Classical.not_not] at c_41
          refine vg_iconst (v := 0) C d_D_takesNode_48 (by decide) ?_
          exact vg_ireturn C hQ d_D_takesNode_49 rfl (by first | rfl | assumption) (⟨by rw [bI_f (decide_eq_false (by intro hN; (try simp only [Int32.lt_iff_toInt_lt, Int32.le_iff_toInt_le, ← Int32.toInt_inj, i32_m1, i32_0, i32_1, i32_2, i32_3, i32_4, i32_5, i32_6, i32_7, i32_8, i32_9, i32_10, i32_16, i32_40, i32_n0, i32_n1, i32_n2, i32_n3, i32_n4, i32_n5, i32_n6, i32_n7, i32_n8, i32_n9, i32_n10, i32_n11, i32_n12] at c_4); (try simp only [Int32.lt_iff_toInt_lt, Int32.le_iff_toInt_le, ← Int32.toInt_inj, i32_m1, i32_0, i32_1, i32_2, i32_3, i32_4, i32_5, i32_6, i32_7, i32_8, i32_9, i32_10, i32_16, i32_40, i32_n0, i32_n1, i32_n2, i32_n3, i32_n4, i32_n5, i32_n6, i32_n7, i32_n8, i32_n9, i32_n10, i32_n11, i32_n12] at c_26); (try simp only [Int32.lt_iff_toInt_lt, Int32.le_iff_toInt_le, ← Int32.toInt_inj, i32_m1, i32_0, i32_1, i32_2, i32_3, i32_4, i32_5, i32_6, i32_7, i32_8, i32_9, i32_10, i32_16, i32_40, i32_n0, i32_n1, i32_n2, i32_n3, i32_n4, i32_n5, i32_n6, i32_n7, i32_n8, i32_n9, i32_n10, i32_n11, i32_n12] at c_34); (try simp only [Int32.lt_iff_toInt_lt, Int32.le_iff_toInt_le, ← Int32.toInt_inj, i32_m1, i32_0, i32_1, i32_2, i32_3, i32_4, i32_5, i32_6, i32_7, i32_8, i32_9, i32_10, i32_16, i32_40, i32_n0, i32_n1, i32_n2, i32_n3, i32_n4, i32_n5, i32_n6, i32_n7, i32_n8, i32_n9, i32_n10, i32_n11, i32_n12] at c_41); (try simp only [Int32.lt_iff_toInt_lt, Int32.le_iff_toInt_le, ← Int32.toInt_inj, i32_m1, i32_0, i32_1, i32_2, i32_3, i32_4, i32_5, i32_6, i32_7, i32_8, i32_9, i32_10, i32_16, i32_40, i32_n0, i32_n1, i32_n2, i32_n3, i32_n4, i32_n5, i32_n6, i32_n7, i32_n8, i32_n9, i32_n10, i32_n11, i32_n12] at hN); (try simp only [Int32.lt_iff_toInt_lt, Int32.le_iff_toInt_le, ← Int32.toInt_inj, i32_m1, i32_0, i32_1, i32_2, i32_3, i32_4, i32_5, i32_6, i32_7, i32_8, i32_9, i32_10, i32_16, i32_40, i32_n0, i32_n1, i32_n2, i32_n3, i32_n4, i32_n5, i32_n6, i32_n7, i32_n8, i32_n9, i32_n10, i32_n11, i32_n12]); omega))], rfl⟩)
        · rw [bI_eq] at c_41; simp only [decide_eq_false_iff_not, decide_eq_true_eq, Bool.not_eq_false, Classical.not_not] at c_41
          refine vg_iconst (v := 1) C d_D_takesNode_44 (by decide) ?_
          refine vg_goto (tgt := 49) C d_D_takesNode_45 (by decide) ?_
          exact vg_ireturn C hQ d_D_takesNode_49 rfl (by first | rfl | assumption) (⟨by rw [bI_t (decide_eq_true (by (try simp only [Int32.lt_iff_toInt_lt, Int32.le_iff_toInt_le, ← Int32.toInt_inj, i32_m1, i32_0, i32_1, i32_2, i32_3, i32_4, i32_5, i32_6, i32_7, i32_8, i32_9, i32_10, i32_16, i32_40, i32_n0, i32_n1, i32_n2, i32_n3, i32_n4, i32_n5, i32_n6, i32_n7, i32_n8, i32_n9, i32_n10, i32_n11, i32_n12] at c_4); (try simp only [Int32.lt_iff_toInt_lt, Int32.le_iff_toInt_le, ← Int32.toInt_inj, i32_m1, i32_0, i32_1, i32_2, i32_3, i32_4, i32_5, i32_6, i32_7, i32_8, i32_9, i32_10, i32_16, i32_40, i32_n0, i32_n1, i32_n2, i32_n3, i32_n4, i32_n5, i32_n6, i32_n7, i32_n8, i32_n9, i32_n10, i32_n11, i32_n12] at c_26); (try simp only [Int32.lt_iff_toInt_lt, Int32.le_iff_toInt_le, ← Int32.toInt_inj, i32_m1, i32_0, i32_1, i32_2, i32_3, i32_4, i32_5, i32_6, i32_7, i32_8, i32_9, i32_10, i32_16, i32_40, i32_n0, i32_n1, i32_n2, i32_n3, i32_n4, i32_n5, i32_n6, i32_n7, i32_n8, i32_n9, i32_n10, i32_n11, i32_n12] at c_34); (try simp only [Int32.lt_iff_toInt_lt, Int32.le_iff_toInt_le, ← Int32.toInt_inj, i32_m1, i32_0, i32_1, i32_2, i32_3, i32_4, i32_5, i32_6, i32_7, i32_8, i32_9, i32_10, i32_16, i32_40, i32_n0, i32_n1, i32_n2, i32_n3, i32_n4, i32_n5, i32_n6, i32_n7, i32_n8, i32_n9, i32_n10, i32_n11, i32_n12] at c_41); (try simp only [Int32.lt_iff_toInt_lt, Int32.le_iff_toInt_le, ← Int32.toInt_inj, i32_m1, i32_0, i32_1, i32_2, i32_3, i32_4, i32_5, i32_6, i32_7, i32_8, i32_9, i32_10, i32_16, i32_40, i32_n0, i32_n1, i32_n2, i32_n3, i32_n4, i32_n5, i32_n6, i32_n7, i32_n8, i32_n9, i32_n10, i32_n11, i32_n12]); omega))], rfl⟩)
  · rw [nI_z (by omega)] at c_4
    refine vg_aload_n C d_D_takesNode_7 rfl ?_
    refine wr_get C d_D_takesNode_8 f_D_22 rfl rfl rfl rfl ?_
    rw [hs]
    refine vg_if_ne (tgt := 18) C d_D_takesNode_11 (by decide) (fun c_11 => ?_) (fun c_11 => ?_)
    · rw [nI_z (by omega)] at c_11
      refine vg_iconst (v := 0) C d_D_takesNode_18 (by decide) ?_
      exact vg_ireturn C hQ d_D_takesNode_19 rfl (by first | rfl | assumption) (⟨by rw [bI_f (decide_eq_false (by intro hN; (try simp only [Int32.lt_iff_toInt_lt, Int32.le_iff_toInt_le, ← Int32.toInt_inj, i32_m1, i32_0, i32_1, i32_2, i32_3, i32_4, i32_5, i32_6, i32_7, i32_8, i32_9, i32_10, i32_16, i32_40, i32_n0, i32_n1, i32_n2, i32_n3, i32_n4, i32_n5, i32_n6, i32_n7, i32_n8, i32_n9, i32_n10, i32_n11, i32_n12] at c_4); (try simp only [Int32.lt_iff_toInt_lt, Int32.le_iff_toInt_le, ← Int32.toInt_inj, i32_m1, i32_0, i32_1, i32_2, i32_3, i32_4, i32_5, i32_6, i32_7, i32_8, i32_9, i32_10, i32_16, i32_40, i32_n0, i32_n1, i32_n2, i32_n3, i32_n4, i32_n5, i32_n6, i32_n7, i32_n8, i32_n9, i32_n10, i32_n11, i32_n12] at c_11); (try simp only [Int32.lt_iff_toInt_lt, Int32.le_iff_toInt_le, ← Int32.toInt_inj, i32_m1, i32_0, i32_1, i32_2, i32_3, i32_4, i32_5, i32_6, i32_7, i32_8, i32_9, i32_10, i32_16, i32_40, i32_n0, i32_n1, i32_n2, i32_n3, i32_n4, i32_n5, i32_n6, i32_n7, i32_n8, i32_n9, i32_n10, i32_n11, i32_n12] at hN); (try simp only [Int32.lt_iff_toInt_lt, Int32.le_iff_toInt_le, ← Int32.toInt_inj, i32_m1, i32_0, i32_1, i32_2, i32_3, i32_4, i32_5, i32_6, i32_7, i32_8, i32_9, i32_10, i32_16, i32_40, i32_n0, i32_n1, i32_n2, i32_n3, i32_n4, i32_n5, i32_n6, i32_n7, i32_n8, i32_n9, i32_n10, i32_n11, i32_n12]); omega))], rfl⟩)
    · rw [nI_z (by omega)] at c_11
      refine vg_iconst (v := 1) C d_D_takesNode_14 (by decide) ?_
      refine vg_goto (tgt := 19) C d_D_takesNode_15 (by decide) ?_
      exact vg_ireturn C hQ d_D_takesNode_19 rfl (by first | rfl | assumption) (⟨by rw [bI_t (decide_eq_true (by (try simp only [Int32.lt_iff_toInt_lt, Int32.le_iff_toInt_le, ← Int32.toInt_inj, i32_m1, i32_0, i32_1, i32_2, i32_3, i32_4, i32_5, i32_6, i32_7, i32_8, i32_9, i32_10, i32_16, i32_40, i32_n0, i32_n1, i32_n2, i32_n3, i32_n4, i32_n5, i32_n6, i32_n7, i32_n8, i32_n9, i32_n10, i32_n11, i32_n12] at c_4); (try simp only [Int32.lt_iff_toInt_lt, Int32.le_iff_toInt_le, ← Int32.toInt_inj, i32_m1, i32_0, i32_1, i32_2, i32_3, i32_4, i32_5, i32_6, i32_7, i32_8, i32_9, i32_10, i32_16, i32_40, i32_n0, i32_n1, i32_n2, i32_n3, i32_n4, i32_n5, i32_n6, i32_n7, i32_n8, i32_n9, i32_n10, i32_n11, i32_n12] at c_11); (try simp only [Int32.lt_iff_toInt_lt, Int32.le_iff_toInt_le, ← Int32.toInt_inj, i32_m1, i32_0, i32_1, i32_2, i32_3, i32_4, i32_5, i32_6, i32_7, i32_8, i32_9, i32_10, i32_16, i32_40, i32_n0, i32_n1, i32_n2, i32_n3, i32_n4, i32_n5, i32_n6, i32_n7, i32_n8, i32_n9, i32_n10, i32_n11, i32_n12]); omega))], rfl⟩)
set_option maxHeartbeats 4000000 in
set_option maxRecDepth 100000 in
theorem c_D_addText (Z : vg_Z) (hst : vg_St Z) (ad : Nat → Nat) (σ : sg) (x : Int32) (sz dn t : Nat) (hs : σ.1 8 1 = nI sz) (hz : sz ≤ 16) (hd : σ.1 8 3 = nI dn) (hn : dn ≤ 4) (ht : dn ≠ 0 → σ.1 10 (dn - 1) = nI t) (hu : t < 16) (h0 : dn ≠ 0) (c : Nat) (hc : σ.1 (11 + 6 * t) 7 = nI c) (hc6 : c < 6) : vg_T Z M_D_addText 0 0 [.ref (ad 8), .int x] (wd Z ad σ) (fun v w => v = some (.int (nI (c + 1))) ∧ w = wd Z ad (s_addC σ (11 + 6 * t) c (-1) x)) := by
  refine vg_enter hst (by decide) rfl (Nat.le_of_ble_eq_true rfl) ?_
  intro G C hQ
  show vg_K Z M_D_addText G 0 0 0 [(0, .ref (ad 8)), (1, .int x)] [] (wd Z ad σ)
  refine vg_aload_n C d_D_addText_0 rfl ?_
  refine wr_get C d_D_addText_1 f_D_11 rfl rfl rfl rfl ?_
  refine vg_aload_n C d_D_addText_4 rfl ?_
  refine wr_get C d_D_addText_5 f_D_17 rfl rfl rfl rfl ?_
  refine vg_aload_n C d_D_addText_8 rfl ?_
  refine wr_get C d_D_addText_9 f_D_26 rfl rfl rfl rfl ?_
  rw [hd]
  refine vg_iconst (v := 1) C d_D_addText_12 (by decide) ?_
  refine vg_isub C d_D_addText_13 ?_
  rw [nI_p (by omega)]
  refine wr_iald C d_D_addText_14 rfl rfl (by exact vp_in_nI (by omega) (by decide)) ?_
  rw [nI_clamp (by omega), ht h0]
  refine wr_nald C d_D_addText_15 (by exact vp_in_nI hu (by decide)) ?_
  rw [nI_clamp (by omega)]
  refine vg_astore_n C d_D_addText_16 (Nat.le_of_ble_eq_true rfl) rfl ?_
  refine vg_aload_n C d_D_addText_17 rfl ?_
  refine vg_iconst (v := (-1)) C d_D_addText_18 (by decide) ?_
  refine vg_iload_n C d_D_addText_19 rfl ?_
  refine wr_callV (As := [_, _]) C (c_N_addChild Z hst ad σ (-1) x c (11 + 6 * t) (nd_of t hu) hc hc6) l_D_addText_N_addChild k_D_36 (nd_of t hu) rfl rfl rfl rfl (Nat.le_of_ble_eq_true rfl) d_D_addText_20 ⟨Nat.le_of_ble_eq_true rfl, Nat.le_of_ble_eq_true rfl⟩ (fun v_20 w_20 h_20 => ?_)
  obtain ⟨rfl, rfl⟩ := h_20
  refine vg_aload_n C d_D_addText_23 rfl ?_
  refine wr_get C d_D_addText_24 f_D_44 (nd_of t hu) rfl rfl rfl ?_
  exact vg_ireturn C hQ d_D_addText_27 rfl (by first | rfl | assumption) (⟨by unfold s_addC; rw [sI_at]; exact congrArg (fun y => some (Value.int y)) pk_us, rfl⟩)
set_option maxHeartbeats 4000000 in
set_option maxRecDepth 100000 in
theorem c_D_addAttribute (Z : vg_Z) (hst : vg_St Z) (ad : Nat → Nat) (σ : sg) (nm x : Int32) (sz dn t : Nat) (hs : σ.1 8 1 = nI sz) (hz : sz ≤ 16) (hd : σ.1 8 3 = nI dn) (hn : dn ≤ 4) (ht : dn ≠ 0 → σ.1 10 (dn - 1) = nI t) (hu : t < 16) (h0 : dn ≠ 0) (c : Nat) (hc : σ.1 (11 + 6 * t) 4 = nI c) (hc3 : c < 3) : vg_T Z M_D_addAttribute 0 0 [.ref (ad 8), .int nm, .int x] (wd Z ad σ) (fun v w => v = some (.int (nI (c + 1))) ∧ w = wd Z ad (s_addA σ (11 + 6 * t) c nm x)) := by
  refine vg_enter hst (by decide) rfl (Nat.le_of_ble_eq_true rfl) ?_
  intro G C hQ
  show vg_K Z M_D_addAttribute G 0 0 0 [(0, .ref (ad 8)), (1, .int nm), (2, .int x)] [] (wd Z ad σ)
  refine vg_aload_n C d_D_addAttribute_0 rfl ?_
  refine wr_get C d_D_addAttribute_1 f_D_11 rfl rfl rfl rfl ?_
  refine vg_aload_n C d_D_addAttribute_4 rfl ?_
  refine wr_get C d_D_addAttribute_5 f_D_17 rfl rfl rfl rfl ?_
  refine vg_aload_n C d_D_addAttribute_8 rfl ?_
  refine wr_get C d_D_addAttribute_9 f_D_26 rfl rfl rfl rfl ?_
  rw [hd]
  refine vg_iconst (v := 1) C d_D_addAttribute_12 (by decide) ?_
  refine vg_isub C d_D_addAttribute_13 ?_
  rw [nI_p (by omega)]
  refine wr_iald C d_D_addAttribute_14 rfl rfl (by exact vp_in_nI (by omega) (by decide)) ?_
  rw [nI_clamp (by omega), ht h0]
  refine wr_nald C d_D_addAttribute_15 (by exact vp_in_nI hu (by decide)) ?_
  rw [nI_clamp (by omega)]
  refine vg_astore_n C d_D_addAttribute_16 (Nat.le_of_ble_eq_true rfl) rfl ?_
  refine vg_aload_n C d_D_addAttribute_17 rfl ?_
  refine vg_iload_n C d_D_addAttribute_18 rfl ?_
  refine vg_iload_n C d_D_addAttribute_19 rfl ?_
  refine wr_callV (As := [_, _]) C (c_N_addAttribute Z hst ad σ nm x c (11 + 6 * t) (nd_of t hu) hc hc3) l_D_addAttribute_N_addAttribute k_D_54 (nd_of t hu) rfl rfl rfl rfl (Nat.le_of_ble_eq_true rfl) d_D_addAttribute_20 ⟨Nat.le_of_ble_eq_true rfl, Nat.le_of_ble_eq_true rfl⟩ (fun v_20 w_20 h_20 => ?_)
  obtain ⟨rfl, rfl⟩ := h_20
  refine vg_aload_n C d_D_addAttribute_23 rfl ?_
  refine wr_get C d_D_addAttribute_24 f_D_47 (nd_of t hu) rfl rfl rfl ?_
  exact vg_ireturn C hQ d_D_addAttribute_27 rfl (by first | rfl | assumption) (⟨by unfold s_addA; rw [sI_at]; exact congrArg (fun y => some (Value.int y)) pk_us, rfl⟩)
def s_node (σ : sg) (sz dn : Nat) (nm : Int32) : sg := sI (sI (s_begin σ (11 + 6 * sz) nm) 10 (upd (σ.1 10) dn (nI sz))) 8 (upd (upd (σ.1 8) 3 (nI (dn + 1))) 1 (nI (sz + 1)))
def s_open (σ : sg) (sz dn t c : Nat) (nm : Int32) : sg := if dn = 0 then s_node σ sz dn nm else s_node (s_addC σ (11 + 6 * t) c (nI sz) 0) sz dn nm
set_option maxHeartbeats 4000000 in
set_option maxRecDepth 100000 in
theorem c_D_addNode (Z : vg_Z) (hst : vg_St Z) (ad : Nat → Nat) (σ : sg) (nm : Int32) (sz dn t : Nat) (hs : σ.1 8 1 = nI sz) (hz : sz ≤ 16) (hd : σ.1 8 3 = nI dn) (hn : dn ≤ 4) (ht : dn ≠ 0 → σ.1 10 (dn - 1) = nI t) (hu : t < 16) (hz16 : sz < 16) (hn4 : dn < 4) (c : Nat) (hc : dn ≠ 0 → σ.1 (11 + 6 * t) 7 = nI c) (hc6 : c < 6) : vg_T Z M_D_addNode 0 0 [.ref (ad 8), .int nm] (wd Z ad σ) (fun v w => v = some (.int (nI sz)) ∧ w = wd Z ad (s_open σ sz dn t c nm)) := by
  refine vg_enter hst (by decide) rfl (Nat.le_of_ble_eq_true rfl) ?_
  intro G C hQ
  show vg_K Z M_D_addNode G 0 0 0 [(0, .ref (ad 8)), (1, .int nm)] [] (wd Z ad σ)
  refine vg_aload_n C d_D_addNode_0 rfl ?_
  refine wr_get C d_D_addNode_1 f_D_26 rfl rfl rfl rfl ?_
  rw [hd]
  refine vg_if_le (tgt := 31) C d_D_addNode_4 (by decide) (fun c_4 => ?_) (fun c_4 => ?_)
  · rw [nI_gt (by omega)] at c_4
    refine vg_aload_n C d_D_addNode_31 rfl ?_
    refine wr_get C d_D_addNode_32 f_D_11 rfl rfl rfl rfl ?_
    refine vg_aload_n C d_D_addNode_35 rfl ?_
    refine wr_get C d_D_addNode_36 f_D_22 rfl rfl rfl rfl ?_
    try simp (disch := omega) only [s_addC_ne, s_addA_ne, s_begin_ne, sI_ne, sI_at, sL_1, sI_2]
    rw [hs]
    refine wr_nald C d_D_addNode_39 (by exact vp_in_nI hz16 (by decide)) ?_
    rw [nI_clamp (by omega)]
    refine vg_iload_n C d_D_addNode_40 rfl ?_
    refine wr_callV (As := [_]) C (c_N_begin Z hst ad _ nm (11 + 6 * sz) (nd_of sz hz16)) l_D_addNode_N_begin k_D_40 (nd_of sz hz16) rfl rfl rfl rfl (Nat.le_of_ble_eq_true rfl) d_D_addNode_41 ⟨Nat.le_of_ble_eq_true rfl, Nat.le_of_ble_eq_true rfl⟩ (fun v_41 w_41 h_41 => ?_)
    obtain ⟨rfl, rfl⟩ := h_41
    refine vg_aload_n C d_D_addNode_44 rfl ?_
    refine wr_get C d_D_addNode_45 f_D_17 rfl rfl rfl rfl ?_
    refine vg_aload_n C d_D_addNode_48 rfl ?_
    refine wr_get C d_D_addNode_49 f_D_26 rfl rfl rfl rfl ?_
    try simp (disch := omega) only [s_addC_ne, s_addA_ne, s_begin_ne, sI_ne, sI_at, sL_1, sI_2]
    rw [hd]
    refine vg_aload_n C d_D_addNode_52 rfl ?_
    refine wr_get C d_D_addNode_53 f_D_22 rfl rfl rfl rfl ?_
    try simp (disch := omega) only [s_addC_ne, s_addA_ne, s_begin_ne, sI_ne, sI_at, sL_1, sI_2]
    rw [hs]
    refine wr_iast C d_D_addNode_56 rfl rfl (by exact vp_in_nI hn4 (by decide)) ?_
    rw [nI_clamp (by omega)]
    try simp (disch := omega) only [s_addC_ne, s_addA_ne, s_begin_ne, sI_ne, sI_at, sL_1, sI_2]
    refine vg_aload_n C d_D_addNode_57 rfl ?_
    refine vg_dup C d_D_addNode_58 rfl ?_
    refine wr_get C d_D_addNode_59 f_D_26 rfl rfl rfl rfl ?_
    try simp (disch := omega) only [s_addC_ne, s_addA_ne, s_begin_ne, sI_ne, sI_at, sL_1, sI_2]
    rw [hd]
    refine vg_iconst (v := 1) C d_D_addNode_62 (by decide) ?_
    refine vg_iadd C d_D_addNode_63 ?_
    rw [nI_1]
    refine wr_puti C d_D_addNode_64 f_D_26 p_D_3 rfl rfl rfl rfl rfl (Nat.le_of_ble_eq_true rfl) (wf_iD3 _ _ _) ?_
    try simp (disch := omega) only [s_addC_ne, s_addA_ne, s_begin_ne, sI_ne, sI_at, sL_1, sI_2]
    refine vg_aload_n C d_D_addNode_67 rfl ?_
    refine vg_dup C d_D_addNode_68 rfl ?_
    refine wr_get C d_D_addNode_69 f_D_22 rfl rfl rfl rfl ?_
    try simp (disch := omega) only [s_addC_ne, s_addA_ne, s_begin_ne, sI_ne, sI_at, sL_1, sI_2]
    rw [pk_un (by decide), hs]
    refine vg_iconst (v := 1) C d_D_addNode_72 (by decide) ?_
    refine vg_iadd C d_D_addNode_73 ?_
    rw [nI_1]
    refine wr_puti C d_D_addNode_74 f_D_22 p_D_1 rfl rfl rfl rfl rfl (Nat.le_of_ble_eq_true rfl) (wf_iD1 _ _ _) ?_
    try simp (disch := omega) only [s_addC_ne, s_addA_ne, s_begin_ne, sI_ne, sI_at, sL_1, sI_2]
    rw [sI_sI]
    refine vg_aload_n C d_D_addNode_77 rfl ?_
    refine wr_get C d_D_addNode_78 f_D_22 rfl rfl rfl rfl ?_
    try simp (disch := omega) only [s_addC_ne, s_addA_ne, s_begin_ne, sI_ne, sI_at, sL_1, sI_2]
    rw [pk_us]
    refine vg_iconst (v := 1) C d_D_addNode_81 (by decide) ?_
    refine vg_isub C d_D_addNode_82 ?_
    rw [nI_pred]
    exact vg_ireturn C hQ d_D_addNode_83 rfl (by first | rfl | assumption) (⟨rfl, by unfold s_open s_node; first | rw [if_pos c_4] | rw [if_neg c_4]; try simp (disch := omega) only [s_addC_ne, s_addA_ne, s_begin_ne, sI_ne, sI_at, sL_1, sI_2]⟩)
  · rw [nI_gt (by omega)] at c_4
    refine vg_aload_n C d_D_addNode_7 rfl ?_
    refine wr_get C d_D_addNode_8 f_D_11 rfl rfl rfl rfl ?_
    refine vg_aload_n C d_D_addNode_11 rfl ?_
    refine wr_get C d_D_addNode_12 f_D_17 rfl rfl rfl rfl ?_
    refine vg_aload_n C d_D_addNode_15 rfl ?_
    refine wr_get C d_D_addNode_16 f_D_26 rfl rfl rfl rfl ?_
    rw [hd]
    refine vg_iconst (v := 1) C d_D_addNode_19 (by decide) ?_
    refine vg_isub C d_D_addNode_20 ?_
    rw [nI_p (by omega)]
    refine wr_iald C d_D_addNode_21 rfl rfl (by exact vp_in_nI (by omega) (by decide)) ?_
    rw [nI_clamp (by omega), ht c_4]
    refine wr_nald C d_D_addNode_22 (by exact vp_in_nI hu (by decide)) ?_
    rw [nI_clamp (by omega)]
    refine vg_aload_n C d_D_addNode_23 rfl ?_
    refine wr_get C d_D_addNode_24 f_D_22 rfl rfl rfl rfl ?_
    rw [hs]
    refine vg_iconst (v := 0) C d_D_addNode_27 (by decide) ?_
    refine wr_callV (As := [_, _]) C (c_N_addChild Z hst ad σ (nI sz) 0 c (11 + 6 * t) (nd_of t hu) (hc c_4) hc6) l_D_addNode_N_addChild k_D_36 (nd_of t hu) rfl rfl rfl rfl (Nat.le_of_ble_eq_true rfl) d_D_addNode_28 ⟨Nat.le_of_ble_eq_true rfl, Nat.le_of_ble_eq_true rfl⟩ (fun v_28 w_28 h_28 => ?_)
    obtain ⟨rfl, rfl⟩ := h_28
    refine vg_aload_n C d_D_addNode_31 rfl ?_
    refine wr_get C d_D_addNode_32 f_D_11 rfl rfl rfl rfl ?_
    refine vg_aload_n C d_D_addNode_35 rfl ?_
    refine wr_get C d_D_addNode_36 f_D_22 rfl rfl rfl rfl ?_
    try simp (disch := omega) only [s_addC_ne, s_addA_ne, s_begin_ne, sI_ne, sI_at, sL_1, sI_2]
    rw [hs]
    refine wr_nald C d_D_addNode_39 (by exact vp_in_nI hz16 (by decide)) ?_
    rw [nI_clamp (by omega)]
    refine vg_iload_n C d_D_addNode_40 rfl ?_
    refine wr_callV (As := [_]) C (c_N_begin Z hst ad _ nm (11 + 6 * sz) (nd_of sz hz16)) l_D_addNode_N_begin k_D_40 (nd_of sz hz16) rfl rfl rfl rfl (Nat.le_of_ble_eq_true rfl) d_D_addNode_41 ⟨Nat.le_of_ble_eq_true rfl, Nat.le_of_ble_eq_true rfl⟩ (fun v_41 w_41 h_41 => ?_)
    obtain ⟨rfl, rfl⟩ := h_41
    refine vg_aload_n C d_D_addNode_44 rfl ?_
    refine wr_get C d_D_addNode_45 f_D_17 rfl rfl rfl rfl ?_
    refine vg_aload_n C d_D_addNode_48 rfl ?_
    refine wr_get C d_D_addNode_49 f_D_26 rfl rfl rfl rfl ?_
    try simp (disch := omega) only [s_addC_ne, s_addA_ne, s_begin_ne, sI_ne, sI_at, sL_1, sI_2]
    rw [hd]
    refine vg_aload_n C d_D_addNode_52 rfl ?_
    refine wr_get C d_D_addNode_53 f_D_22 rfl rfl rfl rfl ?_
    try simp (disch := omega) only [s_addC_ne, s_addA_ne, s_begin_ne, sI_ne, sI_at, sL_1, sI_2]
    rw [hs]
    refine wr_iast C d_D_addNode_56 rfl rfl (by exact vp_in_nI hn4 (by decide)) ?_
    rw [nI_clamp (by omega)]
    try simp (disch := omega) only [s_addC_ne, s_addA_ne, s_begin_ne, sI_ne, sI_at, sL_1, sI_2]
    refine vg_aload_n C d_D_addNode_57 rfl ?_
    refine vg_dup C d_D_addNode_58 rfl ?_
    refine wr_get C d_D_addNode_59 f_D_26 rfl rfl rfl rfl ?_
    try simp (disch := omega) only [s_addC_ne, s_addA_ne, s_begin_ne, sI_ne, sI_at, sL_1, sI_2]
    rw [hd]
    refine vg_iconst (v := 1) C d_D_addNode_62 (by decide) ?_
    refine vg_iadd C d_D_addNode_63 ?_
    rw [nI_1]
    refine wr_puti C d_D_addNode_64 f_D_26 p_D_3 rfl rfl rfl rfl rfl (Nat.le_of_ble_eq_true rfl) (wf_iD3 _ _ _) ?_
    try simp (disch := omega) only [s_addC_ne, s_addA_ne, s_begin_ne, sI_ne, sI_at, sL_1, sI_2]
    refine vg_aload_n C d_D_addNode_67 rfl ?_
    refine vg_dup C d_D_addNode_68 rfl ?_
    refine wr_get C d_D_addNode_69 f_D_22 rfl rfl rfl rfl ?_
    try simp (disch := omega) only [s_addC_ne, s_addA_ne, s_begin_ne, sI_ne, sI_at, sL_1, sI_2]
    rw [pk_un (by decide), hs]
    refine vg_iconst (v := 1) C d_D_addNode_72 (by decide) ?_
    refine vg_iadd C d_D_addNode_73 ?_
    rw [nI_1]
    refine wr_puti C d_D_addNode_74 f_D_22 p_D_1 rfl rfl rfl rfl rfl (Nat.le_of_ble_eq_true rfl) (wf_iD1 _ _ _) ?_
    try simp (disch := omega) only [s_addC_ne, s_addA_ne, s_begin_ne, sI_ne, sI_at, sL_1, sI_2]
    rw [sI_sI]
    refine vg_aload_n C d_D_addNode_77 rfl ?_
    refine wr_get C d_D_addNode_78 f_D_22 rfl rfl rfl rfl ?_
    try simp (disch := omega) only [s_addC_ne, s_addA_ne, s_begin_ne, sI_ne, sI_at, sL_1, sI_2]
    rw [pk_us]
    refine vg_iconst (v := 1) C d_D_addNode_81 (by decide) ?_
    refine vg_isub C d_D_addNode_82 ?_
    rw [nI_pred]
    exact vg_ireturn C hQ d_D_addNode_83 rfl (by first | rfl | assumption) (⟨rfl, by unfold s_open s_node; first | rw [if_pos c_4] | rw [if_neg c_4]; try simp (disch := omega) only [s_addC_ne, s_addA_ne, s_begin_ne, sI_ne, sI_at, sL_1, sI_2]⟩)
set_option maxHeartbeats 4000000 in
set_option maxRecDepth 100000 in
theorem c_D_endLast (Z : vg_Z) (hst : vg_St Z) (ad : Nat → Nat) (σ : sg) (dn : Nat) (hd : σ.1 8 3 = nI dn) (hn : dn ≤ 4) (h0 : dn ≠ 0) : vg_T Z M_D_endLast 0 0 [.ref (ad 8)] (wd Z ad σ) (fun v w => v = some (.int (σ.1 10 (dn - 1))) ∧ w = wd Z ad (sI σ 8 (upd (σ.1 8) 3 (nI (dn - 1))))) := by
  refine vg_enter hst (by decide) rfl (Nat.le_of_ble_eq_true rfl) ?_
  intro G C hQ
  show vg_K Z M_D_endLast G 0 0 0 [(0, .ref (ad 8))] [] (wd Z ad σ)
  refine vg_aload_n C d_D_endLast_0 rfl ?_
  refine vg_dup C d_D_endLast_1 rfl ?_
  refine wr_get C d_D_endLast_2 f_D_26 rfl rfl rfl rfl ?_
  rw [hd]
  refine vg_iconst (v := 1) C d_D_endLast_5 (by decide) ?_
  refine vg_isub C d_D_endLast_6 ?_
  rw [nI_p (by omega)]
  refine wr_puti C d_D_endLast_7 f_D_26 p_D_3 rfl rfl rfl rfl rfl (Nat.le_of_ble_eq_true rfl) (wf_iD3 _ _ _) ?_
  refine vg_aload_n C d_D_endLast_10 rfl ?_
  refine wr_get C d_D_endLast_11 f_D_17 rfl rfl rfl rfl ?_
  refine vg_aload_n C d_D_endLast_14 rfl ?_
  refine wr_get C d_D_endLast_15 f_D_26 rfl rfl rfl rfl ?_
  rw [sI_at, pk_us]
  refine wr_iald C d_D_endLast_18 rfl rfl (by exact vp_in_nI (by omega) (by decide)) ?_
  exact vg_ireturn C hQ d_D_endLast_19 rfl (by first | rfl | assumption) (⟨by rw [nI_clamp (by omega), sI_ne _ (by decide)], rfl⟩)
set_option maxHeartbeats 4000000 in
set_option maxRecDepth 100000 in
theorem c_D_takeAway (Z : vg_Z) (hst : vg_St Z) (ad : Nat → Nat) (σ : sg)   : vg_T Z M_D_takeAway 0 0 [.ref (ad 8)] (wd Z ad σ) (fun v w => v = some (.int (σ.1 8 1)) ∧ w = wd Z ad (sI σ 8 (upd (upd (σ.1 8) 1 0) 3 0))) := by
  refine vg_enter hst (by decide) rfl (Nat.le_of_ble_eq_true rfl) ?_
  intro G C hQ
  show vg_K Z M_D_takeAway G 0 0 0 [(0, .ref (ad 8))] [] (wd Z ad σ)
  refine vg_aload_n C d_D_takeAway_0 rfl ?_
  refine wr_get C d_D_takeAway_1 f_D_22 rfl rfl rfl rfl ?_
  refine vg_istore_n C d_D_takeAway_4 (Nat.le_of_ble_eq_true rfl) rfl ?_
  refine vg_aload_n C d_D_takeAway_5 rfl ?_
  refine vg_iconst (v := 0) C d_D_takeAway_6 (by decide) ?_
  refine wr_puti C d_D_takeAway_7 f_D_22 p_D_1 rfl rfl rfl rfl rfl (Nat.le_of_ble_eq_true rfl) (wf_iD1 _ _ _) ?_
  refine vg_aload_n C d_D_takeAway_10 rfl ?_
  refine vg_iconst (v := 0) C d_D_takeAway_11 (by decide) ?_
  refine wr_puti C d_D_takeAway_12 f_D_26 p_D_3 rfl rfl rfl rfl rfl (Nat.le_of_ble_eq_true rfl) (wf_iD3 _ _ _) ?_
  refine vg_iload_n C d_D_takeAway_15 rfl ?_
  exact vg_ireturn C hQ d_D_takeAway_16 rfl (by first | rfl | assumption) (⟨rfl, by rw [sI_sI, sI_at]⟩)
