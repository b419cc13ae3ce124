/-! Grammar: depthOf, hasRoomFor, addPattern, give, startList -/
theorem sL_1 (σ : sg) (k : Nat) (r : Nat → Int64) : (sL σ k r).1 = σ.1 := rfl
theorem sI_2 (σ : sg) (k : Nat) (r : Nat → Int32) : (sI σ k r).2 = σ.2 := rfl
def dp1 (σ : sg) (x a : Int32) : Int32 := if (x = 4 ∨ x = 5 ∨ x = 6 ∨ x = 7) then σ.1 5 a.toNatClampNeg else 0
def dp (σ : sg) (x a b : Int32) : Int32 := (if (x = 4 ∨ x = 5 ∨ x = 6 ∨ x = 8 ∨ x = 9) then (if dp1 σ x a < σ.1 5 b.toNatClampNeg then σ.1 5 b.toNatClampNeg else dp1 σ x a) else dp1 σ x a) + 1
theorem dp_eq {σ τ : sg} (h : τ.1 5 = σ.1 5) (x a b : Int32) : dp τ x a b = dp σ x a b := by unfold dp dp1; rw [h]
set_option maxHeartbeats 4000000 in
set_option maxRecDepth 100000 in
theorem c_G_depthOf (Z : vg_Z) (hst : vg_St Z) (ad : Nat → Nat) (σ : sg) (x a b : Int32) (h1 : (x = 4 ∨ x = 5 ∨ x = 6 ∨ x = 7) → vp_in a 40) (h2 : (x = 4 ∨ x = 5 ∨ x = 6 ∨ x = 8 ∨ x = 9) → vp_in b 40) : vg_T Z M_G_depthOf 0 0 [.ref (ad 1), .int x, .int a, .int b] (wd Z ad σ) (fun v w => v = some (.int (dp σ x a b)) ∧ w = wd Z ad σ) := by
  refine vg_enter hst (by decide) rfl (Nat.le_of_ble_eq_true rfl) ?_
  intro G C hQ
  show vg_K Z M_G_depthOf G 0 0 0 [(0, .ref (ad 1)), (1, .int x), (2, .int a), (3, .int b)] [] (wd Z ad σ)
  refine vg_iconst (v := 0) C d_G_depthOf_0 (by decide) ?_
  refine vg_istore C d_G_depthOf_1 (Nat.le_of_ble_eq_true rfl) rfl ?_
  refine vg_iload_n C d_G_depthOf_3 rfl ?_
  refine vg_callS (As := [_]) C (c_G_isMadeOfFirst Z hst ad σ x) l_G_depthOf_G_isMadeOfFirst k_G_42 rfl rfl (Nat.le_of_ble_eq_true rfl) d_G_depthOf_4 ⟨Nat.le_of_ble_eq_true rfl, Nat.le_of_ble_eq_true rfl⟩ (fun v_4 w_4 h_4 => ?_)
  obtain ⟨rfl, rfl⟩ := h_4
  refine vg_if_eq (tgt := 18) C d_G_depthOf_7 (by decide) (fun c_7 => ?_) (fun c_7 => ?_)
  · rw [bI_eq] at c_7; simp only [decide_eq_false_iff_not, decide_eq_true_eq, Bool.not_eq_false, Classical.not_not] at c_7
    refine vg_iload_n C d_G_depthOf_18 rfl ?_
    refine vg_callS (As := [_]) C (c_G_isMadeOfSecond Z hst ad σ x) l_G_depthOf_G_isMadeOfSecond k_G_45 rfl rfl (Nat.le_of_ble_eq_true rfl) d_G_depthOf_19 ⟨Nat.le_of_ble_eq_true rfl, Nat.le_of_ble_eq_true rfl⟩ (fun v_19 w_19 h_19 => ?_)
    obtain ⟨rfl, rfl⟩ := h_19
    refine vg_if_eq (tgt := 38) C d_G_depthOf_22 (by decide) (fun c_22 => ?_) (fun c_22 => ?_)
    · rw [bI_eq] at c_22; simp only [decide_eq_false_iff_not, decide_eq_true_eq, Bool.not_eq_false, Classical.not_not] at c_22
      refine vg_iload C d_G_depthOf_38 rfl ?_
      refine vg_iconst (v := 1) C d_G_depthOf_40 (by decide) ?_
      refine vg_iadd C d_G_depthOf_41 ?_
      exact vg_ireturn C hQ d_G_depthOf_42 rfl (by first | rfl | assumption) (⟨by unfold dp dp1; simp only [c_7, c_22, ↓reduceIte], rfl⟩)
    · rw [bI_eq] at c_22; simp only [decide_eq_false_iff_not, decide_eq_true_eq, Bool.not_eq_false, Classical.not_not] at c_22
      refine vg_iload C d_G_depthOf_25 rfl ?_
      refine vg_aload_n C d_G_depthOf_27 rfl ?_
      refine wr_get C d_G_depthOf_28 f_G_21 rfl rfl rfl rfl ?_
      refine vg_iload_n C d_G_depthOf_31 rfl ?_
      refine wr_iald C d_G_depthOf_32 rfl rfl (by exact h2 c_22) ?_
      refine vg_mmax C k_G_48 (Nat.le_of_ble_eq_true rfl) (Nat.le_of_ble_eq_true rfl) (Nat.zero_le _) (Nat.zero_le _) d_G_depthOf_33 ?_
      refine vg_istore C d_G_depthOf_36 (Nat.le_of_ble_eq_true rfl) rfl ?_
      refine vg_iload C d_G_depthOf_38 rfl ?_
      refine vg_iconst (v := 1) C d_G_depthOf_40 (by decide) ?_
      refine vg_iadd C d_G_depthOf_41 ?_
      exact vg_ireturn C hQ d_G_depthOf_42 rfl (by first | rfl | assumption) (⟨by unfold dp dp1; simp only [c_7, c_22, ↓reduceIte], rfl⟩)
  · rw [bI_eq] at c_7; simp only [decide_eq_false_iff_not, decide_eq_true_eq, Bool.not_eq_false, Classical.not_not] at c_7
    refine vg_aload_n C d_G_depthOf_10 rfl ?_
    refine wr_get C d_G_depthOf_11 f_G_21 rfl rfl rfl rfl ?_
    refine vg_iload_n C d_G_depthOf_14 rfl ?_
    refine wr_iald C d_G_depthOf_15 rfl rfl (by exact h1 c_7) ?_
    refine vg_istore C d_G_depthOf_16 (Nat.le_of_ble_eq_true rfl) rfl ?_
    refine vg_iload_n C d_G_depthOf_18 rfl ?_
    refine vg_callS (As := [_]) C (c_G_isMadeOfSecond Z hst ad σ x) l_G_depthOf_G_isMadeOfSecond k_G_45 rfl rfl (Nat.le_of_ble_eq_true rfl) d_G_depthOf_19 ⟨Nat.le_of_ble_eq_true rfl, Nat.le_of_ble_eq_true rfl⟩ (fun v_19 w_19 h_19 => ?_)
    obtain ⟨rfl, rfl⟩ := h_19
    refine vg_if_eq (tgt := 38) C d_G_depthOf_22 (by decide) (fun c_22 => ?_) (fun c_22 => ?_)
    · rw [bI_eq] at c_22; simp only [decide_eq_false_iff_not, decide_eq_true_eq, Bool.not_eq_false, Classical.not_not] at c_22
      refine vg_iload C d_G_depthOf_38 rfl ?_
      refine vg_iconst (v := 1) C d_G_depthOf_40 (by decide) ?_
      refine vg_iadd C d_G_depthOf_41 ?_
      exact vg_ireturn C hQ d_G_depthOf_42 rfl (by first | rfl | assumption) (⟨by unfold dp dp1; simp only [c_7, c_22, ↓reduceIte], rfl⟩)
    · rw [bI_eq] at c_22; simp only [decide_eq_false_iff_not, decide_eq_true_eq, Bool.not_eq_false, Classical.not_not] at c_22
      refine vg_iload C d_G_depthOf_25 rfl ?_
      refine vg_aload_n C d_G_depthOf_27 rfl ?_
      refine wr_get C d_G_depthOf_28 f_G_21 rfl rfl rfl rfl ?_
      refine vg_iload_n C d_G_depthOf_31 rfl ?_
      refine wr_iald C d_G_depthOf_32 rfl rfl (by exact h2 c_22) ?_
      refine vg_mmax C k_G_48 (Nat.le_of_ble_eq_true rfl) (Nat.le_of_ble_eq_true rfl) (Nat.zero_le _) (Nat.zero_le _) d_G_depthOf_33 ?_
      refine vg_istore C d_G_depthOf_36 (Nat.le_of_ble_eq_true rfl) rfl ?_
      refine vg_iload C d_G_depthOf_38 rfl ?_
      refine vg_iconst (v := 1) C d_G_depthOf_40 (by decide) ?_
      refine vg_iadd C d_G_depthOf_41 ?_
      exact vg_ireturn C hQ d_G_depthOf_42 rfl (by first | rfl | assumption) (⟨by unfold dp dp1; simp only [c_7, c_22, ↓reduceIte], rfl⟩)
set_option maxHeartbeats 4000000 in
set_option maxRecDepth 100000 in
theorem c_G_hasRoomFor (Z : vg_Z) (hst : vg_St Z) (ad : Nat → Nat) (σ : sg) (x a b : Int32) (h1 : (x = 4 ∨ x = 5 ∨ x = 6 ∨ x = 7) → vp_in a 40) (h2 : (x = 4 ∨ x = 5 ∨ x = 6 ∨ x = 8 ∨ x = 9) → vp_in b 40) : vg_T Z M_G_hasRoomFor 0 0 [.ref (ad 1), .int x, .int a, .int b] (wd Z ad σ) (fun v w => v = some (.int (bI (decide (σ.1 1 4 < 40 ∧ dp σ x a b ≤ 5)))) ∧ w = wd Z ad σ) := by
  refine vg_enter hst (by decide) rfl (Nat.le_of_ble_eq_true rfl) ?_
  intro G C hQ
  show vg_K Z M_G_hasRoomFor G 0 0 0 [(0, .ref (ad 1)), (1, .int x), (2, .int a), (3, .int b)] [] (wd Z ad σ)
  refine vg_aload_n C d_G_hasRoomFor_0 rfl ?_
  refine wr_get C d_G_hasRoomFor_1 f_G_30 rfl rfl rfl rfl ?_
  refine vg_bipush (v := 40) C d_G_hasRoomFor_4 (by decide) ?_
  refine vg_icmp_ge (tgt := 24) C d_G_hasRoomFor_6 (by decide) (fun c_6 => ?_) (fun c_6 => ?_)
  · skip
    refine vg_iconst (v := 0) C d_G_hasRoomFor_24 (by decide) ?_
    exact vg_ireturn C hQ d_G_hasRoomFor_25 rfl (by first | rfl | assumption) (⟨by rw [bI_f (decide_eq_false (by intro hN; (try simp only [Int32.lt_iff_toInt_lt, Int32.le_iff_toInt_le, ← Int32.toInt_inj, i32_m1, i32_0, i32_1, i32_2, i32_3, i32_4, i32_5, i32_6, i32_7, i32_8, i32_9, i32_10, i32_16, i32_40, i32_n0, i32_n1, i32_n2, i32_n3, i32_n4, i32_n5, i32_n6, i32_n7, i32_n8, i32_n9, i32_n10, i32_n11, i32_n12] at c_6); (try simp only [Int32.lt_iff_toInt_lt, Int32.le_iff_toInt_le, ← Int32.toInt_inj, i32_m1, i32_0, i32_1, i32_2, i32_3, i32_4, i32_5, i32_6, i32_7, i32_8, i32_9, i32_10, i32_16, i32_40, i32_n0, i32_n1, i32_n2, i32_n3, i32_n4, i32_n5, i32_n6, i32_n7, i32_n8, i32_n9, i32_n10, i32_n11, i32_n12] at hN); (try simp only [Int32.lt_iff_toInt_lt, Int32.le_iff_toInt_le, ← Int32.toInt_inj, i32_m1, i32_0, i32_1, i32_2, i32_3, i32_4, i32_5, i32_6, i32_7, i32_8, i32_9, i32_10, i32_16, i32_40, i32_n0, i32_n1, i32_n2, i32_n3, i32_n4, i32_n5, i32_n6, i32_n7, i32_n8, i32_n9, i32_n10, i32_n11, i32_n12]); omega))], rfl⟩)
  · skip
    refine vg_aload_n C d_G_hasRoomFor_9 rfl ?_
    refine vg_iload_n C d_G_hasRoomFor_10 rfl ?_
    refine vg_iload_n C d_G_hasRoomFor_11 rfl ?_
    refine vg_iload_n C d_G_hasRoomFor_12 rfl ?_
    refine wr_callV (As := [_, _, _]) C (c_G_depthOf Z hst ad σ x a b h1 h2) l_G_hasRoomFor_G_depthOf k_G_38 rfl rfl rfl rfl rfl (Nat.le_of_ble_eq_true rfl) d_G_hasRoomFor_13 ⟨Nat.le_of_ble_eq_true rfl, Nat.le_of_ble_eq_true rfl⟩ (fun v_13 w_13 h_13 => ?_)
    obtain ⟨rfl, rfl⟩ := h_13
    refine vg_iconst (v := 5) C d_G_hasRoomFor_16 (by decide) ?_
    refine vg_icmp_gt (tgt := 24) C d_G_hasRoomFor_17 (by decide) (fun c_17 => ?_) (fun c_17 => ?_)
    · skip
      refine vg_iconst (v := 0) C d_G_hasRoomFor_24 (by decide) ?_
      exact vg_ireturn C hQ d_G_hasRoomFor_25 rfl (by first | rfl | assumption) (⟨by rw [bI_f (decide_eq_false (by intro hN; (try simp only [Int32.lt_iff_toInt_lt, Int32.le_iff_toInt_le, ← Int32.toInt_inj, i32_m1, i32_0, i32_1, i32_2, i32_3, i32_4, i32_5, i32_6, i32_7, i32_8, i32_9, i32_10, i32_16, i32_40, i32_n0, i32_n1, i32_n2, i32_n3, i32_n4, i32_n5, i32_n6, i32_n7, i32_n8, i32_n9, i32_n10, i32_n11, i32_n12] at c_6); (try simp only [Int32.lt_iff_toInt_lt, Int32.le_iff_toInt_le, ← Int32.toInt_inj, i32_m1, i32_0, i32_1, i32_2, i32_3, i32_4, i32_5, i32_6, i32_7, i32_8, i32_9, i32_10, i32_16, i32_40, i32_n0, i32_n1, i32_n2, i32_n3, i32_n4, i32_n5, i32_n6, i32_n7, i32_n8, i32_n9, i32_n10, i32_n11, i32_n12] at c_17); (try simp only [Int32.lt_iff_toInt_lt, Int32.le_iff_toInt_le, ← Int32.toInt_inj, i32_m1, i32_0, i32_1, i32_2, i32_3, i32_4, i32_5, i32_6, i32_7, i32_8, i32_9, i32_10, i32_16, i32_40, i32_n0, i32_n1, i32_n2, i32_n3, i32_n4, i32_n5, i32_n6, i32_n7, i32_n8, i32_n9, i32_n10, i32_n11, i32_n12] at hN); (try simp only [Int32.lt_iff_toInt_lt, Int32.le_iff_toInt_le, ← Int32.toInt_inj, i32_m1, i32_0, i32_1, i32_2, i32_3, i32_4, i32_5, i32_6, i32_7, i32_8, i32_9, i32_10, i32_16, i32_40, i32_n0, i32_n1, i32_n2, i32_n3, i32_n4, i32_n5, i32_n6, i32_n7, i32_n8, i32_n9, i32_n10, i32_n11, i32_n12]); omega))], rfl⟩)
    · skip
      refine vg_iconst (v := 1) C d_G_hasRoomFor_20 (by decide) ?_
      refine vg_goto (tgt := 25) C d_G_hasRoomFor_21 (by decide) ?_
      exact vg_ireturn C hQ d_G_hasRoomFor_25 rfl (by first | rfl | assumption) (⟨by rw [bI_t (decide_eq_true (by (try simp only [Int32.lt_iff_toInt_lt, Int32.le_iff_toInt_le, ← Int32.toInt_inj, i32_m1, i32_0, i32_1, i32_2, i32_3, i32_4, i32_5, i32_6, i32_7, i32_8, i32_9, i32_10, i32_16, i32_40, i32_n0, i32_n1, i32_n2, i32_n3, i32_n4, i32_n5, i32_n6, i32_n7, i32_n8, i32_n9, i32_n10, i32_n11, i32_n12] at c_6); (try simp only [Int32.lt_iff_toInt_lt, Int32.le_iff_toInt_le, ← Int32.toInt_inj, i32_m1, i32_0, i32_1, i32_2, i32_3, i32_4, i32_5, i32_6, i32_7, i32_8, i32_9, i32_10, i32_16, i32_40, i32_n0, i32_n1, i32_n2, i32_n3, i32_n4, i32_n5, i32_n6, i32_n7, i32_n8, i32_n9, i32_n10, i32_n11, i32_n12] at c_17); (try simp only [Int32.lt_iff_toInt_lt, Int32.le_iff_toInt_le, ← Int32.toInt_inj, i32_m1, i32_0, i32_1, i32_2, i32_3, i32_4, i32_5, i32_6, i32_7, i32_8, i32_9, i32_10, i32_16, i32_40, i32_n0, i32_n1, i32_n2, i32_n3, i32_n4, i32_n5, i32_n6, i32_n7, i32_n8, i32_n9, i32_n10, i32_n11, i32_n12]); omega))], rfl⟩)
def s_add (σ : sg) (n : Nat) (x a b : Int32) : sg := sI (sI (sI (sI (sI σ 2 (upd (σ.1 2) n x)) 3 (upd (σ.1 3) n a)) 4 (upd (σ.1 4) n b)) 5 (upd (σ.1 5) n (dp σ x a b))) 1 (upd (σ.1 1) 4 (nI (n + 1)))
set_option maxHeartbeats 4000000 in
set_option maxRecDepth 100000 in
theorem c_G_addPattern (Z : vg_Z) (hst : vg_St Z) (ad : Nat → Nat) (σ : sg) (x a b : Int32) (n : Nat) (h1 : (x = 4 ∨ x = 5 ∨ x = 6 ∨ x = 7) → vp_in a 40) (h2 : (x = 4 ∨ x = 5 ∨ x = 6 ∨ x = 8 ∨ x = 9) → vp_in b 40) (hm : σ.1 1 4 = nI n) (hn : n < 40) : vg_T Z M_G_addPattern 0 0 [.ref (ad 1), .int x, .int a, .int b] (wd Z ad σ) (fun v w => v = some (.int (nI n)) ∧ w = wd Z ad (s_add σ n x a b)) := by
  refine vg_enter hst (by decide) rfl (Nat.le_of_ble_eq_true rfl) ?_
  intro G C hQ
  show vg_K Z M_G_addPattern G 0 0 0 [(0, .ref (ad 1)), (1, .int x), (2, .int a), (3, .int b)] [] (wd Z ad σ)
  refine vg_aload_n C d_G_addPattern_0 rfl ?_
  refine wr_get C d_G_addPattern_1 f_G_9 rfl rfl rfl rfl ?_
  refine vg_aload_n C d_G_addPattern_4 rfl ?_
  refine wr_get C d_G_addPattern_5 f_G_30 rfl rfl rfl rfl ?_
  rw [hm]
  refine vg_iload_n C d_G_addPattern_8 rfl ?_
  refine wr_iast C d_G_addPattern_9 rfl rfl (by exact vp_in_nI hn (by decide)) ?_
  rw [nI_clamp (by omega)]
  refine vg_aload_n C d_G_addPattern_10 rfl ?_
  refine wr_get C d_G_addPattern_11 f_G_15 rfl rfl rfl rfl ?_
  refine vg_aload_n C d_G_addPattern_14 rfl ?_
  refine wr_get C d_G_addPattern_15 f_G_30 rfl rfl rfl rfl ?_
  simp (disch := decide) only [sI_ne, sI_at, sL_ne, sL_at, sL_1, sI_2]
  rw [hm]
  refine vg_iload_n C d_G_addPattern_18 rfl ?_
  refine wr_iast C d_G_addPattern_19 rfl rfl (by exact vp_in_nI hn (by decide)) ?_
  rw [nI_clamp (by omega)]
  refine vg_aload_n C d_G_addPattern_20 rfl ?_
  refine wr_get C d_G_addPattern_21 f_G_18 rfl rfl rfl rfl ?_
  refine vg_aload_n C d_G_addPattern_24 rfl ?_
  refine wr_get C d_G_addPattern_25 f_G_30 rfl rfl rfl rfl ?_
  simp (disch := decide) only [sI_ne, sI_at, sL_ne, sL_at, sL_1, sI_2]
  rw [hm]
  refine vg_iload_n C d_G_addPattern_28 rfl ?_
  refine wr_iast C d_G_addPattern_29 rfl rfl (by exact vp_in_nI hn (by decide)) ?_
  rw [nI_clamp (by omega)]
  refine vg_aload_n C d_G_addPattern_30 rfl ?_
  refine wr_get C d_G_addPattern_31 f_G_21 rfl rfl rfl rfl ?_
  refine vg_aload_n C d_G_addPattern_34 rfl ?_
  refine wr_get C d_G_addPattern_35 f_G_30 rfl rfl rfl rfl ?_
  simp (disch := decide) only [sI_ne, sI_at, sL_ne, sL_at, sL_1, sI_2]
  rw [hm]
  refine vg_aload_n C d_G_addPattern_38 rfl ?_
  refine vg_iload_n C d_G_addPattern_39 rfl ?_
  refine vg_iload_n C d_G_addPattern_40 rfl ?_
  refine vg_iload_n C d_G_addPattern_41 rfl ?_
  refine wr_callV (As := [_, _, _]) C (c_G_depthOf Z hst ad _ x a b h1 h2) l_G_addPattern_G_depthOf k_G_38 rfl rfl rfl rfl rfl (Nat.le_of_ble_eq_true rfl) d_G_addPattern_42 ⟨Nat.le_of_ble_eq_true rfl, Nat.le_of_ble_eq_true rfl⟩ (fun v_42 w_42 h_42 => ?_)
  obtain ⟨rfl, rfl⟩ := h_42
  rw [dp_eq (σ := σ) (by simp (disch := decide) only [sI_ne, sI_at, sL_ne, sL_at, sL_1, sI_2])]
  refine wr_iast C d_G_addPattern_45 rfl rfl (by exact vp_in_nI hn (by decide)) ?_
  rw [nI_clamp (by omega)]
  refine vg_aload_n C d_G_addPattern_46 rfl ?_
  refine vg_dup C d_G_addPattern_47 rfl ?_
  refine wr_get C d_G_addPattern_48 f_G_30 rfl rfl rfl rfl ?_
  simp (disch := decide) only [sI_ne, sI_at, sL_ne, sL_at, sL_1, sI_2]
  rw [hm]
  refine vg_iconst (v := 1) C d_G_addPattern_51 (by decide) ?_
  refine vg_iadd C d_G_addPattern_52 ?_
  rw [nI_1]
  refine wr_puti C d_G_addPattern_53 f_G_30 p_G_4 rfl rfl rfl rfl rfl (Nat.le_of_ble_eq_true rfl) (wf_iG4 _ _ _) ?_
  refine vg_aload_n C d_G_addPattern_56 rfl ?_
  refine wr_get C d_G_addPattern_57 f_G_30 rfl rfl rfl rfl ?_
  simp (disch := decide) only [sI_ne, sI_at, sL_ne, sL_at, sL_1, sI_2]
  rw [show upd (σ.1 1) 4 (nI (n + 1)) 4 = nI (n + 1) from pk_us]
  refine vg_iconst (v := 1) C d_G_addPattern_60 (by decide) ?_
  refine vg_isub C d_G_addPattern_61 ?_
  rw [nI_pred]
  exact vg_ireturn C hQ d_G_addPattern_62 rfl (by first | rfl | assumption) (⟨rfl, by unfold s_add; first | rfl | simp (disch := decide) only [sI_ne, sI_at, sL_ne, sL_at, sL_1, sI_2]⟩)
set_option maxHeartbeats 4000000 in
set_option maxRecDepth 100000 in
theorem c_G_give (Z : vg_Z) (hst : vg_St Z) (ad : Nat → Nat) (σ : sg) (i : Nat) (p : Int32) (hi : i < 4) : vg_T Z M_G_give 0 0 [.ref (ad 1), .int (nI i), .int p] (wd Z ad σ) (fun v w => v = some (.int (bI (decide (σ.1 6 i = -1)))) ∧ w = wd Z ad (sI σ 6 (upd (σ.1 6) i p))) := by
  refine vg_enter hst (by decide) rfl (Nat.le_of_ble_eq_true rfl) ?_
  intro G C hQ
  show vg_K Z M_G_give G 0 0 0 [(0, .ref (ad 1)), (1, .int (nI i)), (2, .int p)] [] (wd Z ad σ)
  refine vg_aload_n C d_G_give_0 rfl ?_
  refine wr_get C d_G_give_1 f_G_24 rfl rfl rfl rfl ?_
  refine vg_iload_n C d_G_give_4 rfl ?_
  refine wr_iald C d_G_give_5 rfl rfl (by exact vp_in_nI hi (by decide)) ?_
  rw [nI_clamp (by omega)]
  refine vg_iconst (v := (-1)) C d_G_give_6 (by decide) ?_
  refine vg_icmp_ne (tgt := 14) C d_G_give_7 (by decide) (fun c_7 => ?_) (fun c_7 => ?_)
  · skip
    refine vg_iconst (v := 0) C d_G_give_14 (by decide) ?_
    refine vg_istore_n C d_G_give_15 (Nat.le_of_ble_eq_true rfl) rfl ?_
    refine vg_aload_n C d_G_give_16 rfl ?_
    refine wr_get C d_G_give_17 f_G_24 rfl rfl rfl rfl ?_
    refine vg_iload_n C d_G_give_20 rfl ?_
    refine vg_iload_n C d_G_give_21 rfl ?_
    refine wr_iast C d_G_give_22 rfl rfl (by exact vp_in_nI hi (by decide)) ?_
    rw [nI_clamp (by omega)]
    refine vg_iload_n C d_G_give_23 rfl ?_
    exact vg_ireturn C hQ d_G_give_24 rfl (by first | rfl | assumption) (⟨by rw [bI_f (decide_eq_false (by intro hN; (try simp only [Int32.lt_iff_toInt_lt, Int32.le_iff_toInt_le, ← Int32.toInt_inj, i32_m1, i32_0, i32_1, i32_2, i32_3, i32_4, i32_5, i32_6, i32_7, i32_8, i32_9, i32_10, i32_16, i32_40, i32_n0, i32_n1, i32_n2, i32_n3, i32_n4, i32_n5, i32_n6, i32_n7, i32_n8, i32_n9, i32_n10, i32_n11, i32_n12] at c_7); (try simp only [Int32.lt_iff_toInt_lt, Int32.le_iff_toInt_le, ← Int32.toInt_inj, i32_m1, i32_0, i32_1, i32_2, i32_3, i32_4, i32_5, i32_6, i32_7, i32_8, i32_9, i32_10, i32_16, i32_40, i32_n0, i32_n1, i32_n2, i32_n3, i32_n4, i32_n5, i32_n6, i32_n7, i32_n8, i32_n9, i32_n10, i32_n11, i32_n12] at hN); (try simp only [Int32.lt_iff_toInt_lt, Int32.le_iff_toInt_le, ← Int32.toInt_inj, i32_m1, i32_0, i32_1, i32_2, i32_3, i32_4, i32_5, i32_6, i32_7, i32_8, i32_9, i32_10, i32_16, i32_40, i32_n0, i32_n1, i32_n2, i32_n3, i32_n4, i32_n5, i32_n6, i32_n7, i32_n8, i32_n9, i32_n10, i32_n11, i32_n12]); omega))], rfl⟩)
  · skip
    refine vg_iconst (v := 1) C d_G_give_10 (by decide) ?_
    refine vg_goto (tgt := 15) C d_G_give_11 (by decide) ?_
    refine vg_istore_n C d_G_give_15 (Nat.le_of_ble_eq_true rfl) rfl ?_
    refine vg_aload_n C d_G_give_16 rfl ?_
    refine wr_get C d_G_give_17 f_G_24 rfl rfl rfl rfl ?_
    refine vg_iload_n C d_G_give_20 rfl ?_
    refine vg_iload_n C d_G_give_21 rfl ?_
    refine wr_iast C d_G_give_22 rfl rfl (by exact vp_in_nI hi (by decide)) ?_
    rw [nI_clamp (by omega)]
    refine vg_iload_n C d_G_give_23 rfl ?_
    exact vg_ireturn C hQ d_G_give_24 rfl (by first | rfl | assumption) (⟨by rw [bI_t (decide_eq_true (by (try simp only [Int32.lt_iff_toInt_lt, Int32.le_iff_toInt_le, ← Int32.toInt_inj, i32_m1, i32_0, i32_1, i32_2, i32_3, i32_4, i32_5, i32_6, i32_7, i32_8, i32_9, i32_10, i32_16, i32_40, i32_n0, i32_n1, i32_n2, i32_n3, i32_n4, i32_n5, i32_n6, i32_n7, i32_n8, i32_n9, i32_n10, i32_n11, i32_n12] at c_7); (try simp only [Int32.lt_iff_toInt_lt, Int32.le_iff_toInt_le, ← Int32.toInt_inj, i32_m1, i32_0, i32_1, i32_2, i32_3, i32_4, i32_5, i32_6, i32_7, i32_8, i32_9, i32_10, i32_16, i32_40, i32_n0, i32_n1, i32_n2, i32_n3, i32_n4, i32_n5, i32_n6, i32_n7, i32_n8, i32_n9, i32_n10, i32_n11, i32_n12]); omega))], rfl⟩)
set_option maxHeartbeats 4000000 in
set_option maxRecDepth 100000 in
theorem c_G_startList (Z : vg_Z) (hst : vg_St Z) (ad : Nat → Nat) (σ : sg)   : vg_T Z M_G_startList 0 0 [.ref (ad 1)] (wd Z ad σ) (fun v w => v = none ∧ w = wd Z ad (sL (sI σ 1 (upd (σ.1 1) 7 0)) 1 (vp_updL (σ.2 1) 8 0))) := by
  refine vg_enter hst (by decide) rfl (Nat.le_of_ble_eq_true rfl) ?_
  intro G C hQ
  show vg_K Z M_G_startList G 0 0 0 [(0, .ref (ad 1))] [] (wd Z ad σ)
  refine vg_aload_n C d_G_startList_0 rfl ?_
  refine vg_iconst (v := 0) C d_G_startList_1 (by decide) ?_
  refine wr_puti C d_G_startList_2 f_G_61 p_G_7 rfl rfl rfl rfl rfl (Nat.le_of_ble_eq_true rfl) (wf_iG7 _ _ _) ?_
  refine vg_aload_n C d_G_startList_5 rfl ?_
  refine vg_lconst (v := 0) C d_G_startList_6 (by decide) ?_
  refine wr_putl C d_G_startList_7 f_G_64 p_G_8 rfl rfl rfl (Nat.le_of_ble_eq_true rfl) (wf_lG8 _ _ _) ?_
  exact vg_return C hQ d_G_startList_10 rfl (⟨rfl, rfl⟩)
