/-! the reference's small methods -/
theorem bt64 : ∀ a, a < 64 → ∀ b, b < 64 → nI a &&& nI b = nI (a &&& b) ∧ nI a ||| nI b = nI (a ||| b) := by decide +kernel
theorem i32_lt0 {n : Nat} (h : n < 2 ^ 31) : ¬ nI n < 0 := by
  rw [Int32.lt_iff_toInt_lt, nI_toInt h, i32_0]
  omega
theorem i32_ge0 {n : Nat} (h : n < 2 ^ 31) : 0 ≤ nI n := by
  rw [Int32.le_iff_toInt_le, nI_toInt h, i32_0]
  omega
theorem nI_le1 {n : Nat} (h : n < 2 ^ 31) (p : Int32) : p ≤ nI n - 1 ↔ p < nI n := by
  rcases Nat.eq_zero_or_pos n with q | q
  · subst q
    rw [show nI 0 - 1 = -1 from by decide, show nI 0 = 0 from rfl, Int32.le_iff_toInt_le, Int32.lt_iff_toInt_lt, i32_m1, i32_0]
    omega
  · rw [nI_p q, Int32.le_iff_toInt_le, Int32.lt_iff_toInt_lt, nI_toInt h, nI_toInt (by omega)]
    omega
theorem svP {p q : Prop} (h : p ↔ q) : some (Value.int (bP p)) = some (Value.int (bP q)) := by rw [bP_congr h]
theorem a_34 (a : Int32) : a ≤ 3 ↔ a < 4 := by
  rw [Int32.le_iff_toInt_le, Int32.lt_iff_toInt_lt, i32_3, i32_4]
  omega
/-- the reference's grammar -/
def GrR (σ : sg) (n : Nat) (H : Nat → Nat) : Prop := (WG (σ.1 118) (σ.1 119) (σ.1 120) (σ.1 122) n H ∧ ∀ p, p < n → ∃ kn, kn ≤ 10 ∧ σ.1 118 p = nI kn) ∧ σ.1 117 5 = nI n
/-- the reference's document -/
def RM (σ : sg) (D : Dc) (nd : Nat) : Prop := WD D nd ∧ σ.1 117 15 = nI nd ∧ ∀ t, t < nd → σ.1 123 t = D.1 t ∧ (∀ a, a < 6 → σ.1 126 (6 * t + a) = bP (D.2.1 t a ≠ none) ∧ ∀ v, D.2.1 t a = some v → σ.1 127 (6 * t + a) = v) ∧ σ.1 130 t = nI (D.2.2.1 t) ∧ ∀ i, i < D.2.2.1 t → (D.2.2.2.1 t i = none ∧ σ.1 128 (6 * t + i) = -1 ∧ σ.1 129 (6 * t + i) = D.2.2.2.2 t i) ∨ ∃ u, D.2.2.2.1 t i = some u ∧ u < nd ∧ σ.1 128 (6 * t + i) = nI u
set_option maxHeartbeats 4000000 in
set_option maxRecDepth 100000 in
theorem c_R_raise (Z : vg_Z) (hst : vg_St Z) (ad : Nat → Nat) (σ : sg) (c : Int32)  : vg_T Z M_R_raise 0 0 [.ref (ad 117), .int c] (wd Z ad σ) (fun v w => v = some (.int 0) ∧ w = wd Z ad (sI σ 117 (upd (σ.1 117) 0 c))) := by
  refine vg_enter hst (by decide) rfl (Nat.le_of_ble_eq_true rfl) ?_
  intro G C hQ
  show vg_K Z M_R_raise G 0 0 0 [(0, .ref (ad 117)), (1, .int c)] [] (wd Z ad σ)
  refine vg_aload_n C d_R_raise_0 rfl ?_
  refine vg_iload_n C d_R_raise_1 rfl ?_
  refine wr_puti C d_R_raise_2 f_R_70 p_R_0 rfl rfl rfl rfl rfl (Nat.le_of_ble_eq_true rfl) (wf_iR0 _ _ _) ?_
  refine vg_iconst (v := 0) C d_R_raise_5 (by decide) ?_
  exact vg_ireturn C hQ d_R_raise_6 rfl (by first | rfl | assumption) (⟨rfl, rfl⟩)
set_option maxHeartbeats 4000000 in
set_option maxRecDepth 100000 in
theorem c_R_thrown (Z : vg_Z) (hst : vg_St Z) (ad : Nat → Nat) (σ : sg)   : vg_T Z M_R_thrown 0 0 [.ref (ad 117)] (wd Z ad σ) (fun v w => v = some (.int (σ.1 117 0)) ∧ w = wd Z ad σ) := by
  refine vg_enter hst (by decide) rfl (Nat.le_of_ble_eq_true rfl) ?_
  intro G C hQ
  show vg_K Z M_R_thrown G 0 0 0 [(0, .ref (ad 117))] [] (wd Z ad σ)
  refine vg_aload_n C d_R_thrown_0 rfl ?_
  refine wr_get C d_R_thrown_1 f_R_70 rfl rfl rfl rfl ?_
  exact vg_ireturn C hQ d_R_thrown_4 rfl (by first | rfl | assumption) (⟨rfl, rfl⟩)
set_option maxHeartbeats 4000000 in
set_option maxRecDepth 100000 in
theorem c_R_in (Z : vg_Z) (hst : vg_St Z) (ad : Nat → Nat) (σ : sg) (x lo hi : Int32)  : vg_T Z M_R_in 0 0 [.int x, .int lo, .int hi] (wd Z ad σ) (fun v w => v = some (.int (bP (lo ≤ x ∧ x ≤ hi))) ∧ w = wd Z ad σ) := by
  refine vg_enter hst (by decide) rfl (Nat.le_of_ble_eq_true rfl) ?_
  intro G C hQ
  show vg_K Z M_R_in G 0 0 0 [(0, .int x), (1, .int lo), (2, .int hi)] [] (wd Z ad σ)
  refine vg_iload_n C d_R_in_0 rfl ?_
  refine vg_iload_n C d_R_in_1 rfl ?_
  refine vg_icmp_lt (tgt := 14) C d_R_in_2 (by decide) (fun c_2 => ?_) (fun c_2 => ?_)
  · skip
    refine vg_iconst (v := 0) C d_R_in_14 (by decide) ?_
    exact vg_ireturn C hQ d_R_in_15 rfl (by first | rfl | assumption) (⟨by rw [bP_f (by intro hN; (try simp only [Int32.lt_iff_toInt_lt, Int32.le_iff_toInt_le, ← Int32.toInt_inj, i32_m1, i32_0, i32_1, i32_2, i32_3, i32_4, i32_5, i32_6, i32_7, i32_8, i32_9, i32_10, i32_16, i32_40, i32_n0, i32_n1, i32_n2, i32_n3, i32_n4, i32_n5, i32_n6, i32_n7, i32_n8, i32_n9, i32_n10, i32_n11, i32_n12] at c_2); (try simp only [Int32.lt_iff_toInt_lt, Int32.le_iff_toInt_le, ← Int32.toInt_inj, i32_m1, i32_0, i32_1, i32_2, i32_3, i32_4, i32_5, i32_6, i32_7, i32_8, i32_9, i32_10, i32_16, i32_40, i32_n0, i32_n1, i32_n2, i32_n3, i32_n4, i32_n5, i32_n6, i32_n7, i32_n8, i32_n9, i32_n10, i32_n11, i32_n12] at hN); (try simp only [Int32.lt_iff_toInt_lt, Int32.le_iff_toInt_le, ← Int32.toInt_inj, i32_m1, i32_0, i32_1, i32_2, i32_3, i32_4, i32_5, i32_6, i32_7, i32_8, i32_9, i32_10, i32_16, i32_40, i32_n0, i32_n1, i32_n2, i32_n3, i32_n4, i32_n5, i32_n6, i32_n7, i32_n8, i32_n9, i32_n10, i32_n11, i32_n12]); omega)], rfl⟩)
  · skip
    refine vg_iload_n C d_R_in_5 rfl ?_
    refine vg_iload_n C d_R_in_6 rfl ?_
    refine vg_icmp_gt (tgt := 14) C d_R_in_7 (by decide) (fun c_7 => ?_) (fun c_7 => ?_)
    · skip
      refine vg_iconst (v := 0) C d_R_in_14 (by decide) ?_
      exact vg_ireturn C hQ d_R_in_15 rfl (by first | rfl | assumption) (⟨by rw [bP_f (by intro hN; (try simp only [Int32.lt_iff_toInt_lt, Int32.le_iff_toInt_le, ← Int32.toInt_inj, i32_m1, i32_0, i32_1, i32_2, i32_3, i32_4, i32_5, i32_6, i32_7, i32_8, i32_9, i32_10, i32_16, i32_40, i32_n0, i32_n1, i32_n2, i32_n3, i32_n4, i32_n5, i32_n6, i32_n7, i32_n8, i32_n9, i32_n10, i32_n11, i32_n12] at c_2); (try simp only [Int32.lt_iff_toInt_lt, Int32.le_iff_toInt_le, ← Int32.toInt_inj, i32_m1, i32_0, i32_1, i32_2, i32_3, i32_4, i32_5, i32_6, i32_7, i32_8, i32_9, i32_10, i32_16, i32_40, i32_n0, i32_n1, i32_n2, i32_n3, i32_n4, i32_n5, i32_n6, i32_n7, i32_n8, i32_n9, i32_n10, i32_n11, i32_n12] at c_7); (try simp only [Int32.lt_iff_toInt_lt, Int32.le_iff_toInt_le, ← Int32.toInt_inj, i32_m1, i32_0, i32_1, i32_2, i32_3, i32_4, i32_5, i32_6, i32_7, i32_8, i32_9, i32_10, i32_16, i32_40, i32_n0, i32_n1, i32_n2, i32_n3, i32_n4, i32_n5, i32_n6, i32_n7, i32_n8, i32_n9, i32_n10, i32_n11, i32_n12] at hN); (try simp only [Int32.lt_iff_toInt_lt, Int32.le_iff_toInt_le, ← Int32.toInt_inj, i32_m1, i32_0, i32_1, i32_2, i32_3, i32_4, i32_5, i32_6, i32_7, i32_8, i32_9, i32_10, i32_16, i32_40, i32_n0, i32_n1, i32_n2, i32_n3, i32_n4, i32_n5, i32_n6, i32_n7, i32_n8, i32_n9, i32_n10, i32_n11, i32_n12]); omega)], rfl⟩)
    · skip
      refine vg_iconst (v := 1) C d_R_in_10 (by decide) ?_
      refine vg_goto (tgt := 15) C d_R_in_11 (by decide) ?_
      exact vg_ireturn C hQ d_R_in_15 rfl (by first | rfl | assumption) (⟨by rw [bP_t (by (try simp only [Int32.lt_iff_toInt_lt, Int32.le_iff_toInt_le, ← Int32.toInt_inj, i32_m1, i32_0, i32_1, i32_2, i32_3, i32_4, i32_5, i32_6, i32_7, i32_8, i32_9, i32_10, i32_16, i32_40, i32_n0, i32_n1, i32_n2, i32_n3, i32_n4, i32_n5, i32_n6, i32_n7, i32_n8, i32_n9, i32_n10, i32_n11, i32_n12] at c_2); (try simp only [Int32.lt_iff_toInt_lt, Int32.le_iff_toInt_le, ← Int32.toInt_inj, i32_m1, i32_0, i32_1, i32_2, i32_3, i32_4, i32_5, i32_6, i32_7, i32_8, i32_9, i32_10, i32_16, i32_40, i32_n0, i32_n1, i32_n2, i32_n3, i32_n4, i32_n5, i32_n6, i32_n7, i32_n8, i32_n9, i32_n10, i32_n11, i32_n12] at c_7); (try simp only [Int32.lt_iff_toInt_lt, Int32.le_iff_toInt_le, ← Int32.toInt_inj, i32_m1, i32_0, i32_1, i32_2, i32_3, i32_4, i32_5, i32_6, i32_7, i32_8, i32_9, i32_10, i32_16, i32_40, i32_n0, i32_n1, i32_n2, i32_n3, i32_n4, i32_n5, i32_n6, i32_n7, i32_n8, i32_n9, i32_n10, i32_n11, i32_n12]); omega)], rfl⟩)
set_option maxHeartbeats 4000000 in
set_option maxRecDepth 100000 in
theorem c_R_made (Z : vg_Z) (hst : vg_St Z) (ad : Nat → Nat) (σ : sg) (p : Int32) (n : Nat) (hn : σ.1 117 5 = nI n) (hn40 : n ≤ 40)  : vg_T Z M_R_made 0 0 [.ref (ad 117), .int p] (wd Z ad σ) (fun v w => v = some (.int (bP (0 ≤ p ∧ p < nI n))) ∧ w = wd Z ad σ) := by
  refine vg_enter hst (by decide) rfl (Nat.le_of_ble_eq_true rfl) ?_
  intro G C hQ
  show vg_K Z M_R_made G 0 0 0 [(0, .ref (ad 117)), (1, .int p)] [] (wd Z ad σ)
  refine vg_iload_n C d_R_made_0 rfl ?_
  refine vg_iconst (v := 0) C d_R_made_1 (by decide) ?_
  refine vg_aload_n C d_R_made_2 rfl ?_
  refine wr_get C d_R_made_3 f_R_73 rfl rfl rfl rfl ?_
  rw [hn]
  refine vg_iconst (v := 1) C d_R_made_6 (by decide) ?_
  refine vg_isub C d_R_made_7 ?_
  refine vg_callS (As := [_, _, _]) C (c_R_in Z hst ad σ p 0 (nI n - 1)) l_R_made_R_in k_R_76 rfl rfl (Nat.le_of_ble_eq_true rfl) d_R_made_8 ⟨Nat.le_of_ble_eq_true rfl, Nat.le_of_ble_eq_true rfl⟩ (fun v_8 w_8 h_8 => ?_)
  obtain ⟨rfl, rfl⟩ := h_8
  exact vg_ireturn C hQ d_R_made_11 rfl (by exact bP_nar _) (⟨by rw [bP_congr (and_congr_right fun _ => nI_le1 (by omega) p)], rfl⟩)
set_option maxHeartbeats 4000000 in
set_option maxRecDepth 100000 in
theorem c_R_fits (Z : vg_Z) (hst : vg_St Z) (ad : Nat → Nat) (σ : sg) (x a b : Int32) (n : Nat) (hn : σ.1 117 5 = nI n) (hn40 : n ≤ 40)  : vg_T Z M_R_fits 0 0 [.ref (ad 117), .int x, .int a, .int b] (wd Z ad σ) (fun v w => v = some (.int (bP ((0 ≤ x ∧ x ≤ 3) ∨ ((x = 4 ∨ x = 5 ∨ x = 6) ∧ (0 ≤ a ∧ a < nI n) ∧ (0 ≤ b ∧ b < nI n)) ∨ (x = 7 ∧ (0 ≤ a ∧ a < nI n)) ∨ ((x = 8 ∨ x = 9) ∧ 0 ≤ a ∧ a ≤ 6 ∧ (0 ≤ b ∧ b < nI n)) ∨ (x = 10 ∧ 0 ≤ a ∧ a < 4)))) ∧ w = wd Z ad σ) := by
  refine vg_enter hst (by decide) rfl (Nat.le_of_ble_eq_true rfl) ?_
  intro G C hQ
  show vg_K Z M_R_fits G 0 0 0 [(0, .ref (ad 117)), (1, .int x), (2, .int a), (3, .int b)] [] (wd Z ad σ)
  refine vg_iload_n C d_R_fits_0 rfl ?_
  rcases sw_n x 10 (by decide) with hs_1 | ⟨j_1, hj_1, es_1⟩
  · skip
    refine vg_tabOut (tgt := 121) C d_R_fits_1 hs_1 (by decide) ?_
    refine vg_iconst (v := 0) C d_R_fits_121 (by decide) ?_
    exact vg_ireturn C hQ d_R_fits_122 rfl (by first | rfl | assumption) (⟨by rw [bP_f (by intro hN; (try simp only [Int32.lt_iff_toInt_lt, Int32.le_iff_toInt_le, ← Int32.toInt_inj, i32_0, i32_3, i32_4, i32_5, i32_6, i32_7, i32_8, i32_9, i32_10] at hN); omega)], rfl⟩)
  · skip
    rcases (show j_1 = 0 ∨ j_1 = 1 ∨ j_1 = 2 ∨ j_1 = 3 ∨ j_1 = 4 ∨ j_1 = 5 ∨ j_1 = 6 ∨ j_1 = 7 ∨ j_1 = 8 ∨ j_1 = 9 ∨ j_1 = 10 by omega) with rfl | rfl | rfl | rfl | rfl | rfl | rfl | rfl | rfl | rfl | rfl
    · skip
      subst es_1
      refine vg_tabIn (tgt := 60) C d_R_fits_1 (by decide) (by decide) rfl (by decide) ?_
      refine vg_iconst (v := 1) C d_R_fits_60 (by decide) ?_
      exact vg_ireturn C hQ d_R_fits_61 rfl (by first | rfl | assumption) (⟨by rw [bP_t (Or.inl (by decide))], rfl⟩)
    · skip
      subst es_1
      refine vg_tabIn (tgt := 60) C d_R_fits_1 (by decide) (by decide) rfl (by decide) ?_
      refine vg_iconst (v := 1) C d_R_fits_60 (by decide) ?_
      exact vg_ireturn C hQ d_R_fits_61 rfl (by first | rfl | assumption) (⟨by rw [bP_t (Or.inl (by decide))], rfl⟩)
    · skip
      subst es_1
      refine vg_tabIn (tgt := 60) C d_R_fits_1 (by decide) (by decide) rfl (by decide) ?_
      refine vg_iconst (v := 1) C d_R_fits_60 (by decide) ?_
      exact vg_ireturn C hQ d_R_fits_61 rfl (by first | rfl | assumption) (⟨by rw [bP_t (Or.inl (by decide))], rfl⟩)
    · skip
      subst es_1
      refine vg_tabIn (tgt := 60) C d_R_fits_1 (by decide) (by decide) rfl (by decide) ?_
      refine vg_iconst (v := 1) C d_R_fits_60 (by decide) ?_
      exact vg_ireturn C hQ d_R_fits_61 rfl (by first | rfl | assumption) (⟨by rw [bP_t (Or.inl (by decide))], rfl⟩)
    · skip
      subst es_1
      refine vg_tabIn (tgt := 62) C d_R_fits_1 (by decide) (by decide) rfl (by decide) ?_
      refine vg_aload_n C d_R_fits_62 rfl ?_
      refine vg_iload_n C d_R_fits_63 rfl ?_
      refine wr_callV (As := [_]) C (c_R_made Z hst ad σ a n hn hn40) l_R_fits_R_made k_R_80 rfl rfl rfl rfl rfl (Nat.le_of_ble_eq_true rfl) d_R_fits_64 ⟨Nat.le_of_ble_eq_true rfl, Nat.le_of_ble_eq_true rfl⟩ (fun v_64 w_64 h_64 => ?_)
      obtain ⟨rfl, rfl⟩ := h_64
      refine vg_if_eq (tgt := 82) C d_R_fits_67 (by decide) (fun c_67 => ?_) (fun c_67 => ?_)
      · rw [bP_eq] at c_67; (try simp only [Classical.not_not] at c_67)
        refine vg_iconst (v := 0) C d_R_fits_82 (by decide) ?_
        exact vg_ireturn C hQ d_R_fits_83 rfl (by first | rfl | assumption) (⟨by rw [bP_f (by rintro (⟨h1, h2⟩ | ⟨h1, h2, h3⟩ | ⟨h1, h2⟩ | ⟨h1, h2, h3, h4⟩ | ⟨h1, h2, h3⟩) <;> first | exact absurd h2 (by decide) | exact c_67 h2 | exact c_75 h3 | exact absurd h1 (by decide))], rfl⟩)
      · rw [bP_eq] at c_67; (try simp only [Classical.not_not] at c_67)
        refine vg_aload_n C d_R_fits_70 rfl ?_
        refine vg_iload_n C d_R_fits_71 rfl ?_
        refine wr_callV (As := [_]) C (c_R_made Z hst ad σ b n hn hn40) l_R_fits_R_made k_R_80 rfl rfl rfl rfl rfl (Nat.le_of_ble_eq_true rfl) d_R_fits_72 ⟨Nat.le_of_ble_eq_true rfl, Nat.le_of_ble_eq_true rfl⟩ (fun v_72 w_72 h_72 => ?_)
        obtain ⟨rfl, rfl⟩ := h_72
        refine vg_if_eq (tgt := 82) C d_R_fits_75 (by decide) (fun c_75 => ?_) (fun c_75 => ?_)
        · rw [bP_eq] at c_75; (try simp only [Classical.not_not] at c_75)
          refine vg_iconst (v := 0) C d_R_fits_82 (by decide) ?_
          exact vg_ireturn C hQ d_R_fits_83 rfl (by first | rfl | assumption) (⟨by rw [bP_f (by rintro (⟨h1, h2⟩ | ⟨h1, h2, h3⟩ | ⟨h1, h2⟩ | ⟨h1, h2, h3, h4⟩ | ⟨h1, h2, h3⟩) <;> first | exact absurd h2 (by decide) | exact c_67 h2 | exact c_75 h3 | exact absurd h1 (by decide))], rfl⟩)
        · rw [bP_eq] at c_75; (try simp only [Classical.not_not] at c_75)
          refine vg_iconst (v := 1) C d_R_fits_78 (by decide) ?_
          refine vg_goto (tgt := 83) C d_R_fits_79 (by decide) ?_
          exact vg_ireturn C hQ d_R_fits_83 rfl (by first | rfl | assumption) (⟨by rw [bP_t (by exact Or.inr (Or.inl ⟨by decide, c_67, c_75⟩))], rfl⟩)
    · skip
      subst es_1
      refine vg_tabIn (tgt := 62) C d_R_fits_1 (by decide) (by decide) rfl (by decide) ?_
      refine vg_aload_n C d_R_fits_62 rfl ?_
      refine vg_iload_n C d_R_fits_63 rfl ?_
      refine wr_callV (As := [_]) C (c_R_made Z hst ad σ a n hn hn40) l_R_fits_R_made k_R_80 rfl rfl rfl rfl rfl (Nat.le_of_ble_eq_true rfl) d_R_fits_64 ⟨Nat.le_of_ble_eq_true rfl, Nat.le_of_ble_eq_true rfl⟩ (fun v_64 w_64 h_64 => ?_)
      obtain ⟨rfl, rfl⟩ := h_64
      refine vg_if_eq (tgt := 82) C d_R_fits_67 (by decide) (fun c_67 => ?_) (fun c_67 => ?_)
      · rw [bP_eq] at c_67; (try simp only [Classical.not_not] at c_67)
        refine vg_iconst (v := 0) C d_R_fits_82 (by decide) ?_
        exact vg_ireturn C hQ d_R_fits_83 rfl (by first | rfl | assumption) (⟨by rw [bP_f (by rintro (⟨h1, h2⟩ | ⟨h1, h2, h3⟩ | ⟨h1, h2⟩ | ⟨h1, h2, h3, h4⟩ | ⟨h1, h2, h3⟩) <;> first | exact absurd h2 (by decide) | exact c_67 h2 | exact c_75 h3 | exact absurd h1 (by decide))], rfl⟩)
      · rw [bP_eq] at c_67; (try simp only [Classical.not_not] at c_67)
        refine vg_aload_n C d_R_fits_70 rfl ?_
        refine vg_iload_n C d_R_fits_71 rfl ?_
        refine wr_callV (As := [_]) C (c_R_made Z hst ad σ b n hn hn40) l_R_fits_R_made k_R_80 rfl rfl rfl rfl rfl (Nat.le_of_ble_eq_true rfl) d_R_fits_72 ⟨Nat.le_of_ble_eq_true rfl, Nat.le_of_ble_eq_true rfl⟩ (fun v_72 w_72 h_72 => ?_)
        obtain ⟨rfl, rfl⟩ := h_72
        refine vg_if_eq (tgt := 82) C d_R_fits_75 (by decide) (fun c_75 => ?_) (fun c_75 => ?_)
        · rw [bP_eq] at c_75; (try simp only [Classical.not_not] at c_75)
          refine vg_iconst (v := 0) C d_R_fits_82 (by decide) ?_
          exact vg_ireturn C hQ d_R_fits_83 rfl (by first | rfl | assumption) (⟨by rw [bP_f (by rintro (⟨h1, h2⟩ | ⟨h1, h2, h3⟩ | ⟨h1, h2⟩ | ⟨h1, h2, h3, h4⟩ | ⟨h1, h2, h3⟩) <;> first | exact absurd h2 (by decide) | exact c_67 h2 | exact c_75 h3 | exact absurd h1 (by decide))], rfl⟩)
        · rw [bP_eq] at c_75; (try simp only [Classical.not_not] at c_75)
          refine vg_iconst (v := 1) C d_R_fits_78 (by decide) ?_
          refine vg_goto (tgt := 83) C d_R_fits_79 (by decide) ?_
          exact vg_ireturn C hQ d_R_fits_83 rfl (by first | rfl | assumption) (⟨by rw [bP_t (by exact Or.inr (Or.inl ⟨by decide, c_67, c_75⟩))], rfl⟩)
    · skip
      subst es_1
      refine vg_tabIn (tgt := 62) C d_R_fits_1 (by decide) (by decide) rfl (by decide) ?_
      refine vg_aload_n C d_R_fits_62 rfl ?_
      refine vg_iload_n C d_R_fits_63 rfl ?_
      refine wr_callV (As := [_]) C (c_R_made Z hst ad σ a n hn hn40) l_R_fits_R_made k_R_80 rfl rfl rfl rfl rfl (Nat.le_of_ble_eq_true rfl) d_R_fits_64 ⟨Nat.le_of_ble_eq_true rfl, Nat.le_of_ble_eq_true rfl⟩ (fun v_64 w_64 h_64 => ?_)
      obtain ⟨rfl, rfl⟩ := h_64
      refine vg_if_eq (tgt := 82) C d_R_fits_67 (by decide) (fun c_67 => ?_) (fun c_67 => ?_)
      · rw [bP_eq] at c_67; (try simp only [Classical.not_not] at c_67)
        refine vg_iconst (v := 0) C d_R_fits_82 (by decide) ?_
        exact vg_ireturn C hQ d_R_fits_83 rfl (by first | rfl | assumption) (⟨by rw [bP_f (by rintro (⟨h1, h2⟩ | ⟨h1, h2, h3⟩ | ⟨h1, h2⟩ | ⟨h1, h2, h3, h4⟩ | ⟨h1, h2, h3⟩) <;> first | exact absurd h2 (by decide) | exact c_67 h2 | exact c_75 h3 | exact absurd h1 (by decide))], rfl⟩)
      · rw [bP_eq] at c_67; (try simp only [Classical.not_not] at c_67)
        refine vg_aload_n C d_R_fits_70 rfl ?_
        refine vg_iload_n C d_R_fits_71 rfl ?_
        refine wr_callV (As := [_]) C (c_R_made Z hst ad σ b n hn hn40) l_R_fits_R_made k_R_80 rfl rfl rfl rfl rfl (Nat.le_of_ble_eq_true rfl) d_R_fits_72 ⟨Nat.le_of_ble_eq_true rfl, Nat.le_of_ble_eq_true rfl⟩ (fun v_72 w_72 h_72 => ?_)
        obtain ⟨rfl, rfl⟩ := h_72
        refine vg_if_eq (tgt := 82) C d_R_fits_75 (by decide) (fun c_75 => ?_) (fun c_75 => ?_)
        · rw [bP_eq] at c_75; (try simp only [Classical.not_not] at c_75)
          refine vg_iconst (v := 0) C d_R_fits_82 (by decide) ?_
          exact vg_ireturn C hQ d_R_fits_83 rfl (by first | rfl | assumption) (⟨by rw [bP_f (by rintro (⟨h1, h2⟩ | ⟨h1, h2, h3⟩ | ⟨h1, h2⟩ | ⟨h1, h2, h3, h4⟩ | ⟨h1, h2, h3⟩) <;> first | exact absurd h2 (by decide) | exact c_67 h2 | exact c_75 h3 | exact absurd h1 (by decide))], rfl⟩)
        · rw [bP_eq] at c_75; (try simp only [Classical.not_not] at c_75)
          refine vg_iconst (v := 1) C d_R_fits_78 (by decide) ?_
          refine vg_goto (tgt := 83) C d_R_fits_79 (by decide) ?_
          exact vg_ireturn C hQ d_R_fits_83 rfl (by first | rfl | assumption) (⟨by rw [bP_t (by exact Or.inr (Or.inl ⟨by decide, c_67, c_75⟩))], rfl⟩)
    · skip
      subst es_1
      refine vg_tabIn (tgt := 84) C d_R_fits_1 (by decide) (by decide) rfl (by decide) ?_
      refine vg_aload_n C d_R_fits_84 rfl ?_
      refine vg_iload_n C d_R_fits_85 rfl ?_
      refine wr_callV (As := [_]) C (c_R_made Z hst ad σ a n hn hn40) l_R_fits_R_made k_R_80 rfl rfl rfl rfl rfl (Nat.le_of_ble_eq_true rfl) d_R_fits_86 ⟨Nat.le_of_ble_eq_true rfl, Nat.le_of_ble_eq_true rfl⟩ (fun v_86 w_86 h_86 => ?_)
      obtain ⟨rfl, rfl⟩ := h_86
      exact vg_ireturn C hQ d_R_fits_89 rfl (by exact bP_nar _) (⟨svP ⟨fun h => Or.inr (Or.inr (Or.inl ⟨by decide, h⟩)), fun h => by rcases h with ⟨h1, h2⟩ | ⟨h1, h2, h3⟩ | ⟨h1, h2⟩ | ⟨h1, h2, h3⟩ | ⟨h1, h2⟩ <;> first | exact absurd h2 (by decide) | exact h2 | exact absurd h1 (by decide)⟩, rfl⟩)
    · skip
      subst es_1
      refine vg_tabIn (tgt := 90) C d_R_fits_1 (by decide) (by decide) rfl (by decide) ?_
      refine vg_iload_n C d_R_fits_90 rfl ?_
      refine vg_iconst (v := 0) C d_R_fits_91 (by decide) ?_
      refine vg_bipush (v := 6) C d_R_fits_92 (by decide) ?_
      refine vg_callS (As := [_, _, _]) C (c_R_in Z hst ad σ a 0 6) l_R_fits_R_in k_R_76 rfl rfl (Nat.le_of_ble_eq_true rfl) d_R_fits_94 ⟨Nat.le_of_ble_eq_true rfl, Nat.le_of_ble_eq_true rfl⟩ (fun v_94 w_94 h_94 => ?_)
      obtain ⟨rfl, rfl⟩ := h_94
      refine vg_if_eq (tgt := 112) C d_R_fits_97 (by decide) (fun c_97 => ?_) (fun c_97 => ?_)
      · rw [bP_eq] at c_97; (try simp only [Classical.not_not] at c_97)
        refine vg_iconst (v := 0) C d_R_fits_112 (by decide) ?_
        exact vg_ireturn C hQ d_R_fits_113 rfl (by first | rfl | assumption) (⟨by rw [bP_f (by rintro (⟨h1, h2⟩ | ⟨h1, h2, h3⟩ | ⟨h1, h2⟩ | ⟨h1, h2, h3, h4⟩ | ⟨h1, h2, h3⟩) <;> first | exact absurd h2 (by decide) | exact c_97 ⟨h2, h3⟩ | exact c_105 h4 | exact absurd h1 (by decide))], rfl⟩)
      · rw [bP_eq] at c_97; (try simp only [Classical.not_not] at c_97)
        refine vg_aload_n C d_R_fits_100 rfl ?_
        refine vg_iload_n C d_R_fits_101 rfl ?_
        refine wr_callV (As := [_]) C (c_R_made Z hst ad σ b n hn hn40) l_R_fits_R_made k_R_80 rfl rfl rfl rfl rfl (Nat.le_of_ble_eq_true rfl) d_R_fits_102 ⟨Nat.le_of_ble_eq_true rfl, Nat.le_of_ble_eq_true rfl⟩ (fun v_102 w_102 h_102 => ?_)
        obtain ⟨rfl, rfl⟩ := h_102
        refine vg_if_eq (tgt := 112) C d_R_fits_105 (by decide) (fun c_105 => ?_) (fun c_105 => ?_)
        · rw [bP_eq] at c_105; (try simp only [Classical.not_not] at c_105)
          refine vg_iconst (v := 0) C d_R_fits_112 (by decide) ?_
          exact vg_ireturn C hQ d_R_fits_113 rfl (by first | rfl | assumption) (⟨by rw [bP_f (by rintro (⟨h1, h2⟩ | ⟨h1, h2, h3⟩ | ⟨h1, h2⟩ | ⟨h1, h2, h3, h4⟩ | ⟨h1, h2, h3⟩) <;> first | exact absurd h2 (by decide) | exact c_97 ⟨h2, h3⟩ | exact c_105 h4 | exact absurd h1 (by decide))], rfl⟩)
        · rw [bP_eq] at c_105; (try simp only [Classical.not_not] at c_105)
          refine vg_iconst (v := 1) C d_R_fits_108 (by decide) ?_
          refine vg_goto (tgt := 113) C d_R_fits_109 (by decide) ?_
          exact vg_ireturn C hQ d_R_fits_113 rfl (by first | rfl | assumption) (⟨by rw [bP_t (by exact Or.inr (Or.inr (Or.inr (Or.inl ⟨by decide, c_97.1, c_97.2, c_105⟩))))], rfl⟩)
    · skip
      subst es_1
      refine vg_tabIn (tgt := 90) C d_R_fits_1 (by decide) (by decide) rfl (by decide) ?_
      refine vg_iload_n C d_R_fits_90 rfl ?_
      refine vg_iconst (v := 0) C d_R_fits_91 (by decide) ?_
      refine vg_bipush (v := 6) C d_R_fits_92 (by decide) ?_
      refine vg_callS (As := [_, _, _]) C (c_R_in Z hst ad σ a 0 6) l_R_fits_R_in k_R_76 rfl rfl (Nat.le_of_ble_eq_true rfl) d_R_fits_94 ⟨Nat.le_of_ble_eq_true rfl, Nat.le_of_ble_eq_true rfl⟩ (fun v_94 w_94 h_94 => ?_)
      obtain ⟨rfl, rfl⟩ := h_94
      refine vg_if_eq (tgt := 112) C d_R_fits_97 (by decide) (fun c_97 => ?_) (fun c_97 => ?_)
      · rw [bP_eq] at c_97; (try simp only [Classical.not_not] at c_97)
        refine vg_iconst (v := 0) C d_R_fits_112 (by decide) ?_
        exact vg_ireturn C hQ d_R_fits_113 rfl (by first | rfl | assumption) (⟨by rw [bP_f (by rintro (⟨h1, h2⟩ | ⟨h1, h2, h3⟩ | ⟨h1, h2⟩ | ⟨h1, h2, h3, h4⟩ | ⟨h1, h2, h3⟩) <;> first | exact absurd h2 (by decide) | exact c_97 ⟨h2, h3⟩ | exact c_105 h4 | exact absurd h1 (by decide))], rfl⟩)
      · rw [bP_eq] at c_97; (try simp only [Classical.not_not] at c_97)
        refine vg_aload_n C d_R_fits_100 rfl ?_
        refine vg_iload_n C d_R_fits_101 rfl ?_
        refine wr_callV (As := [_]) C (c_R_made Z hst ad σ b n hn hn40) l_R_fits_R_made k_R_80 rfl rfl rfl rfl rfl (Nat.le_of_ble_eq_true rfl) d_R_fits_102 ⟨Nat.le_of_ble_eq_true rfl, Nat.le_of_ble_eq_true rfl⟩ (fun v_102 w_102 h_102 => ?_)
        obtain ⟨rfl, rfl⟩ := h_102
        refine vg_if_eq (tgt := 112) C d_R_fits_105 (by decide) (fun c_105 => ?_) (fun c_105 => ?_)
        · rw [bP_eq] at c_105; (try simp only [Classical.not_not] at c_105)
          refine vg_iconst (v := 0) C d_R_fits_112 (by decide) ?_
          exact vg_ireturn C hQ d_R_fits_113 rfl (by first | rfl | assumption) (⟨by rw [bP_f (by rintro (⟨h1, h2⟩ | ⟨h1, h2, h3⟩ | ⟨h1, h2⟩ | ⟨h1, h2, h3, h4⟩ | ⟨h1, h2, h3⟩) <;> first | exact absurd h2 (by decide) | exact c_97 ⟨h2, h3⟩ | exact c_105 h4 | exact absurd h1 (by decide))], rfl⟩)
        · rw [bP_eq] at c_105; (try simp only [Classical.not_not] at c_105)
          refine vg_iconst (v := 1) C d_R_fits_108 (by decide) ?_
          refine vg_goto (tgt := 113) C d_R_fits_109 (by decide) ?_
          exact vg_ireturn C hQ d_R_fits_113 rfl (by first | rfl | assumption) (⟨by rw [bP_t (by exact Or.inr (Or.inr (Or.inr (Or.inl ⟨by decide, c_97.1, c_97.2, c_105⟩))))], rfl⟩)
    · skip
      subst es_1
      refine vg_tabIn (tgt := 114) C d_R_fits_1 (by decide) (by decide) rfl (by decide) ?_
      refine vg_iload_n C d_R_fits_114 rfl ?_
      refine vg_iconst (v := 0) C d_R_fits_115 (by decide) ?_
      refine vg_iconst (v := 3) C d_R_fits_116 (by decide) ?_
      refine vg_callS (As := [_, _, _]) C (c_R_in Z hst ad σ a 0 3) l_R_fits_R_in k_R_76 rfl rfl (Nat.le_of_ble_eq_true rfl) d_R_fits_117 ⟨Nat.le_of_ble_eq_true rfl, Nat.le_of_ble_eq_true rfl⟩ (fun v_117 w_117 h_117 => ?_)
      obtain ⟨rfl, rfl⟩ := h_117
      exact vg_ireturn C hQ d_R_fits_120 rfl (by exact bP_nar _) (⟨svP ⟨fun h => Or.inr (Or.inr (Or.inr (Or.inr ⟨by decide, h.1, (a_34 a).mp h.2⟩))), fun h => by rcases h with ⟨h1, h2⟩ | ⟨h1, h2, h3⟩ | ⟨h1, h2⟩ | ⟨h1, h2, h3⟩ | ⟨h1, h2, h3⟩ <;> first | exact absurd h2 (by decide) | exact ⟨h2, (a_34 a).mpr h3⟩ | exact absurd h1 (by decide)⟩, rfl⟩)
set_option maxHeartbeats 4000000 in
set_option maxRecDepth 100000 in
theorem c_R_known (Z : vg_Z) (hst : vg_St Z) (ad : Nat → Nat) (σ : sg) (p t : Int32) (n nd : Nat) (hn : σ.1 117 5 = nI n) (hn40 : n ≤ 40) (hd : σ.1 117 15 = nI nd) (hd16 : nd ≤ 16)  : vg_T Z M_R_known 0 0 [.ref (ad 117), .int p, .int t] (wd Z ad σ) (fun v w => v = some (.int (bP ((0 ≤ p ∧ p < nI n) ∧ (0 ≤ t ∧ t < nI nd)))) ∧ w = wd Z ad σ) := by
  refine vg_enter hst (by decide) rfl (Nat.le_of_ble_eq_true rfl) ?_
  intro G C hQ
  show vg_K Z M_R_known G 0 0 0 [(0, .ref (ad 117)), (1, .int p), (2, .int t)] [] (wd Z ad σ)
  refine vg_aload_n C d_R_known_0 rfl ?_
  refine vg_iload_n C d_R_known_1 rfl ?_
  refine wr_callV (As := [_]) C (c_R_made Z hst ad σ p n hn hn40) l_R_known_R_made k_R_80 rfl rfl rfl rfl rfl (Nat.le_of_ble_eq_true rfl) d_R_known_2 ⟨Nat.le_of_ble_eq_true rfl, Nat.le_of_ble_eq_true rfl⟩ (fun v_2 w_2 h_2 => ?_)
  obtain ⟨rfl, rfl⟩ := h_2
  refine vg_if_eq (tgt := 26) C d_R_known_5 (by decide) (fun c_5 => ?_) (fun c_5 => ?_)
  · rw [bP_eq] at c_5; (try simp only [Classical.not_not] at c_5)
    refine vg_iconst (v := 0) C d_R_known_26 (by decide) ?_
    exact vg_ireturn C hQ d_R_known_27 rfl (by first | rfl | assumption) (⟨by rw [bP_f (by intro hN; first | exact c_5 hN.1 | exact c_19 hN.2)], rfl⟩)
  · rw [bP_eq] at c_5; (try simp only [Classical.not_not] at c_5)
    refine vg_iload_n C d_R_known_8 rfl ?_
    refine vg_iconst (v := 0) C d_R_known_9 (by decide) ?_
    refine vg_aload_n C d_R_known_10 rfl ?_
    refine wr_get C d_R_known_11 f_R_95 rfl rfl rfl rfl ?_
    rw [hd]
    refine vg_iconst (v := 1) C d_R_known_14 (by decide) ?_
    refine vg_isub C d_R_known_15 ?_
    refine vg_callS (As := [_, _, _]) C (c_R_in Z hst ad σ t 0 (nI nd - 1)) l_R_known_R_in k_R_76 rfl rfl (Nat.le_of_ble_eq_true rfl) d_R_known_16 ⟨Nat.le_of_ble_eq_true rfl, Nat.le_of_ble_eq_true rfl⟩ (fun v_16 w_16 h_16 => ?_)
    obtain ⟨rfl, rfl⟩ := h_16
    rw [bP_congr (and_congr_right fun _ => nI_le1 (by omega) t)]
    refine vg_if_eq (tgt := 26) C d_R_known_19 (by decide) (fun c_19 => ?_) (fun c_19 => ?_)
    · rw [bP_eq] at c_19; (try simp only [Classical.not_not] at c_19)
      refine vg_iconst (v := 0) C d_R_known_26 (by decide) ?_
      exact vg_ireturn C hQ d_R_known_27 rfl (by first | rfl | assumption) (⟨by rw [bP_f (by intro hN; first | exact c_5 hN.1 | exact c_19 hN.2)], rfl⟩)
    · rw [bP_eq] at c_19; (try simp only [Classical.not_not] at c_19)
      refine vg_iconst (v := 1) C d_R_known_22 (by decide) ?_
      refine vg_goto (tgt := 27) C d_R_known_23 (by decide) ?_
      exact vg_ireturn C hQ d_R_known_27 rfl (by first | rfl | assumption) (⟨by rw [bP_t (by exact ⟨c_5, c_19⟩)], rfl⟩)
set_option maxHeartbeats 4000000 in
set_option maxRecDepth 100000 in
theorem c_R_oneT (Z : vg_Z) (hst : vg_St Z) (ad : Nat → Nat) (σ : sg) (p : Nat) (hp : p < 40) (x : Int32)  : vg_T Z M_R_one 0 0 [.ref (ad 117), .int (nI p), .int (-1), .int x] (wd Z ad σ) (fun v w => v = some (.int (bP (eV (σ.1 118) (σ.1 119) (σ.1 120) x p))) ∧ w = wd Z ad σ) := by
  refine vg_enter hst (by decide) rfl (Nat.le_of_ble_eq_true rfl) ?_
  intro G C hQ
  show vg_K Z M_R_one G 0 0 0 [(0, .ref (ad 117)), (1, .int (nI p)), (2, .int (-1)), (3, .int x)] [] (wd Z ad σ)
  refine vg_aload_n C d_R_one_0 rfl ?_
  refine wr_get C d_R_one_1 f_R_7 rfl rfl rfl rfl ?_
  refine vg_iload_n C d_R_one_4 rfl ?_
  refine wr_iald C d_R_one_5 rfl rfl (by exact vp_in_nI (by omega) (by decide)) ?_
  rw [nI_clamp (by omega)]
  refine vg_iconst (v := 2) C d_R_one_6 (by decide) ?_
  refine vg_icmp_ne (tgt := 20) C d_R_one_7 (by decide) (fun c_7 => ?_) (fun c_7 => ?_)
  · skip
    refine vg_aload_n C d_R_one_20 rfl ?_
    refine wr_get C d_R_one_21 f_R_7 rfl rfl rfl rfl ?_
    refine vg_iload_n C d_R_one_24 rfl ?_
    refine wr_iald C d_R_one_25 rfl rfl (by exact vp_in_nI (by omega) (by decide)) ?_
    rw [nI_clamp (by omega)]
    refine vg_iconst (v := 3) C d_R_one_26 (by decide) ?_
    refine vg_icmp_ne (tgt := 59) C d_R_one_27 (by decide) (fun c_27 => ?_) (fun c_27 => ?_)
    · skip
      refine vg_aload_n C d_R_one_59 rfl ?_
      refine wr_get C d_R_one_60 f_R_7 rfl rfl rfl rfl ?_
      refine vg_iload_n C d_R_one_63 rfl ?_
      refine wr_iald C d_R_one_64 rfl rfl (by exact vp_in_nI (by omega) (by decide)) ?_
      rw [nI_clamp (by omega)]
      refine vg_bipush (v := 8) C d_R_one_65 (by decide) ?_
      refine vg_icmp_ne (tgt := 123) C d_R_one_67 (by decide) (fun c_67 => ?_) (fun c_67 => ?_)
      · skip
        refine vg_iconst (v := 0) C d_R_one_123 (by decide) ?_
        exact vg_ireturn C hQ d_R_one_124 rfl (by first | rfl | assumption) (⟨by rw [bP_f (by rintro (hN | hN) <;> first | exact c_7 hN | exact c_50 hN.2 | exact c_27 hN.1 | exact absurd (c_27.symm.trans hN) (by decide))], rfl⟩)
      · skip
        refine vg_iload_n C d_R_one_70 rfl ?_
        refine vg_if_lt (tgt := 123) C d_R_one_71 (by decide) (fun _ => ?_) (fun c_71 => absurd (by decide) c_71)
        refine vg_iconst (v := 0) C d_R_one_123 (by decide) ?_
        exact vg_ireturn C hQ d_R_one_124 rfl (by first | rfl | assumption) (⟨by rw [bP_f (by rintro (hN | hN) <;> first | exact c_7 hN | exact c_50 hN.2 | exact c_27 hN.1 | exact absurd (c_27.symm.trans hN) (by decide))], rfl⟩)
    · skip
      refine vg_iload_n C d_R_one_30 rfl ?_
      refine vg_if_ge (tgt := 57) C d_R_one_31 (by decide) (fun c_31 => absurd c_31 (by decide)) (fun _ => ?_)
      refine vg_iload_n C d_R_one_34 rfl ?_
      refine vg_aload_n C d_R_one_35 rfl ?_
      refine wr_get C d_R_one_36 f_R_13 rfl rfl rfl rfl ?_
      refine vg_iload_n C d_R_one_39 rfl ?_
      refine wr_iald C d_R_one_40 rfl rfl (by exact vp_in_nI (by omega) (by decide)) ?_
      rw [nI_clamp (by omega)]
      refine vg_aload_n C d_R_one_41 rfl ?_
      refine wr_get C d_R_one_42 f_R_16 rfl rfl rfl rfl ?_
      refine vg_iload_n C d_R_one_45 rfl ?_
      refine wr_iald C d_R_one_46 rfl rfl (by exact vp_in_nI (by omega) (by decide)) ?_
      rw [nI_clamp (by omega)]
      refine vg_callS (As := [_, _, _]) C (c_R_in Z hst ad σ x (σ.1 119 p) (σ.1 120 p)) l_R_one_R_in k_R_76 rfl rfl (Nat.le_of_ble_eq_true rfl) d_R_one_47 ⟨Nat.le_of_ble_eq_true rfl, Nat.le_of_ble_eq_true rfl⟩ (fun v_47 w_47 h_47 => ?_)
      obtain ⟨rfl, rfl⟩ := h_47
      refine vg_if_eq (tgt := 57) C d_R_one_50 (by decide) (fun c_50 => ?_) (fun c_50 => ?_)
      · rw [bP_eq] at c_50; (try simp only [Classical.not_not] at c_50)
        refine vg_iconst (v := 0) C d_R_one_57 (by decide) ?_
        exact vg_ireturn C hQ d_R_one_58 rfl (by first | rfl | assumption) (⟨by rw [bP_f (by rintro (hN | hN) <;> first | exact c_7 hN | exact c_50 hN.2 | exact c_27 hN.1 | exact absurd (c_27.symm.trans hN) (by decide))], rfl⟩)
      · rw [bP_eq] at c_50; (try simp only [Classical.not_not] at c_50)
        refine vg_iconst (v := 1) C d_R_one_53 (by decide) ?_
        refine vg_goto (tgt := 58) C d_R_one_54 (by decide) ?_
        exact vg_ireturn C hQ d_R_one_58 rfl (by first | rfl | assumption) (⟨by rw [bP_t (by first | exact Or.inl c_7 | exact Or.inr ⟨c_27, c_50⟩)], rfl⟩)
  · skip
    refine vg_iload_n C d_R_one_10 rfl ?_
    refine vg_if_ge (tgt := 18) C d_R_one_11 (by decide) (fun c_11 => absurd c_11 (by decide)) (fun _ => ?_)
    refine vg_iconst (v := 1) C d_R_one_14 (by decide) ?_
    refine vg_goto (tgt := 19) C d_R_one_15 (by decide) ?_
    exact vg_ireturn C hQ d_R_one_19 rfl (by first | rfl | assumption) (⟨by rw [bP_t (by first | exact Or.inl c_7 | exact Or.inr ⟨c_27, c_50⟩)], rfl⟩)
def eNr (σ : sg) (t p : Nat) : Prop := σ.1 118 p = 8 ∧ (σ.1 119 p = 6 ∨ σ.1 119 p = σ.1 123 t) ∧ ¬ σ.1 132 (40 * t + ot (σ.1 120) p) = 0
set_option maxHeartbeats 4000000 in
set_option maxRecDepth 100000 in
theorem c_R_oneN (Z : vg_Z) (hst : vg_St Z) (ad : Nat → Nat) (σ : sg) (p : Nat) (hp : p < 40) (t : Nat) (ht : t < 16) (x : Int32) (h8 : σ.1 118 p = 8 → ∃ c, c < 40 ∧ σ.1 120 p = nI c)  : vg_T Z M_R_one 0 0 [.ref (ad 117), .int (nI p), .int (nI t), .int x] (wd Z ad σ) (fun v w => v = some (.int (bP (eNr σ t p))) ∧ w = wd Z ad σ) := by
  refine vg_enter hst (by decide) rfl (Nat.le_of_ble_eq_true rfl) ?_
  intro G C hQ
  show vg_K Z M_R_one G 0 0 0 [(0, .ref (ad 117)), (1, .int (nI p)), (2, .int (nI t)), (3, .int x)] [] (wd Z ad σ)
  refine vg_aload_n C d_R_one_0 rfl ?_
  refine wr_get C d_R_one_1 f_R_7 rfl rfl rfl rfl ?_
  refine vg_iload_n C d_R_one_4 rfl ?_
  refine wr_iald C d_R_one_5 rfl rfl (by exact vp_in_nI (by omega) (by decide)) ?_
  rw [nI_clamp (by omega)]
  refine vg_iconst (v := 2) C d_R_one_6 (by decide) ?_
  refine vg_icmp_ne (tgt := 20) C d_R_one_7 (by decide) (fun c_7 => ?_) (fun c_7 => ?_)
  · skip
    refine vg_aload_n C d_R_one_20 rfl ?_
    refine wr_get C d_R_one_21 f_R_7 rfl rfl rfl rfl ?_
    refine vg_iload_n C d_R_one_24 rfl ?_
    refine wr_iald C d_R_one_25 rfl rfl (by exact vp_in_nI (by omega) (by decide)) ?_
    rw [nI_clamp (by omega)]
    refine vg_iconst (v := 3) C d_R_one_26 (by decide) ?_
    refine vg_icmp_ne (tgt := 59) C d_R_one_27 (by decide) (fun c_27 => ?_) (fun c_27 => ?_)
    · skip
      refine vg_aload_n C d_R_one_59 rfl ?_
      refine wr_get C d_R_one_60 f_R_7 rfl rfl rfl rfl ?_
      refine vg_iload_n C d_R_one_63 rfl ?_
      refine wr_iald C d_R_one_64 rfl rfl (by exact vp_in_nI (by omega) (by decide)) ?_
      rw [nI_clamp (by omega)]
      refine vg_bipush (v := 8) C d_R_one_65 (by decide) ?_
      refine vg_icmp_ne (tgt := 123) C d_R_one_67 (by decide) (fun c_67 => ?_) (fun c_67 => ?_)
      · skip
        refine vg_iconst (v := 0) C d_R_one_123 (by decide) ?_
        exact vg_ireturn C hQ d_R_one_124 rfl (by first | rfl | assumption) (⟨by rw [bP_f (by rintro ⟨h1, h2, h3⟩; first | exact c_67 h1 | exact absurd (c_7.symm.trans h1) (by decide) | exact absurd (c_27.symm.trans h1) (by decide) | (rw [ot_e hc ec] at h3; exact h3 c_116) | exact h2.elim c_82 c_97)], rfl⟩)
      · skip
        refine vg_iload_n C d_R_one_70 rfl ?_
        refine vg_if_lt (tgt := 123) C d_R_one_71 (by decide) (fun c_71 => absurd c_71 (i32_lt0 (by omega))) (fun _ => ?_)
        refine vg_aload_n C d_R_one_74 rfl ?_
        refine wr_get C d_R_one_75 f_R_13 rfl rfl rfl rfl ?_
        refine vg_iload_n C d_R_one_78 rfl ?_
        refine wr_iald C d_R_one_79 rfl rfl (by exact vp_in_nI (by omega) (by decide)) ?_
        rw [nI_clamp (by omega)]
        refine vg_bipush (v := 6) C d_R_one_80 (by decide) ?_
        refine vg_icmp_eq (tgt := 100) C d_R_one_82 (by decide) (fun c_82 => ?_) (fun c_82 => ?_)
        · skip
          obtain ⟨c, hc, ec⟩ := h8 c_67
          refine vg_aload_n C d_R_one_100 rfl ?_
          refine wr_get C d_R_one_101 f_R_58 rfl rfl rfl rfl ?_
          refine vg_bipush (v := 40) C d_R_one_104 (by decide) ?_
          refine vg_iload_n C d_R_one_106 rfl ?_
          refine vg_imul C d_R_one_107 ?_
          rw [show (40 : Int32) = nI 40 from rfl, pk_mul]
          refine vg_aload_n C d_R_one_108 rfl ?_
          refine wr_get C d_R_one_109 f_R_16 rfl rfl rfl rfl ?_
          refine vg_iload_n C d_R_one_112 rfl ?_
          refine wr_iald C d_R_one_113 rfl rfl (by exact vp_in_nI (by omega) (by decide)) ?_
          rw [nI_clamp (by omega), ec]
          refine vg_iadd C d_R_one_114 ?_
          rw [nI_add]
          refine wr_zald C d_R_one_115 rfl rfl (by exact vp_in_nI (by omega) (by decide)) ?_
          rw [nI_clamp (by omega)]
          refine vg_if_eq (tgt := 123) C d_R_one_116 (by decide) (fun c_116 => ?_) (fun c_116 => ?_)
          · skip
            refine vg_iconst (v := 0) C d_R_one_123 (by decide) ?_
            exact vg_ireturn C hQ d_R_one_124 rfl (by first | rfl | assumption) (⟨by rw [bP_f (by rintro ⟨h1, h2, h3⟩; first | exact c_67 h1 | exact absurd (c_7.symm.trans h1) (by decide) | exact absurd (c_27.symm.trans h1) (by decide) | (rw [ot_e hc ec] at h3; exact h3 c_116) | exact h2.elim c_82 c_97)], rfl⟩)
          · skip
            refine vg_iconst (v := 1) C d_R_one_119 (by decide) ?_
            refine vg_goto (tgt := 124) C d_R_one_120 (by decide) ?_
            exact vg_ireturn C hQ d_R_one_124 rfl (by first | rfl | assumption) (⟨by rw [bP_t (by exact ⟨c_67, (by first | exact Or.inl c_82 | exact Or.inr c_97), by rw [ot_e hc ec]; exact c_116⟩)], rfl⟩)
        · skip
          refine vg_aload_n C d_R_one_85 rfl ?_
          refine wr_get C d_R_one_86 f_R_13 rfl rfl rfl rfl ?_
          refine vg_iload_n C d_R_one_89 rfl ?_
          refine wr_iald C d_R_one_90 rfl rfl (by exact vp_in_nI (by omega) (by decide)) ?_
          rw [nI_clamp (by omega)]
          refine vg_aload_n C d_R_one_91 rfl ?_
          refine wr_get C d_R_one_92 f_R_25 rfl rfl rfl rfl ?_
          refine vg_iload_n C d_R_one_95 rfl ?_
          refine wr_iald C d_R_one_96 rfl rfl (by exact vp_in_nI (by omega) (by decide)) ?_
          rw [nI_clamp (by omega)]
          refine vg_icmp_ne (tgt := 123) C d_R_one_97 (by decide) (fun c_97 => ?_) (fun c_97 => ?_)
          · skip
            refine vg_iconst (v := 0) C d_R_one_123 (by decide) ?_
            exact vg_ireturn C hQ d_R_one_124 rfl (by first | rfl | assumption) (⟨by rw [bP_f (by rintro ⟨h1, h2, h3⟩; first | exact c_67 h1 | exact absurd (c_7.symm.trans h1) (by decide) | exact absurd (c_27.symm.trans h1) (by decide) | (rw [ot_e hc ec] at h3; exact h3 c_116) | exact h2.elim c_82 c_97)], rfl⟩)
          · skip
            obtain ⟨c, hc, ec⟩ := h8 c_67
            refine vg_aload_n C d_R_one_100 rfl ?_
            refine wr_get C d_R_one_101 f_R_58 rfl rfl rfl rfl ?_
            refine vg_bipush (v := 40) C d_R_one_104 (by decide) ?_
            refine vg_iload_n C d_R_one_106 rfl ?_
            refine vg_imul C d_R_one_107 ?_
            rw [show (40 : Int32) = nI 40 from rfl, pk_mul]
            refine vg_aload_n C d_R_one_108 rfl ?_
            refine wr_get C d_R_one_109 f_R_16 rfl rfl rfl rfl ?_
            refine vg_iload_n C d_R_one_112 rfl ?_
            refine wr_iald C d_R_one_113 rfl rfl (by exact vp_in_nI (by omega) (by decide)) ?_
            rw [nI_clamp (by omega), ec]
            refine vg_iadd C d_R_one_114 ?_
            rw [nI_add]
            refine wr_zald C d_R_one_115 rfl rfl (by exact vp_in_nI (by omega) (by decide)) ?_
            rw [nI_clamp (by omega)]
            refine vg_if_eq (tgt := 123) C d_R_one_116 (by decide) (fun c_116 => ?_) (fun c_116 => ?_)
            · skip
              refine vg_iconst (v := 0) C d_R_one_123 (by decide) ?_
              exact vg_ireturn C hQ d_R_one_124 rfl (by first | rfl | assumption) (⟨by rw [bP_f (by rintro ⟨h1, h2, h3⟩; first | exact c_67 h1 | exact absurd (c_7.symm.trans h1) (by decide) | exact absurd (c_27.symm.trans h1) (by decide) | (rw [ot_e hc ec] at h3; exact h3 c_116) | exact h2.elim c_82 c_97)], rfl⟩)
            · skip
              refine vg_iconst (v := 1) C d_R_one_119 (by decide) ?_
              refine vg_goto (tgt := 124) C d_R_one_120 (by decide) ?_
              exact vg_ireturn C hQ d_R_one_124 rfl (by first | rfl | assumption) (⟨by rw [bP_t (by exact ⟨c_67, (by first | exact Or.inl c_82 | exact Or.inr c_97), by rw [ot_e hc ec]; exact c_116⟩)], rfl⟩)
    · skip
      refine vg_iload_n C d_R_one_30 rfl ?_
      refine vg_if_ge (tgt := 57) C d_R_one_31 (by decide) (fun _ => ?_) (fun c_31 => absurd (i32_ge0 (by omega)) c_31)
      refine vg_iconst (v := 0) C d_R_one_57 (by decide) ?_
      exact vg_ireturn C hQ d_R_one_58 rfl (by first | rfl | assumption) (⟨by rw [bP_f (by rintro ⟨h1, h2, h3⟩; first | exact c_67 h1 | exact absurd (c_7.symm.trans h1) (by decide) | exact absurd (c_27.symm.trans h1) (by decide) | (rw [ot_e hc ec] at h3; exact h3 c_116) | exact h2.elim c_82 c_97)], rfl⟩)
  · skip
    refine vg_iload_n C d_R_one_10 rfl ?_
    refine vg_if_ge (tgt := 18) C d_R_one_11 (by decide) (fun _ => ?_) (fun c_11 => absurd (i32_ge0 (by omega)) c_11)
    refine vg_iconst (v := 0) C d_R_one_18 (by decide) ?_
    exact vg_ireturn C hQ d_R_one_19 rfl (by first | rfl | assumption) (⟨by rw [bP_f (by rintro ⟨h1, h2, h3⟩; first | exact c_67 h1 | exact absurd (c_7.symm.trans h1) (by decide) | exact absurd (c_27.symm.trans h1) (by decide) | (rw [ot_e hc ec] at h3; exact h3 c_116) | exact h2.elim c_82 c_97)], rfl⟩)
set_option maxHeartbeats 4000000 in
set_option maxRecDepth 100000 in
theorem c_R_matched (Z : vg_Z) (hst : vg_St Z) (ad : Nat → Nat) (σ : sg) (p A z : Nat) (hp : p < 40) (hA : A < 64) (hz : z < 64)  : vg_T Z M_R_matched 0 0 [.ref (ad 117), .int (nI p), .int (nI A), .int (nI z)] (wd Z ad σ) (fun v w => v = some (.int (bP (lb (σ.2 131 (64 * p + A)) z = true))) ∧ w = wd Z ad σ) := by
  refine vg_enter hst (by decide) rfl (Nat.le_of_ble_eq_true rfl) ?_
  intro G C hQ
  show vg_K Z M_R_matched G 0 0 0 [(0, .ref (ad 117)), (1, .int (nI p)), (2, .int (nI A)), (3, .int (nI z))] [] (wd Z ad σ)
  refine vg_aload_n C d_R_matched_0 rfl ?_
  refine wr_get C d_R_matched_1 f_R_54 rfl rfl rfl rfl ?_
  refine vg_bipush (v := 64) C d_R_matched_4 (by decide) ?_
  refine vg_iload_n C d_R_matched_6 rfl ?_
  refine vg_imul C d_R_matched_7 ?_
  rw [show (64 : Int32) = nI 64 from rfl, pk_mul]
  refine vg_iload_n C d_R_matched_8 rfl ?_
  refine vg_iadd C d_R_matched_9 ?_
  rw [nI_add]
  refine wr_lald C d_R_matched_10 rfl rfl (by exact vp_in_nI (by omega) (by decide)) ?_
  rw [nI_clamp (by omega)]
  refine vg_iload_n C d_R_matched_11 rfl ?_
  refine vg_lshr C d_R_matched_12 ?_
  refine vg_lconst (v := 1) C d_R_matched_13 (by decide) ?_
  refine vg_land C d_R_matched_14 ?_
  refine vg_lconst (v := 0) C d_R_matched_15 (by decide) ?_
  refine vg_lcmp C d_R_matched_16 ?_
  refine vg_if_eq (tgt := 24) C d_R_matched_17 (by decide) (fun c_17 => ?_) (fun c_17 => ?_)
  · rw [lg_eq, lb_stst hz] at c_17
    refine vg_iconst (v := 0) C d_R_matched_24 (by decide) ?_
    exact vg_ireturn C hQ d_R_matched_25 rfl (by first | rfl | assumption) (⟨by rw [bP_f (by rw [c_17]; decide)], rfl⟩)
  · rw [lg_eq, lb_stst hz] at c_17
    refine vg_iconst (v := 1) C d_R_matched_20 (by decide) ?_
    refine vg_goto (tgt := 25) C d_R_matched_21 (by decide) ?_
    exact vg_ireturn C hQ d_R_matched_25 rfl (by first | rfl | assumption) (⟨by rw [bP_t (by exact ts_nf c_17)], rfl⟩)
def en : Nat → Nat → Nat
  | 0, _ => 0
  | n + 1, k => if k = 0 then 0 else k ||| en n (k / 2)
theorem sr_1 : ∀ k, k < 64 → nI k >>> (1 &&& 31) = nI (k / 2) := by decide +kernel
theorem nI_gt0 {n : Nat} (h : n < 2 ^ 31) : nI n ≤ 0 ↔ n = 0 := by
  rw [Int32.le_iff_toInt_le, nI_toInt h, i32_0]
  omega
set_option maxHeartbeats 4000000 in
set_option maxRecDepth 100000 in
theorem lp_R_ends {Z : vg_Z} (hst : vg_St Z) {G : vg_G} {post : Option Value → va_W → Prop} (C : vg_C Z M_R_ends G) (hQ : vg_Rt Z G 0 0 post) (ad : Nat → Nat) (σ : sg) (x : Int32) (e : Nat) (hpost : post (some (.int (nI e))) (wd Z ad σ)) : ∀ (n2 : Nat) (all k : Nat) (hlt : k < 2 ^ n2) (h64 : k < 64) (ha : all < 64) (he : all ||| en (n2 + 1) k = e) , vg_K Z M_R_ends G 0 0 4 [(2, .int (nI k)), (1, .int (nI all)), (0, .int x)] [] (wd Z ad σ) := by
  intro n2
  induction n2 with
  | zero =>
    intro all k hlt h64 ha he
    have hk : k = 0 := by omega
    subst hk
    refine vg_iload_n C d_R_ends_4 rfl ?_
    refine vg_if_le (tgt := 19) C d_R_ends_5 (by decide) (fun _ => ?_) (fun c_5 => absurd (by decide) c_5)
    refine vg_iload_n C d_R_ends_19 rfl ?_
    exact vg_ireturn C hQ d_R_ends_20 rfl (by first | rfl | assumption) (by rw [← he, show en _ 0 = 0 by unfold en; rfl, Nat.or_zero] at hpost; exact hpost)
  | succ n2 ih =>
    intro all k hlt h64 ha he
    refine vg_iload_n C d_R_ends_4 rfl ?_
    refine vg_if_le (tgt := 19) C d_R_ends_5 (by decide) (fun c_5 => ?_) (fun c_5 => ?_)
    · rw [nI_gt0 (by omega)] at c_5
      refine vg_iload_n C d_R_ends_19 rfl ?_
      exact vg_ireturn C hQ d_R_ends_20 rfl (by first | rfl | assumption) (by rw [← he, c_5, show en _ 0 = 0 by unfold en; rfl, Nat.or_zero] at hpost; exact hpost)
    · rw [nI_gt0 (by omega)] at c_5
      refine vg_iload_n C d_R_ends_8 rfl ?_
      refine vg_iload_n C d_R_ends_9 rfl ?_
      refine vg_ior C d_R_ends_10 ?_
      rw [(bt64 all ha k h64).2]
      refine vg_istore_n C d_R_ends_11 (Nat.le_of_ble_eq_true rfl) rfl ?_
      refine vg_iload_n C d_R_ends_12 rfl ?_
      refine vg_iconst (v := 1) C d_R_ends_13 (by decide) ?_
      refine vg_ishr C d_R_ends_14 ?_
      rw [sr_1 k h64]
      refine vg_istore_n C d_R_ends_15 (Nat.le_of_ble_eq_true rfl) rfl ?_
      refine vg_goto (tgt := 4) C d_R_ends_16 (by decide) ?_
      exact ih (all ||| k) (k / 2) (by rw [Nat.pow_succ] at hlt; omega) (by omega) (or_64 ha h64) (by rw [← he, Nat.or_assoc]; congr 1; rw [show en (n2 + 1 + 1) k = if k = 0 then 0 else k ||| en (n2 + 1) (k / 2) from rfl, if_neg c_5])
set_option maxHeartbeats 4000000 in
set_option maxRecDepth 100000 in
theorem c_R_ends (Z : vg_Z) (hst : vg_St Z) (ad : Nat → Nat) (σ : sg) (r : Nat) (hr : r < 64)  : vg_T Z M_R_ends 0 0 [.int (nI r)] (wd Z ad σ) (fun v w => v = some (.int (nI (en 7 r))) ∧ w = wd Z ad σ) := by
  refine vg_enter hst (by decide) rfl (Nat.le_of_ble_eq_true rfl) ?_
  intro G C hQ
  show vg_K Z M_R_ends G 0 0 0 [(0, .int (nI r))] [] (wd Z ad σ)
  refine vg_iconst (v := 0) C d_R_ends_0 (by decide) ?_
  refine vg_istore_n C d_R_ends_1 (Nat.le_of_ble_eq_true rfl) rfl ?_
  refine vg_iload_n C d_R_ends_2 rfl ?_
  refine vg_istore_n C d_R_ends_3 (Nat.le_of_ble_eq_true rfl) rfl ?_
  exact lp_R_ends hst C hQ ad σ (nI r) (en 7 r) ⟨rfl, rfl⟩ 6 0 r (by omega) hr (by decide) (Nat.zero_or _)
theorem mk_64 (D : Dc) (t n : Nat) (h : n ≤ 6) : mk D t n < 64 := lt_tb (na := 6) fun x hx => by have := ((mk_b D t x n).mp hx).1; omega
theorem p2_6 : ∀ i, i < 6 → 2 ^ i < 64 := by decide
set_option maxHeartbeats 4000000 in
set_option maxRecDepth 100000 in
theorem lp_R_attributes {Z : vg_Z} (hst : vg_St Z) {G : vg_G} {post : Option Value → va_W → Prop} (C : vg_C Z M_R_attributes G) (hQ : vg_Rt Z G 0 0 post) (ad : Nat → Nat) (σ : sg) (D : Dc) (nd : Nat) (hM : RM σ D nd) (t : Nat) (ht : t < nd) (hpost : post (some (.int (nI (mk D t 6)))) (wd Z ad σ)) : ∀ (n2 : Nat) (i : Nat) (hlt : 6 < i + n2) (hi : i ≤ 6) , vg_K Z M_R_attributes G 0 0 4 [(3, .int (nI i)), (2, .int (nI (mk D t i))), (0, .ref (ad 117)), (1, .int (nI t))] [] (wd Z ad σ) := by
  have hnd := hM.1.1
  intro n2
  induction n2 with
  | zero =>
    intro i hlt hi
    exact absurd hlt (by omega)
  | succ n2 ih =>
    intro i hlt hi
    refine vg_iload_n C d_R_attributes_4 rfl ?_
    refine vg_bipush (v := 6) C d_R_attributes_5 (by decide) ?_
    refine vg_icmp_ge (tgt := 36) C d_R_attributes_7 (by decide) (fun c_7 => ?_) (fun c_7 => ?_)
    · rw [show (6 : Int32) = nI 6 from rfl, nI_leI (by omega) (by omega)] at c_7
      refine vg_iload_n C d_R_attributes_36 rfl ?_
      exact vg_ireturn C hQ d_R_attributes_37 rfl (by first | rfl | assumption) (by rw [show i = 6 by omega]; exact hpost)
    · rw [show (6 : Int32) = nI 6 from rfl, nI_leI (by omega) (by omega)] at c_7
      refine vg_aload_n C d_R_attributes_10 rfl ?_
      refine wr_get C d_R_attributes_11 f_R_34 rfl rfl rfl rfl ?_
      refine vg_bipush (v := 6) C d_R_attributes_14 (by decide) ?_
      refine vg_iload_n C d_R_attributes_16 rfl ?_
      refine vg_imul C d_R_attributes_17 ?_
      rw [show (6 : Int32) = nI 6 from rfl, pk_mul]
      refine vg_iload_n C d_R_attributes_18 rfl ?_
      refine vg_iadd C d_R_attributes_19 ?_
      rw [nI_add]
      refine wr_zald C d_R_attributes_20 rfl rfl (by exact vp_in_nI (by omega) (by decide)) ?_
      rw [nI_clamp (by omega), ((hM.2.2 t ht).2.1 i (by omega)).1]
      refine vg_if_eq (tgt := 30) C d_R_attributes_21 (by decide) (fun c_21 => ?_) (fun c_21 => ?_)
      · rw [bP_eq] at c_21; (try simp only [Classical.not_not] at c_21)
        refine vg_iinc (v := nI (i + 1)) C d_R_attributes_30 rfl (nI_1 i) (Nat.le_of_ble_eq_true rfl) rfl ?_
        refine vg_goto (tgt := 4) C d_R_attributes_33 (by decide) ?_
        first
          | (have e : mk D t (i + 1) = mk D t i ||| 2 ^ i := if_pos c_21
             rw [← e]
             exact ih (i + 1) (by omega) (by omega))
          | (have e : mk D t (i + 1) = mk D t i := if_neg c_21
             rw [← e]
             exact ih (i + 1) (by omega) (by omega))
          | (have e : mk D t (i + 1) = mk D t i := if_neg (fun h => h c_21)
             rw [← e]
             exact ih (i + 1) (by omega) (by omega))
      · rw [bP_eq] at c_21; (try simp only [Classical.not_not] at c_21)
        refine vg_iload_n C d_R_attributes_24 rfl ?_
        refine vg_iconst (v := 1) C d_R_attributes_25 (by decide) ?_
        refine vg_iload_n C d_R_attributes_26 rfl ?_
        refine vg_ishl C d_R_attributes_27 ?_
        rw [sh_one i (by omega)]
        refine vg_ior C d_R_attributes_28 ?_
        rw [(bt64 _ (mk_64 D t i (by omega)) _ (p2_6 i (by omega))).2]
        refine vg_istore_n C d_R_attributes_29 (Nat.le_of_ble_eq_true rfl) rfl ?_
        refine vg_iinc (v := nI (i + 1)) C d_R_attributes_30 rfl (nI_1 i) (Nat.le_of_ble_eq_true rfl) rfl ?_
        refine vg_goto (tgt := 4) C d_R_attributes_33 (by decide) ?_
        first
          | (have e : mk D t (i + 1) = mk D t i ||| 2 ^ i := if_pos c_21
             rw [← e]
             exact ih (i + 1) (by omega) (by omega))
          | (have e : mk D t (i + 1) = mk D t i := if_neg c_21
             rw [← e]
             exact ih (i + 1) (by omega) (by omega))
          | (have e : mk D t (i + 1) = mk D t i := if_neg (fun h => h c_21)
             rw [← e]
             exact ih (i + 1) (by omega) (by omega))
set_option maxHeartbeats 4000000 in
set_option maxRecDepth 100000 in
theorem c_R_attributes (Z : vg_Z) (hst : vg_St Z) (ad : Nat → Nat) (σ : sg) (D : Dc) (nd : Nat) (hM : RM σ D nd) (t : Nat) (ht : t < nd)  : vg_T Z M_R_attributes 0 0 [.ref (ad 117), .int (nI t)] (wd Z ad σ) (fun v w => v = some (.int (nI (mk D t 6))) ∧ w = wd Z ad σ) := by
  refine vg_enter hst (by decide) rfl (Nat.le_of_ble_eq_true rfl) ?_
  intro G C hQ
  show vg_K Z M_R_attributes G 0 0 0 [(0, .ref (ad 117)), (1, .int (nI t))] [] (wd Z ad σ)
  refine vg_iconst (v := 0) C d_R_attributes_0 (by decide) ?_
  refine vg_istore_n C d_R_attributes_1 (Nat.le_of_ble_eq_true rfl) rfl ?_
  refine vg_iconst (v := 0) C d_R_attributes_2 (by decide) ?_
  refine vg_istore_n C d_R_attributes_3 (Nat.le_of_ble_eq_true rfl) rfl ?_
  exact lp_R_attributes hst C hQ ad σ D nd hM t ht ⟨rfl, rfl⟩ 7 0 (by omega) (by omega)
