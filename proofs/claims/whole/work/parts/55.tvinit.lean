/-! the constructors: Matcher, the class -/
theorem us_t : ∀ x, x < 64 → ∀ q, q < 6 → ((nI x).toUInt32 >>> ((nI q).toUInt32 &&& Int32.toUInt32 31)).toInt32 = nI (x >>> q) := by decide +kernel
theorem us_b : ∀ z, z < 64 → (nI z &&& 1 = 0 ↔ z.testBit 0 = false) := by decide +kernel
theorem sr_lt : ∀ x, x < 64 → ∀ q, q < 6 → x >>> q < 64 := by decide +kernel
theorem sr_tb : ∀ x, x < 64 → ∀ q, q < 6 → (x >>> q).testBit 0 = x.testBit q := by decide +kernel
theorem fW_b : ∀ q, q < 6 → ∀ y, y < 64 → lb (fW q) y = !y.testBit q := by decide +kernel
theorem lb_m1 : ∀ y, y < 64 → lb (-1) y = true := by decide +kernel
/-- what the first q bits of x leave -/
def bsB (x q y : Nat) : Bool := (List.range q).all fun i => !x.testBit i || !y.testBit i
def bhB (x q y : Nat) : Bool := (List.range q).all fun i => decide (x >>> i = 0) || !y.testBit i
def bfB (x y : Nat) : Bool := (List.range 6).all fun i => (List.range 6).all fun j => !x.testBit i || !y.testBit j || decide (i < j)
theorem bsB_s (x q y : Nat) : bsB x (q + 1) y = (bsB x q y && (!x.testBit q || !y.testBit q)) := by
  unfold bsB
  rw [List.range_succ, List.all_append, List.all_cons, List.all_nil, Bool.and_true]
theorem bhB_s (x q y : Nat) : bhB x (q + 1) y = (bhB x q y && (decide (x >>> q = 0) || !y.testBit q)) := by
  unfold bhB
  rw [List.range_succ, List.all_append, List.all_cons, List.all_nil, Bool.and_true]
theorem bs_6 : ∀ x, x < 64 → ∀ y, y < 64 → (bsB x 6 y = true ↔ x &&& y = 0) := by decide +kernel
theorem bh_6 : ∀ x, x < 64 → ∀ y, y < 64 → bhB x 6 y = bfB x y := by decide +kernel
theorem bf_B (x y : Nat) : bfB x y = true ↔ bf x y := by
  unfold bfB bf
  simp only [List.all_eq_true, List.mem_range, Bool.or_eq_true, Bool.not_eq_true', decide_eq_true_eq]
  constructor
  · intro h i hi j hj a b
    rcases h i hi j hj with (q | q) | q
    · rw [a] at q
      cases q
    · rw [b] at q
      cases q
    · exact q
  · intro h i hi j hj
    cases a : x.testBit i with
    | false => exact Or.inl (Or.inl rfl)
    | true =>
      cases b : y.testBit j with
      | false => exact Or.inl (Or.inr rfl)
      | true => exact Or.inr (h i hi j hj a b)
def BR (B1 B2 : Nat → Int64) (n : Nat) : Prop := ∀ x, x < n → ∀ y, y < 64 → lb (B1 x) y = bsB x 6 y ∧ lb (B2 x) y = bhB x 6 y
set_option maxHeartbeats 4000000 in
set_option maxRecDepth 100000 in
theorem lp_T_in {Z : vg_Z} (hZ : vg_ZP Z) {G : vg_G} {post : Option Value → va_W → Prop} (C : vg_C Z M_T_init G) (hQ : vg_Rt Z G 9 478 post) (a g d x : Nat) (hx : x < 64) (ws : va_W) (hk : ∀ u v : Int64, (∀ y, y < 64 → lb u y = bsB x 6 y ∧ lb v y = bhB x 6 y) → vg_K Z M_T_init G 9 478 122 [(6, .long v), (4, .long u), (3, .int (nI x)), (0, .ref a), (1, .ref g), (2, .ref d)] [] ws) : ∀ (n2 q : Nat) (u v : Int64) (hlt : 6 < q + n2) (hq : q ≤ 6), (∀ y, y < 64 → lb u y = bsB x q y ∧ lb v y = bhB x q y) → vg_K Z M_T_init G 9 478 71 [(8, .int (nI q)), (6, .long v), (4, .long u), (3, .int (nI x)), (0, .ref a), (1, .ref g), (2, .ref d)] [] ws := by
  intro n2
  induction n2 with
  | zero =>
    intro q u v hlt hq
    exact absurd hlt (by omega)
  | succ n2 ih =>
    intro q u v hlt hq hI
    refine vg_iload C d_T_init_71 rfl ?_
    refine vg_bipush (v := 6) C d_T_init_73 (by decide) ?_
    refine vg_icmp_ge (tgt := 122) C d_T_init_75 (by decide) (fun c_75 => ?_) (fun c_75 => ?_)
    · rw [show (6 : Int32) = nI 6 from rfl, nI_leI (by omega) (by omega)] at c_75
      refine vg_lv [1, 2, 3, 4, 5, 6] rfl ?_
      obtain rfl : q = 6 := by omega
      exact hk u v hI
    · rw [show (6 : Int32) = nI 6 from rfl, nI_leI (by omega) (by omega)] at c_75
      refine vg_iload_n C d_T_init_78 rfl ?_
      refine vg_iload C d_T_init_79 rfl ?_
      refine vg_iushr C d_T_init_81 ?_
      rw [us_t x hx q (by omega)]
      refine vg_iconst (v := 1) C d_T_init_82 (by decide) ?_
      refine vg_iand C d_T_init_83 ?_
      refine vg_if_eq (tgt := 98) C d_T_init_84 (by decide) (fun c_84 => ?_) (fun c_84 => ?_)
      · rw [us_b _ (sr_lt x hx q (by omega)), sr_tb x hx q (by omega)] at c_84
        refine vg_iload_n C d_T_init_98 rfl ?_
        refine vg_iload C d_T_init_99 rfl ?_
        refine vg_iushr C d_T_init_101 ?_
        rw [us_t x hx q (by omega)]
        refine vg_if_eq (tgt := 116) C d_T_init_102 (by decide) (fun c_102 => ?_) (fun c_102 => ?_)
        · rw [nI_z (by have := sr_lt x hx q (by omega); omega)] at c_102
          refine vg_iinc (v := nI (q + 1)) C d_T_init_116 rfl (nI_1 q) (Nat.le_of_ble_eq_true rfl) rfl ?_
          refine vg_goto (tgt := 71) C d_T_init_119 (by decide) ?_
          exact ih (q + 1) _ _ (by omega) (by omega) (by
              intro y hy
              obtain ⟨i1, i2⟩ := hI y hy
              rw [bsB_s, bhB_s]
              refine ⟨?_, ?_⟩
              · first | (rw [i1, c_84]; simp; done) | (rw [lb_and, i1, fW_b q (by omega) y hy, ts_nf c_84]; simp; done)
              · first | (rw [i2, decide_eq_true c_102]; simp; done) | (rw [lb_and, i2, fW_b q (by omega) y hy, decide_eq_false c_102]; simp; done))
        · rw [nI_z (by have := sr_lt x hx q (by omega); omega)] at c_102
          refine vg_lload C d_T_init_105 rfl ?_
          refine vg_without C hZ rfl wi_T d_T_init_107 (vp_in_nI (by omega) (by decide)) d_T_init_110 rfl d_T_init_112 ?_
          rw [nI_clamp (by omega)]
          refine vg_land C d_T_init_113 ?_
          refine vg_lstore C d_T_init_114 (Nat.le_of_ble_eq_true rfl) rfl ?_
          refine vg_iinc (v := nI (q + 1)) C d_T_init_116 rfl (nI_1 q) (Nat.le_of_ble_eq_true rfl) rfl ?_
          refine vg_goto (tgt := 71) C d_T_init_119 (by decide) ?_
          exact ih (q + 1) _ _ (by omega) (by omega) (by
              intro y hy
              obtain ⟨i1, i2⟩ := hI y hy
              rw [bsB_s, bhB_s]
              refine ⟨?_, ?_⟩
              · first | (rw [i1, c_84]; simp; done) | (rw [lb_and, i1, fW_b q (by omega) y hy, ts_nf c_84]; simp; done)
              · first | (rw [i2, decide_eq_true c_102]; simp; done) | (rw [lb_and, i2, fW_b q (by omega) y hy, decide_eq_false c_102]; simp; done))
      · rw [us_b _ (sr_lt x hx q (by omega)), sr_tb x hx q (by omega)] at c_84
        refine vg_lload C d_T_init_87 rfl ?_
        refine vg_without C hZ rfl wi_T d_T_init_89 (vp_in_nI (by omega) (by decide)) d_T_init_92 rfl d_T_init_94 ?_
        rw [nI_clamp (by omega)]
        refine vg_land C d_T_init_95 ?_
        refine vg_lstore C d_T_init_96 (Nat.le_of_ble_eq_true rfl) rfl ?_
        refine vg_iload_n C d_T_init_98 rfl ?_
        refine vg_iload C d_T_init_99 rfl ?_
        refine vg_iushr C d_T_init_101 ?_
        rw [us_t x hx q (by omega)]
        refine vg_if_eq (tgt := 116) C d_T_init_102 (by decide) (fun c_102 => ?_) (fun c_102 => ?_)
        · rw [nI_z (by have := sr_lt x hx q (by omega); omega)] at c_102
          refine vg_iinc (v := nI (q + 1)) C d_T_init_116 rfl (nI_1 q) (Nat.le_of_ble_eq_true rfl) rfl ?_
          refine vg_goto (tgt := 71) C d_T_init_119 (by decide) ?_
          refine vg_lv [0, 2, 1, 3, 4, 5, 6] rfl ?_
          exact ih (q + 1) _ _ (by omega) (by omega) (by
              intro y hy
              obtain ⟨i1, i2⟩ := hI y hy
              rw [bsB_s, bhB_s]
              refine ⟨?_, ?_⟩
              · first | (rw [i1, c_84]; simp; done) | (rw [lb_and, i1, fW_b q (by omega) y hy, ts_nf c_84]; simp; done)
              · first | (rw [i2, decide_eq_true c_102]; simp; done) | (rw [lb_and, i2, fW_b q (by omega) y hy, decide_eq_false c_102]; simp; done))
        · rw [nI_z (by have := sr_lt x hx q (by omega); omega)] at c_102
          refine vg_lload C d_T_init_105 rfl ?_
          refine vg_without C hZ rfl wi_T d_T_init_107 (vp_in_nI (by omega) (by decide)) d_T_init_110 rfl d_T_init_112 ?_
          rw [nI_clamp (by omega)]
          refine vg_land C d_T_init_113 ?_
          refine vg_lstore C d_T_init_114 (Nat.le_of_ble_eq_true rfl) rfl ?_
          refine vg_iinc (v := nI (q + 1)) C d_T_init_116 rfl (nI_1 q) (Nat.le_of_ble_eq_true rfl) rfl ?_
          refine vg_goto (tgt := 71) C d_T_init_119 (by decide) ?_
          exact ih (q + 1) _ _ (by omega) (by omega) (by
              intro y hy
              obtain ⟨i1, i2⟩ := hI y hy
              rw [bsB_s, bhB_s]
              refine ⟨?_, ?_⟩
              · first | (rw [i1, c_84]; simp; done) | (rw [lb_and, i1, fW_b q (by omega) y hy, ts_nf c_84]; simp; done)
              · first | (rw [i2, decide_eq_true c_102]; simp; done) | (rw [lb_and, i2, fW_b q (by omega) y hy, decide_eq_false c_102]; simp; done))
set_option maxHeartbeats 4000000 in
set_option maxRecDepth 100000 in
theorem lp_T_out {Z : vg_Z} (hZ : vg_ZP Z) {G : vg_G} {post : Option Value → va_W → Prop} (C : vg_C Z M_T_init G) (hQ : vg_Rt Z G 9 478 post) (a g d : Nat) (ad : Nat → Nat) (ha : ad 107 = a) (f0 : Nat → va_E) (hp : ∀ f B1 B2, (∀ j, j < 107 → f j = f0 j) → TDn Z ad f B1 B2 → BR B1 B2 64 → post none (wl 117 ad f)) : ∀ (n2 x : Nat) (f : Nat → va_E) (B1 B2 : Nat → Int64) (hlt : 64 < x + n2) (hx : x ≤ 64), (∀ j, j < 107 → f j = f0 j) → TDn Z ad f B1 B2 → BR B1 B2 x → vg_K Z M_T_init G 9 478 52 [(3, .int (nI x)), (0, .ref a), (1, .ref g), (2, .ref d)] [] (wl 117 ad f) := by
  intro n2
  induction n2 with
  | zero =>
    intro x f B1 B2 hlt hx
    exact absurd hlt (by omega)
  | succ n2 ih =>
    intro x f B1 B2 hlt hx hF hT hB
    refine vg_iload_n C d_T_init_52 rfl ?_
    refine vg_bipush (v := 64) C d_T_init_53 (by decide) ?_
    refine vg_icmp_ge (tgt := 144) C d_T_init_55 (by decide) (fun c_55 => ?_) (fun c_55 => ?_)
    · rw [show (64 : Int32) = nI 64 from rfl, nI_leI (by omega) (by omega)] at c_55
      exact vg_return C hQ d_T_init_144 rfl (hp f B1 B2 hF hT (by rw [show x = 64 by omega] at hB; exact hB))
    · rw [show (64 : Int32) = nI 64 from rfl, nI_leI (by omega) (by omega)] at c_55
      refine vg_ldc2 (v := (-1)) C d_T_init_58 q_T_36 ?_
      refine vg_lstore C d_T_init_61 (Nat.le_of_ble_eq_true rfl) rfl ?_
      refine vg_ldc2 (v := (-1)) C d_T_init_63 q_T_36 ?_
      refine vg_lstore C d_T_init_66 (Nat.le_of_ble_eq_true rfl) rfl ?_
      refine vg_iconst (v := 0) C d_T_init_68 (by decide) ?_
      refine vg_istore C d_T_init_69 (Nat.le_of_ble_eq_true rfl) rfl ?_
      refine lp_T_in hZ C hQ a g d x (by omega) (wl 117 ad f) (fun u v huv => ?_) 7 0 (-1) (-1) (by omega) (by omega) (fun y hy => ⟨lb_m1 y hy, lb_m1 y hy⟩)
      obtain ⟨t1, t2, t3, t4, t5⟩ := id hT
      refine vg_aload_n C d_T_init_122 rfl ?_
      refine wl_get C 107 (by decide) d_T_init_123 f_T_11 ha t1 rfl ?_
      refine vg_iload_n C d_T_init_126 rfl ?_
      refine vg_lload C d_T_init_127 rfl ?_
      refine wl_last C 108 (by decide) d_T_init_129 rfl t2 (vp_in_nI (by omega) (by decide)) ?_
      rw [nI_clamp (by omega)]
      refine vg_aload_n C d_T_init_130 rfl ?_
      refine wl_get C 107 (by decide) d_T_init_131 f_T_15 ha ((fu_n (by decide)).trans t1) rfl ?_
      refine vg_iload_n C d_T_init_134 rfl ?_
      refine vg_lload C d_T_init_135 rfl ?_
      refine wl_last C 109 (by decide) d_T_init_137 rfl ((fu_n (by decide)).trans t3) (vp_in_nI (by omega) (by decide)) ?_
      rw [nI_clamp (by omega)]
      refine vg_iinc (v := nI (x + 1)) C d_T_init_138 rfl (nI_1 x) (Nat.le_of_ble_eq_true rfl) rfl ?_
      refine vg_goto (tgt := 52) C d_T_init_141 (by decide) ?_
      refine vg_lv [0, 3, 4, 5] rfl ?_
      refine ih (x + 1) _ (vp_updL B1 x u) (vp_updL B2 x v) (by omega) (by omega) (fun j hj => (fu_n (by omega)).trans ((fu_n (by omega)).trans (hF j hj))) ⟨(fu_n (by decide)).trans ((fu_n (by decide)).trans t1), (fu_n (by decide)).trans fu_s, fu_s, (fu_n (by decide)).trans ((fu_n (by decide)).trans t4), NDn_x (fun j _ _ => rfl) (fun j hj => (fu_n (by omega)).trans (fu_n (by omega))) t5⟩ (fun z hz y hy => ?_)
      by_cases e : z = x
      · rw [e, pk_uLs, pk_uLs]
        exact huv y hy
      · rw [pk_uLn e, pk_uLn e]
        exact hB z (by omega) y hy
set_option maxHeartbeats 4000000 in
set_option maxRecDepth 100000 in
theorem c_T_init (Z : vg_Z) (hZ : vg_ZP Z) (ad0 : Nat → Nat) (f0 : Nat → va_E) (a : Nat) (ha0 : ad0 107 = a) (hf : f0 107 = .inr (2, [.null, .null, .null, .null, .null, .int 0, .null])) : vg_T Z M_T_init 9 478 [.ref a, .ref (ad0 1), .ref (ad0 8)] (wl 108 ad0 f0) (fun v w => v = none ∧ ∃ ad f B1 B2, (∀ j, j < 108 → ad j = ad0 j) ∧ w = wl 117 ad f ∧ (∀ j, j < 107 → f j = f0 j) ∧ TDn Z ad f B1 B2 ∧ BR B1 B2 64) := by
  have hst := vg_ZP_St hZ
  refine vg_enter hst (by decide) rfl (Nat.le_of_ble_eq_true rfl) ?_
  intro G C hQ
  show vg_K Z M_T_init G 0 0 0 [(0, .ref a), (1, .ref (ad0 1)), (2, .ref (ad0 8))] [] (wl 108 ad0 f0)
  refine vg_aload_n C d_T_init_0 rfl ?_
  refine vg_objI C ob_T d_T_init_1 ⟨Nat.le_of_ble_eq_true rfl, Nat.le_of_ble_eq_true rfl⟩ ?_
  refine vg_aload_n C d_T_init_4 rfl ?_
  refine vg_bipush (v := 64) C d_T_init_5 (by decide) ?_
  refine wl_newa C 1 (atype := .long) (a0 := (64, .inr (.inl (fun _ => 0)))) ar_long rfl rfl (fun _ => rfl) (by decide) (by decide) (by decide) d_T_init_7 ⟨Nat.le_of_ble_eq_true rfl, Nat.le_of_ble_eq_true rfl⟩ (fun ad1 h1 => ?_)
  have ha1 : ad1 107 = a := (h1 107 (by decide)).trans ha0
  clear ha0
  refine wl_putF (fs' := [.null, .null, .ref (ad1 108), .null, .null, .int 0, .null]) C 107 (by decide) d_T_init_9 ff_T_11 p_T_2 rfl ha1 ((fu_n (by decide)).trans hf) rfl rfl (Nat.le_of_ble_eq_true rfl) rfl ?_
  refine vg_aload_n C d_T_init_12 rfl ?_
  refine vg_bipush (v := 64) C d_T_init_13 (by decide) ?_
  refine wl_newa C 1 (atype := .long) (a0 := (64, .inr (.inl (fun _ => 0)))) ar_long rfl rfl (fun _ => rfl) (by decide) (by decide) (by decide) d_T_init_15 ⟨Nat.le_of_ble_eq_true rfl, Nat.le_of_ble_eq_true rfl⟩ (fun ad2 h2 => ?_)
  have ha2 : ad2 107 = a := (h2 107 (by decide)).trans ha1
  clear ha1
  refine wl_putF (fs' := [.null, .null, .ref (ad1 108), .ref (ad2 109), .null, .int 0, .null]) C 107 (by decide) d_T_init_17 ff_T_15 p_T_3 rfl ha2 ((fu_n (by decide)).trans fu_s) rfl rfl (Nat.le_of_ble_eq_true rfl) rfl ?_
  refine vg_aload_n C d_T_init_20 rfl ?_
  refine vg_sipush (v := 320) C d_T_init_21 (by decide) ?_
  refine wl_newa C 1 (atype := .long) (a0 := (320, .inr (.inl (fun _ => 0)))) ar_long rfl rfl (fun _ => rfl) (by decide) (by decide) (by decide) d_T_init_24 ⟨Nat.le_of_ble_eq_true rfl, Nat.le_of_ble_eq_true rfl⟩ (fun ad3 h3 => ?_)
  have ha3 : ad3 107 = a := (h3 107 (by decide)).trans ha2
  clear ha2
  refine wl_putF (fs' := [.null, .null, .ref (ad1 108), .ref (ad2 109), .ref (ad3 110), .int 0, .null]) C 107 (by decide) d_T_init_26 ff_T_18 p_T_4 rfl ha3 ((fu_n (by decide)).trans fu_s) rfl rfl (Nat.le_of_ble_eq_true rfl) rfl ?_
  refine vg_aload_n C d_T_init_29 rfl ?_
  refine wl_newo C nw_T_21 d_T_init_30 ⟨Nat.le_of_ble_eq_true rfl, Nat.le_of_ble_eq_true rfl⟩ (fun ad4 h4 => ?_)
  refine vg_dup C d_T_init_33 rfl ?_
  refine vg_callIN (As := []) C (c_N_init Z hst 112 111 (by decide) ad4 _ (ad4 111) rfl fu_s) l_T_init_N_init rfl k_T_23 rfl rfl (Nat.le_of_ble_eq_true rfl) d_T_init_34 ⟨Nat.le_of_ble_eq_true rfl, Nat.le_of_ble_eq_true rfl⟩ (fun v w h => ?_)
  obtain ⟨rfl, ad5, f5, h5, rfl, k5, n5⟩ := h
  have hf5 : f5 107 = .inr (2, [.null, .null, .ref (ad1 108), .ref (ad2 109), .ref (ad3 110), .int 0, .null]) := (k5 107 (by decide) (by decide)).trans ((fu_n (by decide)).trans fu_s)
  have ha5 : ad5 107 = a := ((h5 107 (by decide)).trans (h4 107 (by decide))).trans ha3
  refine wl_putF (fs' := [.null, .null, .ref (ad1 108), .ref (ad2 109), .ref (ad3 110), .int 0, .ref (ad4 111)]) C 107 (by decide) d_T_init_37 ff_T_24 p_T_6 rfl ha5 hf5 rfl rfl (Nat.le_of_ble_eq_true rfl) rfl ?_
  refine vg_aload_n C d_T_init_40 rfl ?_
  refine vg_aload_n C d_T_init_41 rfl ?_
  refine wl_putF (fs' := [.ref (ad0 1), .null, .ref (ad1 108), .ref (ad2 109), .ref (ad3 110), .int 0, .ref (ad4 111)]) C 107 (by decide) d_T_init_42 ff_T_28 p_T_0 rfl ha5 fu_s rfl rfl (Nat.le_of_ble_eq_true rfl) rfl ?_
  refine vg_aload_n C d_T_init_45 rfl ?_
  refine vg_aload_n C d_T_init_46 rfl ?_
  refine wl_putF (fs' := [.ref (ad0 1), .ref (ad0 8), .ref (ad1 108), .ref (ad2 109), .ref (ad3 110), .int 0, .ref (ad4 111)]) C 107 (by decide) d_T_init_47 ff_T_32 p_T_1 rfl ha5 fu_s rfl rfl (Nat.le_of_ble_eq_true rfl) rfl ?_
  refine vg_iconst (v := 0) C d_T_init_50 (by decide) ?_
  refine vg_istore_n C d_T_init_51 (Nat.le_of_ble_eq_true rfl) rfl ?_
  have hA : ∀ j, j < 108 → ad5 j = ad0 j := fun j hj => by rw [h5 j (by omega), h4 j (by omega), h3 j (by omega), h2 j (by omega), h1 j (by omega)]
  refine lp_T_out hZ C hQ a (ad0 1) (ad0 8) ad5 ha5 f0 (fun f B1 B2 q1 q2 q3 => ⟨rfl, ad5, f, B1, B2, hA, rfl, q1, q2, q3⟩) 65 0 _ (fun _ => 0) (fun _ => 0) (by omega) (by omega) (fun j hj => ?_) ⟨?_, ?_, ?_, ?_, ?_⟩ (fun x hx => absurd hx (by omega))
  · rw [fu_n (by omega), fu_n (by omega), fu_n (by omega), k5 j (by omega) (by omega)]
    simp (disch := omega) only [fu_n]
  · rw [fu_s, hA 1 (by decide), hA 8 (by decide), h5 108 (by decide), h4 108 (by decide), h3 108 (by decide), h2 108 (by decide), h5 109 (by decide), h4 109 (by decide), h3 109 (by decide), h5 110 (by decide), h4 110 (by decide), h5 111 (by decide)]
  · rw [fu_n (by decide), fu_n (by decide), fu_n (by decide), k5 108 (by decide) (by decide)]
    simp (disch := decide) only [fu_s, fu_n]
  · rw [fu_n (by decide), fu_n (by decide), fu_n (by decide), k5 109 (by decide) (by decide)]
    simp (disch := decide) only [fu_s, fu_n]
  · rw [fu_n (by decide), fu_n (by decide), fu_n (by decide), k5 110 (by decide) (by decide)]
    simp (disch := decide) only [fu_s, fu_n]
  · exact NDn_x (fun j _ _ => rfl) (fun j hj => (fu_n (by omega)).trans ((fu_n (by omega)).trans (fu_n (by omega)))) n5
theorem GDn_x {Z : vg_Z} {ad ad' : Nat → Nat} {f f' : Nat → va_E} (ha : ∀ j, 1 ≤ j → j < 8 → ad' j = ad j) (hf : ∀ j, 1 ≤ j → j < 8 → f' j = f j) (h : GDn Z ad f) : GDn Z ad' f' := by
  obtain ⟨h1, h2, h3, h4⟩ := h
  refine ⟨?_, fun j a b => by rw [hf j (by omega) (by omega)]; exact h2 j a b, by rw [hf 6 (by omega) (by omega)]; exact h3, by rw [hf 7 (by omega) (by omega)]; exact h4⟩
  rw [hf 1 (by omega) (by omega), ha 2 (by omega) (by omega), ha 3 (by omega) (by omega), ha 4 (by omega) (by omega), ha 5 (by omega) (by omega), ha 6 (by omega) (by omega), ha 7 (by omega) (by omega)]
  exact h1
theorem DDm_x {Z : vg_Z} {ad ad' : Nat → Nat} {f f' : Nat → va_E} (ha : ∀ j, 8 ≤ j → j < 107 → ad' j = ad j) (hf : ∀ j, 8 ≤ j → j < 107 → f' j = f j) (h : DDm Z ad f 16) : DDm Z ad' f' 16 := by
  obtain ⟨h1, h2, ⟨r, h3, h4⟩, h5⟩ := h
  refine ⟨?_, by rw [hf 10 (by omega) (by omega)]; exact h2, ⟨r, by rw [hf 9 (by omega) (by omega)]; exact h3, fun u hu => by rw [ha _ (by omega) (by omega)]; exact h4 u hu⟩, fun u hu => NDn_x (fun j _ _ => ha j (by omega) (by omega)) (fun j hj => hf j (by omega) (by omega)) (h5 u hu)⟩
  rw [hf 8 (by omega) (by omega), ha 9 (by omega) (by omega), ha 10 (by omega) (by omega)]
  exact h1
theorem TDn_x {Z : vg_Z} {ad ad' : Nat → Nat} {f f' : Nat → va_E} {B1 B2 : Nat → Int64} (ha : ∀ j, j < 117 → ad' j = ad j) (hf : ∀ j, 107 ≤ j → j < 117 → f' j = f j) (h : TDn Z ad f B1 B2) : TDn Z ad' f' B1 B2 := by
  obtain ⟨h1, h2, h3, h4, h5⟩ := h
  refine ⟨?_, by rw [hf 108 (by omega) (by omega)]; exact h2, by rw [hf 109 (by omega) (by omega)]; exact h3, by rw [hf 110 (by omega) (by omega)]; exact h4, NDn_x (fun j _ _ => ha j (by omega)) (fun j hj => hf j (by omega) (by omega)) h5⟩
  rw [hf 107 (by omega) (by omega), ha 1 (by omega), ha 8 (by omega), ha 108 (by omega), ha 109 (by omega), ha 110 (by omega), ha 111 (by omega)]
  exact h1
set_option maxHeartbeats 4000000 in
set_option maxRecDepth 100000 in
theorem c_V_init (Z : vg_Z) (hZ : vg_ZP Z) (ad0 : Nat → Nat) (f0 : Nat → va_E) (a : Nat) (ha0 : ad0 0 = a) (hf : f0 0 = .inr (4, [.null, .null, .null])) : vg_T Z M_V_init 116 1202 [.ref a] (wl 1 ad0 f0) (fun v w => v = none ∧ ∃ ad f B1 B2, (∀ j, j < 1 → ad j = ad0 j) ∧ w = wl 117 ad f ∧ f 0 = .inr (4, [.ref (ad 1), .ref (ad 8), .ref (ad 107)]) ∧ GDn Z ad f ∧ DDm Z ad f 16 ∧ TDn Z ad f B1 B2 ∧ BR B1 B2 64) := by
  have hst := vg_ZP_St hZ
  refine vg_enter hst (by decide) rfl (Nat.le_of_ble_eq_true rfl) ?_
  intro G C hQ
  show vg_K Z M_V_init G 0 0 0 [(0, .ref a)] [] (wl 1 ad0 f0)
  refine vg_aload_n C d_V_init_0 rfl ?_
  refine vg_objI C ob_V d_V_init_1 ⟨Nat.le_of_ble_eq_true rfl, Nat.le_of_ble_eq_true rfl⟩ ?_
  refine vg_aload_n C d_V_init_4 rfl ?_
  refine wl_newo C nw_V_7 d_V_init_5 ⟨Nat.le_of_ble_eq_true rfl, Nat.le_of_ble_eq_true rfl⟩ (fun ad1 h1 => ?_)
  refine vg_dup C d_V_init_8 rfl ?_
  refine vg_callIN (As := []) C (c_G_init Z hst ad1 _ (ad1 1) rfl fu_s) l_V_init_G_init rfl k_V_9 rfl rfl (Nat.le_of_ble_eq_true rfl) d_V_init_9 ⟨Nat.le_of_ble_eq_true rfl, Nat.le_of_ble_eq_true rfl⟩ (fun v w h => ?_)
  obtain ⟨rfl, ad2, f2, h2, rfl, k2, g2⟩ := h
  have a2 : ad2 0 = a := ((h2 0 (by decide)).trans (h1 0 (by decide))).trans ha0
  have z2 : f2 0 = .inr (4, [.null, .null, .null]) := (k2 0 (by decide)).trans ((fu_n (by decide)).trans hf)
  refine wl_putF (fs' := [.ref (ad1 1), .null, .null]) C 0 (by decide) d_V_init_12 ff_V_10 p_V_0 rfl a2 z2 rfl rfl (Nat.le_of_ble_eq_true rfl) rfl ?_
  refine vg_aload_n C d_V_init_15 rfl ?_
  refine wl_newo C nw_V_16 d_V_init_16 ⟨Nat.le_of_ble_eq_true rfl, Nat.le_of_ble_eq_true rfl⟩ (fun ad3 h3 => ?_)
  refine vg_dup C d_V_init_19 rfl ?_
  refine vg_callI (As := []) C (c_D_init Z hZ ad3 _ (ad3 8) rfl fu_s) l_V_init_D_init rfl k_V_18 rfl rfl (Nat.le_of_ble_eq_true rfl) d_V_init_20 ⟨Nat.le_of_ble_eq_true rfl, Nat.le_of_ble_eq_true rfl⟩ (fun v w h => ?_)
  obtain ⟨rfl, ad4, f4, h4, rfl, k4, g4⟩ := h
  have a4 : ad4 0 = a := ((h4 0 (by decide)).trans (h3 0 (by decide))).trans a2
  have z4 : f4 0 = .inr (4, [.ref (ad1 1), .null, .null]) := (k4 0 (by decide)).trans ((fu_n (by decide)).trans fu_s)
  refine wl_putF (fs' := [.ref (ad1 1), .ref (ad3 8), .null]) C 0 (by decide) d_V_init_23 ff_V_19 p_V_1 rfl a4 z4 rfl rfl (Nat.le_of_ble_eq_true rfl) rfl ?_
  refine vg_aload_n C d_V_init_26 rfl ?_
  refine wl_newo C nw_V_23 d_V_init_27 ⟨Nat.le_of_ble_eq_true rfl, Nat.le_of_ble_eq_true rfl⟩ (fun ad5 h5 => ?_)
  have a5 : ad5 0 = a := (h5 0 (by decide)).trans a4
  have e1 : ad5 1 = ad1 1 := by rw [h5 1 (by decide), h4 1 (by decide), h3 1 (by decide), h2 1 (by decide)]
  have e8 : ad5 8 = ad3 8 := by rw [h5 8 (by decide), h4 8 (by decide)]
  refine vg_dup C d_V_init_30 rfl ?_
  refine vg_aload_n C d_V_init_31 rfl ?_
  refine wl_get C 0 (by decide) d_V_init_32 f_V_10 a5 ((fu_n (by decide)).trans fu_s) rfl ?_
  refine vg_aload_n C d_V_init_35 rfl ?_
  refine wl_get C 0 (by decide) d_V_init_36 f_V_19 a5 ((fu_n (by decide)).trans fu_s) rfl ?_
  rw [← e1, ← e8]
  refine vg_callI (As := [_, _]) C (c_T_init Z hZ ad5 _ (ad5 107) rfl fu_s) l_V_init_T_init rfl k_V_25 rfl rfl (Nat.le_of_ble_eq_true rfl) d_V_init_39 ⟨Nat.le_of_ble_eq_true rfl, Nat.le_of_ble_eq_true rfl⟩ (fun v w h => ?_)
  obtain ⟨rfl, ad6, f6, B1, B2, h6, rfl, k6, g6, r6⟩ := h
  have a6 : ad6 0 = a := (h6 0 (by decide)).trans a5
  have z6 : f6 0 = .inr (4, [.ref (ad5 1), .ref (ad5 8), .null]) := (k6 0 (by decide)).trans ((fu_n (by decide)).trans fu_s)
  refine wl_putF (fs' := [.ref (ad5 1), .ref (ad5 8), .ref (ad5 107)]) C 0 (by decide) d_V_init_42 ff_V_28 p_V_2 rfl a6 z6 rfl rfl (Nat.le_of_ble_eq_true rfl) rfl ?_
  refine vg_return C hQ d_V_init_45 rfl ⟨rfl, ad6, _, B1, B2, fun j hj => ?_, rfl, ?_, ?_, ?_, ?_, r6⟩
  · rw [show j = 0 by omega, a6, ha0]
  · rw [fu_s, h6 1 (by decide), h6 8 (by decide), h6 107 (by decide)]
  · refine GDn_x (fun j h7 h8 => ?_) (fun j h7 h8 => ?_) g2
    · rw [h6 j (by omega), h5 j (by omega), h4 j (by omega), h3 j (by omega)]
    · rw [fu_n (by omega), k6 j (by omega), fu_n (by omega), fu_n (by omega), k4 j (by omega), fu_n (by omega), fu_n (by omega)]
  · refine DDm_x (fun j h7 h8 => ?_) (fun j h7 h8 => ?_) g4
    · rw [h6 j (by omega), h5 j (by omega)]
    · rw [fu_n (by omega), k6 j (by omega), fu_n (by omega), fu_n (by omega)]
  · exact TDn_x (fun j h7 => rfl) (fun j h7 h8 => fu_n (by omega)) g6
