/-! the reference's parted -/
theorem nx_sub : ∀ A, A < 64 → ∀ s, s < 64 → s &&& A = s → ¬ s = 0 → ((s - 1) &&& A) &&& A = (s - 1) &&& A ∧ (s - 1) &&& A < s := by decide +kernel
def nxm (A s u : Nat) : Bool := !(decide (u &&& A = u)) || !(decide (u < s)) || decide (u ≤ (s - 1) &&& A)
theorem nxm_t : ∀ A, A < 64 → ∀ s, s < 64 → s &&& A = s → ∀ u, u < 64 → nxm A s u = true := by decide +kernel
theorem nx_max : ∀ A, A < 64 → ∀ s, s < 64 → s &&& A = s → ∀ u, u < 64 → u &&& A = u → u < s → u ≤ (s - 1) &&& A := fun A hA s hs h u hu h1 h2 => by
  have := nxm_t A hA s hs h u hu
  unfold nxm at this
  rw [decide_eq_true h1, decide_eq_true h2] at this
  exact of_decide_eq_true this
theorem sb_dj : ∀ A, A < 64 → ∀ s, s < 64 → s &&& A = s → s &&& (A - s) = 0 ∧ A = s ||| (A - s) ∧ s ≤ A := by decide +kernel
theorem or_sb : ∀ a, a < 64 → ∀ b, b < 64 → a &&& b = 0 → a &&& (a ||| b) = a ∧ (a ||| b) - a = b := by decide +kernel
def bfb (x y : Nat) : Bool := decide (bf x y)
theorem en_bb : ∀ z, z < 64 → ∀ x, x < 64 → x &&& z = x → decide (x = z &&& en 7 x) = bfb x (z - x) := by decide +kernel
theorem en_bf : ∀ z, z < 64 → ∀ x, x < 64 → x &&& z = x → (x = z &&& en 7 x ↔ bf x (z - x)) := fun z hz x hx h => decide_eq_decide.mp (en_bb z hz x hx h)
theorem en_64 : ∀ x, x < 64 → en 7 x < 64 := by decide +kernel
theorem nI_sb {x y : Nat} (h : y ≤ x) : nI x - nI y = nI (x - y) := by
  rw [show x = (x - y) + y by omega, ← nI_add, Int32.add_sub_cancel, show x - y + y - y = x - y by omega]
/-- the rows that the reference has found -/
def Mb (m : Nat → Int64) (p A z : Nat) : Prop := lb (m (64 * p + A)) z = true
/-- the front x of z goes to the left, the rest to the right -/
def gd (cut : Bool) (Lf Rt : Int64) (z x : Nat) : Prop := (cut = true → x = z &&& en 7 x) ∧ lb Lf x = true ∧ lb Rt (z - x) = true
theorem gd_Gp {m : Nat → Int64} {cut : Bool} {a b A z : Nat} (hA : A < 64) (hz : z < 64) : (∃ s, s < 64 ∧ s &&& A = s ∧ ∃ x, x < 64 ∧ x &&& z = x ∧ gd cut (m (64 * a + s)) (m (64 * b + (A - s))) z x) ↔ Gp cut (Mb m a) (Mb m b) A z := by
  constructor
  · rintro ⟨s, s1, s2, x, x1, x2, g1, g2, g3⟩
    obtain ⟨d1, d2, d3⟩ := sb_dj A hA s s1 s2
    obtain ⟨e1, e2, e3⟩ := sb_dj z hz x x1 x2
    exact ⟨s, A - s, x, z - x, s1, by omega, x1, by omega, d1, d2, e1, e2, fun h => (en_bf z hz x x1 x2).mp (g1 h), g2, g3⟩
  · rintro ⟨s, b2, x, y, s1, b1, x1, y1, d1, rfl, e1, rfl, hc, h1, h2⟩
    obtain ⟨q1, q2⟩ := or_sb s s1 b2 b1 d1
    obtain ⟨q3, q4⟩ := or_sb x x1 y y1 e1
    exact ⟨s, s1, q1, x, x1, q3, fun h => (en_bf _ hz x x1 q3).mpr (by rw [q4]; exact hc h), h1, by rw [q2, q4]; exact h2⟩
theorem bI_c {b : Bool} (h : ¬ bI b = 0) : b = true := by cases b; exact absurd rfl h; rfl
theorem bI_d {b : Bool} (h : bI b = 0) : b = false := by cases b; rfl; exact absurd h (by decide)
set_option maxHeartbeats 4000000 in
set_option maxRecDepth 100000 in
theorem lp_R_parted_in {Z : vg_Z} (hst : vg_St Z) {G : vg_G} {post : Option Value → va_W → Prop} (C : vg_C Z M_R_parted G) (hQ : vg_Rt Z G 0 0 post) (ad : Nat → Nat) (σ : sg) (a b A z : Nat) (cut : Bool) (ha : a < 40) (hb : b < 40) (hA : A < 64) (hz : z < 64) (s : Nat) (Lf Rt : Int64) (ht : (∃ x, x < 64 ∧ x &&& z = x ∧ gd cut Lf Rt z x) → post (some (.int 1)) (wd Z ad σ)) (hk : (¬ ∃ x, x < 64 ∧ x &&& z = x ∧ gd cut Lf Rt z x) → vg_K Z M_R_parted G 0 0 144 [(6, .int (nI s)), (0, .ref (ad 117)), (1, .int (nI a)), (2, .int (nI b)), (3, .int (nI A)), (4, .int (nI z)), (5, .int (bI cut))] [] (wd Z ad σ)) : ∀ (n2 r : Nat) (hlt : r < n2) (hr : r < 64) (hrz : r &&& z = r), (∀ x, x < 64 → x &&& z = x → r < x → ¬ gd cut Lf Rt z x) → vg_K Z M_R_parted G 0 0 59 [(11, .int (nI r)), (9, .long Rt), (7, .long Lf), (6, .int (nI s)), (0, .ref (ad 117)), (1, .int (nI a)), (2, .int (nI b)), (3, .int (nI A)), (4, .int (nI z)), (5, .int (bI cut))] [] (wd Z ad σ) := by
  intro n2
  induction n2 with
  | zero =>
    intro r hlt
    exact absurd hlt (by omega)
  | succ n2 ih =>
    intro r hlt hr hrz hno
    have hrl : r ≤ z := (sb_dj z hz r hr hrz).2.2
    have IH : ¬ r = 0 → ¬ gd cut Lf Rt z r → vg_K Z M_R_parted G 0 0 59 [(11, .int (nI ((r - 1) &&& z))), (9, .long Rt), (7, .long Lf), (6, .int (nI s)), (0, .ref (ad 117)), (1, .int (nI a)), (2, .int (nI b)), (3, .int (nI A)), (4, .int (nI z)), (5, .int (bI cut))] [] (wd Z ad σ) := by
      intro h0 hbad
      have hx := nx_sub z hz r hr hrz h0
      refine ih ((r - 1) &&& z) (by omega) (by omega) hx.1 (fun x x1 x2 x3 x4 => ?_)
      rcases Nat.lt_trichotomy x r with y | y | y
      · have := nx_max z hz r hr hrz x x1 x2 y
        omega
      · rw [y] at x4
        exact hbad x4
      · exact hno x x1 x2 y x4
    have KK : r = 0 → ¬ gd cut Lf Rt z r → vg_K Z M_R_parted G 0 0 59 [(11, .int (-1)), (9, .long Rt), (7, .long Lf), (6, .int (nI s)), (0, .ref (ad 117)), (1, .int (nI a)), (2, .int (nI b)), (3, .int (nI A)), (4, .int (nI z)), (5, .int (bI cut))] [] (wd Z ad σ) := by
      intro c_125 hbad
      refine vg_iload C d_R_parted_59 rfl ?_
      refine vg_if_lt (tgt := 144) C d_R_parted_61 (by decide) (fun _ => ?_) (fun c_61 => absurd (by decide) c_61)
      refine vg_lv [3, 4, 5, 6, 7, 8, 9] rfl ?_
      refine hk ?_
      rintro ⟨x, x1, x2, x3⟩
      rcases Nat.eq_zero_or_pos x with y | y
      · subst y
        rw [c_125] at hbad
        exact hbad x3
      · exact hno x x1 x2 (by rw [c_125]; exact y) x3
    refine vg_iload C d_R_parted_59 rfl ?_
    refine vg_if_lt (tgt := 144) C d_R_parted_61 (by decide) (fun c_61 => absurd c_61 (i32_lt0 (by omega))) (fun _ => ?_)
    refine vg_iload C d_R_parted_64 rfl ?_
    refine vg_if_eq (tgt := 82) C d_R_parted_66 (by decide) (fun c_66 => ?_) (fun c_66 => ?_)
    · skip
      refine vg_iconst (v := 1) C d_R_parted_82 (by decide) ?_
      refine vg_goto (tgt := 87) C d_R_parted_83 (by decide) ?_
      refine vg_istore C d_R_parted_87 (Nat.le_of_ble_eq_true rfl) rfl ?_
      refine vg_iload C d_R_parted_89 rfl ?_
      refine vg_if_eq (tgt := 123) C d_R_parted_91 (by decide) (fun c_91 => absurd c_91 (by decide)) (fun _ => ?_)
      refine vg_lload C d_R_parted_94 rfl ?_
      refine vg_iload C d_R_parted_96 rfl ?_
      skip
      refine vg_lshr C d_R_parted_98 ?_
      refine vg_lconst (v := 1) C d_R_parted_99 (by decide) ?_
      refine vg_land C d_R_parted_100 ?_
      refine vg_lconst (v := 0) C d_R_parted_101 (by decide) ?_
      refine vg_lcmp C d_R_parted_102 ?_
      refine vg_if_eq (tgt := 123) C d_R_parted_103 (by decide) (fun c_103 => ?_) (fun c_103 => ?_)
      · rw [lg_eq, lb_stst hr] at c_103
        refine vg_iload C d_R_parted_123 rfl ?_
        refine vg_if_ne (tgt := 132) C d_R_parted_125 (by decide) (fun c_125 => ?_) (fun c_125 => ?_)
        · rw [nI_z (by omega)] at c_125
          refine vg_iload C d_R_parted_132 rfl ?_
          refine vg_iconst (v := 1) C d_R_parted_134 (by decide) ?_
          refine vg_isub C d_R_parted_135 ?_
          rw [nI_p (by omega)]
          refine vg_iload C d_R_parted_136 rfl ?_
          refine vg_iand C d_R_parted_138 ?_
          refine vg_istore C d_R_parted_139 (Nat.le_of_ble_eq_true rfl) rfl ?_
          refine vg_goto (tgt := 59) C d_R_parted_141 (by decide) ?_
          refine vg_lv [0, 2, 3, 4, 5, 6, 7, 8, 9, 10] rfl ?_
          (try rw [(bt64 (r - 1) (by omega) z hz).1])
          first
            | exact IH c_125 (fun g => c_79 (g.1 (bI_c c_66)))
            | exact KK c_125 (fun g => c_79 (g.1 (bI_c c_66)))
            | exact IH c_125 (fun g => absurd g.2.1 (by rw [c_103]; decide))
            | exact KK c_125 (fun g => absurd g.2.1 (by rw [c_103]; decide))
            | exact IH c_125 (fun g => absurd g.2.2 (by rw [c_118]; decide))
            | exact KK c_125 (fun g => absurd g.2.2 (by rw [c_118]; decide))
        · rw [nI_z (by omega)] at c_125
          refine vg_iconst (v := (-1)) C d_R_parted_128 (by decide) ?_
          refine vg_goto (tgt := 139) C d_R_parted_129 (by decide) ?_
          refine vg_istore C d_R_parted_139 (Nat.le_of_ble_eq_true rfl) rfl ?_
          refine vg_goto (tgt := 59) C d_R_parted_141 (by decide) ?_
          refine vg_lv [0, 2, 3, 4, 5, 6, 7, 8, 9, 10] rfl ?_
          (try rw [(bt64 (r - 1) (by omega) z hz).1])
          first
            | exact IH c_125 (fun g => c_79 (g.1 (bI_c c_66)))
            | exact KK c_125 (fun g => c_79 (g.1 (bI_c c_66)))
            | exact IH c_125 (fun g => absurd g.2.1 (by rw [c_103]; decide))
            | exact KK c_125 (fun g => absurd g.2.1 (by rw [c_103]; decide))
            | exact IH c_125 (fun g => absurd g.2.2 (by rw [c_118]; decide))
            | exact KK c_125 (fun g => absurd g.2.2 (by rw [c_118]; decide))
      · rw [lg_eq, lb_stst hr] at c_103
        refine vg_lload C d_R_parted_106 rfl ?_
        refine vg_iload C d_R_parted_108 rfl ?_
        refine vg_iload C d_R_parted_110 rfl ?_
        refine vg_isub C d_R_parted_112 ?_
        rw [nI_sb hrl]
        refine vg_lshr C d_R_parted_113 ?_
        refine vg_lconst (v := 1) C d_R_parted_114 (by decide) ?_
        refine vg_land C d_R_parted_115 ?_
        refine vg_lconst (v := 0) C d_R_parted_116 (by decide) ?_
        refine vg_lcmp C d_R_parted_117 ?_
        refine vg_if_eq (tgt := 123) C d_R_parted_118 (by decide) (fun c_118 => ?_) (fun c_118 => ?_)
        · rw [lg_eq, lb_stst (by omega)] at c_118
          refine vg_iload C d_R_parted_123 rfl ?_
          refine vg_if_ne (tgt := 132) C d_R_parted_125 (by decide) (fun c_125 => ?_) (fun c_125 => ?_)
          · rw [nI_z (by omega)] at c_125
            refine vg_iload C d_R_parted_132 rfl ?_
            refine vg_iconst (v := 1) C d_R_parted_134 (by decide) ?_
            refine vg_isub C d_R_parted_135 ?_
            rw [nI_p (by omega)]
            refine vg_iload C d_R_parted_136 rfl ?_
            refine vg_iand C d_R_parted_138 ?_
            refine vg_istore C d_R_parted_139 (Nat.le_of_ble_eq_true rfl) rfl ?_
            refine vg_goto (tgt := 59) C d_R_parted_141 (by decide) ?_
            refine vg_lv [0, 2, 3, 4, 5, 6, 7, 8, 9, 10] rfl ?_
            (try rw [(bt64 (r - 1) (by omega) z hz).1])
            first
              | exact IH c_125 (fun g => c_79 (g.1 (bI_c c_66)))
              | exact KK c_125 (fun g => c_79 (g.1 (bI_c c_66)))
              | exact IH c_125 (fun g => absurd g.2.1 (by rw [c_103]; decide))
              | exact KK c_125 (fun g => absurd g.2.1 (by rw [c_103]; decide))
              | exact IH c_125 (fun g => absurd g.2.2 (by rw [c_118]; decide))
              | exact KK c_125 (fun g => absurd g.2.2 (by rw [c_118]; decide))
          · rw [nI_z (by omega)] at c_125
            refine vg_iconst (v := (-1)) C d_R_parted_128 (by decide) ?_
            refine vg_goto (tgt := 139) C d_R_parted_129 (by decide) ?_
            refine vg_istore C d_R_parted_139 (Nat.le_of_ble_eq_true rfl) rfl ?_
            refine vg_goto (tgt := 59) C d_R_parted_141 (by decide) ?_
            refine vg_lv [0, 2, 3, 4, 5, 6, 7, 8, 9, 10] rfl ?_
            (try rw [(bt64 (r - 1) (by omega) z hz).1])
            first
              | exact IH c_125 (fun g => c_79 (g.1 (bI_c c_66)))
              | exact KK c_125 (fun g => c_79 (g.1 (bI_c c_66)))
              | exact IH c_125 (fun g => absurd g.2.1 (by rw [c_103]; decide))
              | exact KK c_125 (fun g => absurd g.2.1 (by rw [c_103]; decide))
              | exact IH c_125 (fun g => absurd g.2.2 (by rw [c_118]; decide))
              | exact KK c_125 (fun g => absurd g.2.2 (by rw [c_118]; decide))
        · rw [lg_eq, lb_stst (by omega)] at c_118
          refine vg_iconst (v := 1) C d_R_parted_121 (by decide) ?_
          exact vg_ireturn C hQ d_R_parted_122 rfl (by first | rfl | assumption) (ht ⟨r, hr, hrz, by first | exact ⟨fun h => absurd (bI_d c_66) (by rw [h]; decide), ts_nf c_103, ts_nf c_118⟩ | exact ⟨fun _ => c_79, ts_nf c_103, ts_nf c_118⟩⟩)
    · skip
      refine vg_iload C d_R_parted_69 rfl ?_
      refine vg_iload C d_R_parted_71 rfl ?_
      refine vg_iload C d_R_parted_73 rfl ?_
      refine vg_callS (As := [_]) C (c_R_ends Z hst ad σ r hr) l_R_parted_R_ends k_R_105 rfl rfl (Nat.le_of_ble_eq_true rfl) d_R_parted_75 ⟨Nat.le_of_ble_eq_true rfl, Nat.le_of_ble_eq_true rfl⟩ (fun v_75 w_75 h_75 => ?_)
      obtain ⟨rfl, rfl⟩ := h_75
      refine vg_iand C d_R_parted_78 ?_
      rw [(bt64 z hz _ (en_64 r hr)).1]
      refine vg_icmp_ne (tgt := 86) C d_R_parted_79 (by decide) (fun c_79 => ?_) (fun c_79 => ?_)
      · rw [nI_eq (by omega) (show z &&& en 7 r < 2 ^ 31 from Nat.lt_of_le_of_lt Nat.and_le_left (by omega))] at c_79
        refine vg_iconst (v := 0) C d_R_parted_86 (by decide) ?_
        refine vg_istore C d_R_parted_87 (Nat.le_of_ble_eq_true rfl) rfl ?_
        refine vg_iload C d_R_parted_89 rfl ?_
        refine vg_if_eq (tgt := 123) C d_R_parted_91 (by decide) (fun _ => ?_) (fun c_91 => absurd (by decide) c_91)
        refine vg_iload C d_R_parted_123 rfl ?_
        refine vg_if_ne (tgt := 132) C d_R_parted_125 (by decide) (fun c_125 => ?_) (fun c_125 => ?_)
        · rw [nI_z (by omega)] at c_125
          refine vg_iload C d_R_parted_132 rfl ?_
          refine vg_iconst (v := 1) C d_R_parted_134 (by decide) ?_
          refine vg_isub C d_R_parted_135 ?_
          rw [nI_p (by omega)]
          refine vg_iload C d_R_parted_136 rfl ?_
          refine vg_iand C d_R_parted_138 ?_
          refine vg_istore C d_R_parted_139 (Nat.le_of_ble_eq_true rfl) rfl ?_
          refine vg_goto (tgt := 59) C d_R_parted_141 (by decide) ?_
          refine vg_lv [0, 2, 3, 4, 5, 6, 7, 8, 9, 10] rfl ?_
          (try rw [(bt64 (r - 1) (by omega) z hz).1])
          first
            | exact IH c_125 (fun g => c_79 (g.1 (bI_c c_66)))
            | exact KK c_125 (fun g => c_79 (g.1 (bI_c c_66)))
            | exact IH c_125 (fun g => absurd g.2.1 (by rw [c_103]; decide))
            | exact KK c_125 (fun g => absurd g.2.1 (by rw [c_103]; decide))
            | exact IH c_125 (fun g => absurd g.2.2 (by rw [c_118]; decide))
            | exact KK c_125 (fun g => absurd g.2.2 (by rw [c_118]; decide))
        · rw [nI_z (by omega)] at c_125
          refine vg_iconst (v := (-1)) C d_R_parted_128 (by decide) ?_
          refine vg_goto (tgt := 139) C d_R_parted_129 (by decide) ?_
          refine vg_istore C d_R_parted_139 (Nat.le_of_ble_eq_true rfl) rfl ?_
          refine vg_goto (tgt := 59) C d_R_parted_141 (by decide) ?_
          refine vg_lv [0, 2, 3, 4, 5, 6, 7, 8, 9, 10] rfl ?_
          (try rw [(bt64 (r - 1) (by omega) z hz).1])
          first
            | exact IH c_125 (fun g => c_79 (g.1 (bI_c c_66)))
            | exact KK c_125 (fun g => c_79 (g.1 (bI_c c_66)))
            | exact IH c_125 (fun g => absurd g.2.1 (by rw [c_103]; decide))
            | exact KK c_125 (fun g => absurd g.2.1 (by rw [c_103]; decide))
            | exact IH c_125 (fun g => absurd g.2.2 (by rw [c_118]; decide))
            | exact KK c_125 (fun g => absurd g.2.2 (by rw [c_118]; decide))
      · rw [nI_eq (by omega) (show z &&& en 7 r < 2 ^ 31 from Nat.lt_of_le_of_lt Nat.and_le_left (by omega))] at c_79
        refine vg_iconst (v := 1) C d_R_parted_82 (by decide) ?_
        refine vg_goto (tgt := 87) C d_R_parted_83 (by decide) ?_
        refine vg_istore C d_R_parted_87 (Nat.le_of_ble_eq_true rfl) rfl ?_
        refine vg_iload C d_R_parted_89 rfl ?_
        refine vg_if_eq (tgt := 123) C d_R_parted_91 (by decide) (fun c_91 => absurd c_91 (by decide)) (fun _ => ?_)
        refine vg_lload C d_R_parted_94 rfl ?_
        refine vg_iload C d_R_parted_96 rfl ?_
        skip
        refine vg_lshr C d_R_parted_98 ?_
        refine vg_lconst (v := 1) C d_R_parted_99 (by decide) ?_
        refine vg_land C d_R_parted_100 ?_
        refine vg_lconst (v := 0) C d_R_parted_101 (by decide) ?_
        refine vg_lcmp C d_R_parted_102 ?_
        refine vg_if_eq (tgt := 123) C d_R_parted_103 (by decide) (fun c_103 => ?_) (fun c_103 => ?_)
        · rw [lg_eq, lb_stst hr] at c_103
          refine vg_iload C d_R_parted_123 rfl ?_
          refine vg_if_ne (tgt := 132) C d_R_parted_125 (by decide) (fun c_125 => ?_) (fun c_125 => ?_)
          · rw [nI_z (by omega)] at c_125
            refine vg_iload C d_R_parted_132 rfl ?_
            refine vg_iconst (v := 1) C d_R_parted_134 (by decide) ?_
            refine vg_isub C d_R_parted_135 ?_
            rw [nI_p (by omega)]
            refine vg_iload C d_R_parted_136 rfl ?_
            refine vg_iand C d_R_parted_138 ?_
            refine vg_istore C d_R_parted_139 (Nat.le_of_ble_eq_true rfl) rfl ?_
            refine vg_goto (tgt := 59) C d_R_parted_141 (by decide) ?_
            refine vg_lv [0, 2, 3, 4, 5, 6, 7, 8, 9, 10] rfl ?_
            (try rw [(bt64 (r - 1) (by omega) z hz).1])
            first
              | exact IH c_125 (fun g => c_79 (g.1 (bI_c c_66)))
              | exact KK c_125 (fun g => c_79 (g.1 (bI_c c_66)))
              | exact IH c_125 (fun g => absurd g.2.1 (by rw [c_103]; decide))
              | exact KK c_125 (fun g => absurd g.2.1 (by rw [c_103]; decide))
              | exact IH c_125 (fun g => absurd g.2.2 (by rw [c_118]; decide))
              | exact KK c_125 (fun g => absurd g.2.2 (by rw [c_118]; decide))
          · rw [nI_z (by omega)] at c_125
            refine vg_iconst (v := (-1)) C d_R_parted_128 (by decide) ?_
            refine vg_goto (tgt := 139) C d_R_parted_129 (by decide) ?_
            refine vg_istore C d_R_parted_139 (Nat.le_of_ble_eq_true rfl) rfl ?_
            refine vg_goto (tgt := 59) C d_R_parted_141 (by decide) ?_
            refine vg_lv [0, 2, 3, 4, 5, 6, 7, 8, 9, 10] rfl ?_
            (try rw [(bt64 (r - 1) (by omega) z hz).1])
            first
              | exact IH c_125 (fun g => c_79 (g.1 (bI_c c_66)))
              | exact KK c_125 (fun g => c_79 (g.1 (bI_c c_66)))
              | exact IH c_125 (fun g => absurd g.2.1 (by rw [c_103]; decide))
              | exact KK c_125 (fun g => absurd g.2.1 (by rw [c_103]; decide))
              | exact IH c_125 (fun g => absurd g.2.2 (by rw [c_118]; decide))
              | exact KK c_125 (fun g => absurd g.2.2 (by rw [c_118]; decide))
        · rw [lg_eq, lb_stst hr] at c_103
          refine vg_lload C d_R_parted_106 rfl ?_
          refine vg_iload C d_R_parted_108 rfl ?_
          refine vg_iload C d_R_parted_110 rfl ?_
          refine vg_isub C d_R_parted_112 ?_
          rw [nI_sb hrl]
          refine vg_lshr C d_R_parted_113 ?_
          refine vg_lconst (v := 1) C d_R_parted_114 (by decide) ?_
          refine vg_land C d_R_parted_115 ?_
          refine vg_lconst (v := 0) C d_R_parted_116 (by decide) ?_
          refine vg_lcmp C d_R_parted_117 ?_
          refine vg_if_eq (tgt := 123) C d_R_parted_118 (by decide) (fun c_118 => ?_) (fun c_118 => ?_)
          · rw [lg_eq, lb_stst (by omega)] at c_118
            refine vg_iload C d_R_parted_123 rfl ?_
            refine vg_if_ne (tgt := 132) C d_R_parted_125 (by decide) (fun c_125 => ?_) (fun c_125 => ?_)
            · rw [nI_z (by omega)] at c_125
              refine vg_iload C d_R_parted_132 rfl ?_
              refine vg_iconst (v := 1) C d_R_parted_134 (by decide) ?_
              refine vg_isub C d_R_parted_135 ?_
              rw [nI_p (by omega)]
              refine vg_iload C d_R_parted_136 rfl ?_
              refine vg_iand C d_R_parted_138 ?_
              refine vg_istore C d_R_parted_139 (Nat.le_of_ble_eq_true rfl) rfl ?_
              refine vg_goto (tgt := 59) C d_R_parted_141 (by decide) ?_
              refine vg_lv [0, 2, 3, 4, 5, 6, 7, 8, 9, 10] rfl ?_
              (try rw [(bt64 (r - 1) (by omega) z hz).1])
              first
                | exact IH c_125 (fun g => c_79 (g.1 (bI_c c_66)))
                | exact KK c_125 (fun g => c_79 (g.1 (bI_c c_66)))
                | exact IH c_125 (fun g => absurd g.2.1 (by rw [c_103]; decide))
                | exact KK c_125 (fun g => absurd g.2.1 (by rw [c_103]; decide))
                | exact IH c_125 (fun g => absurd g.2.2 (by rw [c_118]; decide))
                | exact KK c_125 (fun g => absurd g.2.2 (by rw [c_118]; decide))
            · rw [nI_z (by omega)] at c_125
              refine vg_iconst (v := (-1)) C d_R_parted_128 (by decide) ?_
              refine vg_goto (tgt := 139) C d_R_parted_129 (by decide) ?_
              refine vg_istore C d_R_parted_139 (Nat.le_of_ble_eq_true rfl) rfl ?_
              refine vg_goto (tgt := 59) C d_R_parted_141 (by decide) ?_
              refine vg_lv [0, 2, 3, 4, 5, 6, 7, 8, 9, 10] rfl ?_
              (try rw [(bt64 (r - 1) (by omega) z hz).1])
              first
                | exact IH c_125 (fun g => c_79 (g.1 (bI_c c_66)))
                | exact KK c_125 (fun g => c_79 (g.1 (bI_c c_66)))
                | exact IH c_125 (fun g => absurd g.2.1 (by rw [c_103]; decide))
                | exact KK c_125 (fun g => absurd g.2.1 (by rw [c_103]; decide))
                | exact IH c_125 (fun g => absurd g.2.2 (by rw [c_118]; decide))
                | exact KK c_125 (fun g => absurd g.2.2 (by rw [c_118]; decide))
          · rw [lg_eq, lb_stst (by omega)] at c_118
            refine vg_iconst (v := 1) C d_R_parted_121 (by decide) ?_
            exact vg_ireturn C hQ d_R_parted_122 rfl (by first | rfl | assumption) (ht ⟨r, hr, hrz, by first | exact ⟨fun h => absurd (bI_d c_66) (by rw [h]; decide), ts_nf c_103, ts_nf c_118⟩ | exact ⟨fun _ => c_79, ts_nf c_103, ts_nf c_118⟩⟩)
set_option maxHeartbeats 4000000 in
set_option maxRecDepth 100000 in
theorem lp_R_parted {Z : vg_Z} (hst : vg_St Z) {G : vg_G} {post : Option Value → va_W → Prop} (C : vg_C Z M_R_parted G) (hQ : vg_Rt Z G 0 0 post) (ad : Nat → Nat) (σ : sg) (a b A z : Nat) (cut : Bool) (ha : a < 40) (hb : b < 40) (hA : A < 64) (hz : z < 64) (hpost : post (some (.int (bP (Gp cut (Mb (σ.2 131) a) (Mb (σ.2 131) b) A z)))) (wd Z ad σ)) : ∀ (n2 s : Nat) (hlt : s < n2) (hs : s < 64) (hsA : s &&& A = s), (∀ u, u < 64 → u &&& A = u → s < u → ¬ (∃ x, x < 64 ∧ x &&& z = x ∧ gd cut (σ.2 131 (64 * a + u)) (σ.2 131 (64 * b + (A - u))) z x)) → vg_K Z M_R_parted G 0 0 3 [(6, .int (nI s)), (0, .ref (ad 117)), (1, .int (nI a)), (2, .int (nI b)), (3, .int (nI A)), (4, .int (nI z)), (5, .int (bI cut))] [] (wd Z ad σ) := by
  intro n2
  induction n2 with
  | zero =>
    intro s hlt
    exact absurd hlt (by omega)
  | succ n2 ih =>
    intro s hlt hs hsA hno
    have hsl : s ≤ A := (sb_dj A hA s hs hsA).2.2
    have NX : ¬ (∃ x, x < 64 ∧ x &&& z = x ∧ gd cut (σ.2 131 (64 * a + s)) (σ.2 131 (64 * b + (A - s))) z x) → vg_K Z M_R_parted G 0 0 144 [(6, .int (nI s)), (0, .ref (ad 117)), (1, .int (nI a)), (2, .int (nI b)), (3, .int (nI A)), (4, .int (nI z)), (5, .int (bI cut))] [] (wd Z ad σ) := by
      intro hbad
      have KK : s = 0 → vg_K Z M_R_parted G 0 0 3 [(6, .int (-1)), (0, .ref (ad 117)), (1, .int (nI a)), (2, .int (nI b)), (3, .int (nI A)), (4, .int (nI z)), (5, .int (bI cut))] [] (wd Z ad σ) := by
        intro h0
        refine vg_iload C d_R_parted_3 rfl ?_
        refine vg_if_lt (tgt := 164) C d_R_parted_5 (by decide) (fun _ => ?_) (fun c_5 => absurd (by decide) c_5)
        refine vg_iconst (v := 0) C d_R_parted_164 (by decide) ?_
        exact vg_ireturn C hQ d_R_parted_165 rfl (by first | rfl | assumption) (by
          rw [bP_f (fun g => ?_)] at hpost
          · exact hpost
          · obtain ⟨u, u1, u2, u3⟩ := (gd_Gp hA hz).mpr g
            rcases Nat.eq_zero_or_pos u with y | y
            · subst y
              rw [h0] at hbad
              exact hbad u3
            · exact hno u u1 u2 (by omega) u3)
      refine vg_iload C d_R_parted_144 rfl ?_
      refine vg_if_ne (tgt := 153) C d_R_parted_146 (by decide) (fun c_146 => ?_) (fun c_146 => ?_)
      · rw [nI_z (by omega)] at c_146
        refine vg_iload C d_R_parted_153 rfl ?_
        refine vg_iconst (v := 1) C d_R_parted_155 (by decide) ?_
        refine vg_isub C d_R_parted_156 ?_
        rw [nI_p (by omega)]
        refine vg_iload_n C d_R_parted_157 rfl ?_
        refine vg_iand C d_R_parted_158 ?_
        refine vg_istore C d_R_parted_159 (Nat.le_of_ble_eq_true rfl) rfl ?_
        refine vg_goto (tgt := 3) C d_R_parted_161 (by decide) ?_
        first
          | exact KK c_146
          | (rw [(bt64 (s - 1) (by omega) A hA).1]
             have hx := nx_sub A hA s hs hsA c_146
             refine ih ((s - 1) &&& A) (by omega) (by omega) hx.1 (fun u u1 u2 u3 u4 => ?_)
             rcases Nat.lt_trichotomy u s with y | y | y
             · have := nx_max A hA s hs hsA u u1 u2 y
               omega
             · rw [y] at u4
               exact hbad u4
             · exact hno u u1 u2 y u4)
      · rw [nI_z (by omega)] at c_146
        refine vg_iconst (v := (-1)) C d_R_parted_149 (by decide) ?_
        refine vg_goto (tgt := 159) C d_R_parted_150 (by decide) ?_
        refine vg_istore C d_R_parted_159 (Nat.le_of_ble_eq_true rfl) rfl ?_
        refine vg_goto (tgt := 3) C d_R_parted_161 (by decide) ?_
        first
          | exact KK c_146
          | (rw [(bt64 (s - 1) (by omega) A hA).1]
             have hx := nx_sub A hA s hs hsA c_146
             refine ih ((s - 1) &&& A) (by omega) (by omega) hx.1 (fun u u1 u2 u3 u4 => ?_)
             rcases Nat.lt_trichotomy u s with y | y | y
             · have := nx_max A hA s hs hsA u u1 u2 y
               omega
             · rw [y] at u4
               exact hbad u4
             · exact hno u u1 u2 y u4)
    refine vg_iload C d_R_parted_3 rfl ?_
    refine vg_if_lt (tgt := 164) C d_R_parted_5 (by decide) (fun c_5 => absurd c_5 (i32_lt0 (by omega))) (fun _ => ?_)
    refine vg_aload_n C d_R_parted_8 rfl ?_
    refine wr_get C d_R_parted_9 f_R_54 rfl rfl rfl rfl ?_
    refine vg_bipush (v := 64) C d_R_parted_12 (by decide) ?_
    refine vg_iload_n C d_R_parted_14 rfl ?_
    refine vg_imul C d_R_parted_15 ?_
    rw [show (64 : Int32) = nI 64 from rfl, pk_mul]
    refine vg_iload C d_R_parted_16 rfl ?_
    refine vg_iadd C d_R_parted_18 ?_
    rw [nI_add]
    refine wr_lald C d_R_parted_19 rfl rfl (by exact vp_in_nI (by omega) (by decide)) ?_
    rw [nI_clamp (by omega)]
    refine vg_lstore C d_R_parted_20 (Nat.le_of_ble_eq_true rfl) rfl ?_
    refine vg_aload_n C d_R_parted_22 rfl ?_
    refine wr_get C d_R_parted_23 f_R_54 rfl rfl rfl rfl ?_
    refine vg_bipush (v := 64) C d_R_parted_26 (by decide) ?_
    refine vg_iload_n C d_R_parted_28 rfl ?_
    refine vg_imul C d_R_parted_29 ?_
    rw [show (64 : Int32) = nI 64 from rfl, pk_mul]
    refine vg_iload_n C d_R_parted_30 rfl ?_
    refine vg_iadd C d_R_parted_31 ?_
    rw [nI_add]
    refine vg_iload C d_R_parted_32 rfl ?_
    refine vg_isub C d_R_parted_34 ?_
    rw [nI_sb (by omega), show 64 * b + A - s = 64 * b + (A - s) by omega]
    refine wr_lald C d_R_parted_35 rfl rfl (by exact vp_in_nI (by omega) (by decide)) ?_
    rw [nI_clamp (by omega)]
    refine vg_lstore C d_R_parted_36 (Nat.le_of_ble_eq_true rfl) rfl ?_
    refine vg_lload C d_R_parted_38 rfl ?_
    refine vg_lconst (v := 0) C d_R_parted_40 (by decide) ?_
    refine vg_lcmp C d_R_parted_41 ?_
    refine vg_if_eq (tgt := 144) C d_R_parted_42 (by decide) (fun c_42 => ?_) (fun c_42 => ?_)
    · rw [lg_eq] at c_42
      refine vg_lv [2, 3, 4, 5, 6, 7, 8] rfl ?_
      first
        | exact NX (fun ⟨x, _, _, g⟩ => by have := g.2.1; rw [c_42, lb_0] at this; cases this)
        | exact NX (fun ⟨x, _, _, g⟩ => by have := g.2.2; rw [c_49, lb_0] at this; cases this)
    · rw [lg_eq] at c_42
      refine vg_lload C d_R_parted_45 rfl ?_
      refine vg_lconst (v := 0) C d_R_parted_47 (by decide) ?_
      refine vg_lcmp C d_R_parted_48 ?_
      refine vg_if_ne (tgt := 55) C d_R_parted_49 (by decide) (fun c_49 => ?_) (fun c_49 => ?_)
      · rw [lg_eq] at c_49
        refine vg_iload C d_R_parted_55 rfl ?_
        refine vg_istore C d_R_parted_57 (Nat.le_of_ble_eq_true rfl) rfl ?_
        exact lp_R_parted_in hst C hQ ad σ a b A z cut ha hb hA hz s _ _ (fun h => by
            rw [bP_t ((gd_Gp hA hz).mp ⟨s, hs, hsA, h⟩)] at hpost
            exact hpost) NX (z + 1) z (by omega) hz (Nat.and_self z) (fun x x1 x2 x3 => by have := (sb_dj z hz x x1 x2).2.2; omega)
      · rw [lg_eq] at c_49
        refine vg_goto (tgt := 144) C d_R_parted_52 (by decide) ?_
        refine vg_lv [2, 3, 4, 5, 6, 7, 8] rfl ?_
        first
          | exact NX (fun ⟨x, _, _, g⟩ => by have := g.2.1; rw [c_42, lb_0] at this; cases this)
          | exact NX (fun ⟨x, _, _, g⟩ => by have := g.2.2; rw [c_49, lb_0] at this; cases this)
set_option maxHeartbeats 4000000 in
set_option maxRecDepth 100000 in
theorem c_R_parted (Z : vg_Z) (hst : vg_St Z) (ad : Nat → Nat) (σ : sg) (a b A z : Nat) (cut : Bool) (ha : a < 40) (hb : b < 40) (hA : A < 64) (hz : z < 64)  : vg_T Z M_R_parted 0 0 [.ref (ad 117), .int (nI a), .int (nI b), .int (nI A), .int (nI z), .int (bI cut)] (wd Z ad σ) (fun v w => v = some (.int (bP (Gp cut (Mb (σ.2 131) a) (Mb (σ.2 131) b) A z))) ∧ w = wd Z ad σ) := by
  refine vg_enter hst (by decide) rfl (Nat.le_of_ble_eq_true rfl) ?_
  intro G C hQ
  show vg_K Z M_R_parted G 0 0 0 [(0, .ref (ad 117)), (1, .int (nI a)), (2, .int (nI b)), (3, .int (nI A)), (4, .int (nI z)), (5, .int (bI cut))] [] (wd Z ad σ)
  refine vg_iload_n C d_R_parted_0 rfl ?_
  refine vg_istore C d_R_parted_1 (Nat.le_of_ble_eq_true rfl) rfl ?_
  exact lp_R_parted hst C hQ ad σ a b A z cut ha hb hA hz ⟨rfl, rfl⟩ (A + 1) A (by omega) hA (Nat.and_self A) (fun u u1 u2 u3 => by have := (sb_dj A hA u u1 u2).2.2; omega)
