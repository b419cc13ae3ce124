/-! the reference's plain, worked, say -/
/-- what the reference has before a node's rows are filled -/
def CX (σ : sg) (n : Nat) (D : Dc) (nd t : Nat) : Prop := RM σ D nd ∧ t < nd ∧ (∀ a, a < 6 → ∀ v, D.2.1 t a = some v → ∀ p, p < n → σ.1 135 (40 * a + p) = bP (S1 (σ.1 118) (σ.1 119) (σ.1 120) (σ.1 122) (eV (σ.1 118) (σ.1 119) (σ.1 120) v) p)) ∧ ∀ u, t < u → u < nd → ∀ p, p < n → σ.1 132 (40 * u + p) = bP (FU (σ.1 118) (σ.1 119) (σ.1 120) (σ.1 122) D u p)
theorem sr_t : ∀ z, z < 64 → ∀ i, i < 7 → ((nI z >>> (nI i &&& 31)) &&& 1 = 0 ↔ z.testBit i = false) := by decide +kernel
theorem p2_ex : ∀ z, z < 64 → ¬ z = 0 → z &&& (z - 1) = 0 → ∃ i, i < 6 ∧ z = 2 ^ i := by decide +kernel
theorem p2_an : ∀ i, i < 6 → ¬ 2 ^ i = 0 ∧ 2 ^ i &&& (2 ^ i - 1) = 0 := by decide +kernel
theorem p2_inj : ∀ i, i < 6 → ∀ j, j < 6 → 2 ^ i = 2 ^ j → i = j := by decide
theorem p2_tb : ∀ i, i < 6 → ∀ j, j < 6 → ((2 ^ i).testBit j = true ↔ j = i) := by decide +kernel
section PL
variable {σ : sg} {n nd t p A z i : Nat} {H : Nat → Nat} {D : Dc} {F : Nat → Nat → Nat → Prop}
theorem c_sn_ {k f s g : Nat → Int32} (hW : WG k f s g n H) (h : k p = 4 ∨ k p = 5 ∨ k p = 6 ∨ k p = 9) (hp : p < n) : ot s p < n := (Ch_Hg hW hp (Ch_s hW hp h).1 (Ch_s hW hp h).2.2).1
theorem ch_lt (hX : CX σ n D nd t) (hi : i < 6) (hz : z < 2 ^ D.2.2.1 t) (h : z.testBit i = true) : i < D.2.2.1 t := tb_lt hz h
theorem pl_38 (hk : σ.1 118 p = 3 ∨ σ.1 118 p = 8) (hi : i < 6) : bM (σ.1 118) (σ.1 119) (σ.1 120) (σ.1 122) (at9D (σ.1 118) (σ.1 119) (σ.1 120) (σ.1 122) D t) (txD D t) (eD (σ.1 118) (σ.1 119) (σ.1 120) D (FU (σ.1 118) (σ.1 119) (σ.1 120) (σ.1 122) D) t) F p 0 (2 ^ i) ↔ eD (σ.1 118) (σ.1 119) (σ.1 120) D (FU (σ.1 118) (σ.1 119) (σ.1 120) (σ.1 122) D) t p i := by
  have e : bM (σ.1 118) (σ.1 119) (σ.1 120) (σ.1 122) (at9D (σ.1 118) (σ.1 119) (σ.1 120) (σ.1 122) D t) (txD D t) (eD (σ.1 118) (σ.1 119) (σ.1 120) D (FU (σ.1 118) (σ.1 119) (σ.1 120) (σ.1 122) D) t) F p 0 (2 ^ i) ↔ (0 = 0 ∧ ∃ j, j < 6 ∧ 2 ^ i = 2 ^ j ∧ eD (σ.1 118) (σ.1 119) (σ.1 120) D (FU (σ.1 118) (σ.1 119) (σ.1 120) (σ.1 122) D) t p j) := by
    rcases hk with hk | hk
    · exact bM_3 hk
    · exact bM_8 hk
  rw [e]
  constructor
  · rintro ⟨-, j, h1, h2, h3⟩
    cases p2_inj i hi j h1 h2
    exact h3
  · intro h
    exact ⟨rfl, i, hi, rfl, h⟩
theorem pl_38n (hk : σ.1 118 p = 3 ∨ σ.1 118 p = 8) (h : ¬ A = 0 ∨ z = 0 ∨ ¬ z &&& (z - 1) = 0) : ¬ bM (σ.1 118) (σ.1 119) (σ.1 120) (σ.1 122) (at9D (σ.1 118) (σ.1 119) (σ.1 120) (σ.1 122) D t) (txD D t) (eD (σ.1 118) (σ.1 119) (σ.1 120) D (FU (σ.1 118) (σ.1 119) (σ.1 120) (σ.1 122) D) t) F p A z := by
  have e : bM (σ.1 118) (σ.1 119) (σ.1 120) (σ.1 122) (at9D (σ.1 118) (σ.1 119) (σ.1 120) (σ.1 122) D t) (txD D t) (eD (σ.1 118) (σ.1 119) (σ.1 120) D (FU (σ.1 118) (σ.1 119) (σ.1 120) (σ.1 122) D) t) F p A z → (A = 0 ∧ ∃ j, j < 6 ∧ z = 2 ^ j ∧ eD (σ.1 118) (σ.1 119) (σ.1 120) D (FU (σ.1 118) (σ.1 119) (σ.1 120) (σ.1 122) D) t p j) := by
    rcases hk with hk | hk
    · exact (bM_3 hk).mp
    · exact (bM_8 hk).mp
  intro g
  obtain ⟨g1, j, g2, g3, -⟩ := e g
  obtain ⟨q1, q2⟩ := p2_an j g2
  rw [g3] at h
  rcases h with h | h | h
  · exact h g1
  · exact q1 h
  · exact h q2
theorem eD_t (hi : i < D.2.2.1 t) (hk : σ.1 118 p = 3 ∨ σ.1 118 p = 8) (hc : D.2.2.2.1 t i = none) : eD (σ.1 118) (σ.1 119) (σ.1 120) D (FU (σ.1 118) (σ.1 119) (σ.1 120) (σ.1 122) D) t p i ↔ eV (σ.1 118) (σ.1 119) (σ.1 120) (D.2.2.2.2 t i) p := by
  constructor
  · rintro ⟨-, ⟨h1, -, h2⟩ | ⟨-, u, h2, -⟩⟩
    · exact Or.inr ⟨h1, h2⟩
    · rw [hc] at h2
      cases h2
  · rintro (h | ⟨h1, h2⟩)
    · rcases hk with hk | hk <;> exact absurd (hk.symm.trans h) (by decide)
    · exact ⟨hi, Or.inl ⟨h1, hc, h2⟩⟩
theorem eD_n (hG : GrR σ n H) (hp : p < n) (hX : CX σ n D nd t) (hi : i < D.2.2.1 t) (hk : σ.1 118 p = 3 ∨ σ.1 118 p = 8) {u : Nat} (hc : D.2.2.2.1 t i = some u) : eD (σ.1 118) (σ.1 119) (σ.1 120) D (FU (σ.1 118) (σ.1 119) (σ.1 120) (σ.1 122) D) t p i ↔ eNr σ u p := by
  obtain ⟨hM, ht, -, hF⟩ := hX
  have hu := (hM.1.2 t ht).2 i hi u hc
  have hn := hG.1.1.1
  have key : σ.1 118 p = 8 → (¬ σ.1 132 (40 * u + ot (σ.1 120) p) = 0 ↔ FU (σ.1 118) (σ.1 119) (σ.1 120) (σ.1 122) D u (ot (σ.1 120) p)) := fun h8 => by
    obtain ⟨c, c1, c2, -⟩ := (hG.1.1.2 p hp).2.1 (Or.inr (Or.inr (Or.inr (Or.inl h8))))
    rw [ot_e (by omega) c2, hF u hu.1 hu.2 c c1, bP_n0]
  unfold eNr
  rw [(hM.2.2 u hu.2).1]
  constructor
  · rintro ⟨-, ⟨h1, h2, -⟩ | ⟨h1, u2, h2, h3, h4⟩⟩
    · rw [hc] at h2
      cases h2
    · rw [hc] at h2
      cases h2
      exact ⟨h1, h3, (key h1).mpr h4⟩
  · rintro ⟨h1, h2, h3⟩
    exact ⟨hi, Or.inr ⟨h1, u, hc, h2, (key h1).mp h3⟩⟩
theorem pl_2 (hX : CX σ n D nd t) (hk : σ.1 118 p = 2) (hz64 : z < 64) (hz : z < 2 ^ D.2.2.1 t) : bM (σ.1 118) (σ.1 119) (σ.1 120) (σ.1 122) (at9D (σ.1 118) (σ.1 119) (σ.1 120) (σ.1 122) D t) (txD D t) (eD (σ.1 118) (σ.1 119) (σ.1 120) D (FU (σ.1 118) (σ.1 119) (σ.1 120) (σ.1 122) D) t) F p A z ↔ A = 0 ∧ ∀ i, i < 6 → z.testBit i = true → σ.1 128 (6 * t + i) < 0 := by
  obtain ⟨hM, ht, -, -⟩ := hX
  rw [bM_2 hk]
  have key : ∀ i, i < 6 → z.testBit i = true → (txD D t i ↔ σ.1 128 (6 * t + i) < 0) := fun i hi hb => by
    have hic := tb_lt hz hb
    rcases (hM.2.2 t ht).2.2.2 i hic with ⟨c1, c2, -⟩ | ⟨u, c1, c2, c3⟩
    · rw [c2]
      exact ⟨fun _ => by decide, fun _ => ⟨hic, c1⟩⟩
    · rw [c3]
      exact ⟨fun h => (by rw [h.2] at c1; cases c1), fun h => absurd h (i32_lt0 (by have := hM.1.1; omega))⟩
  exact and_congr_right fun _ => ⟨fun h i hi hb => (key i hi hb).mp (h.2 i hi hb), fun h => ⟨hz64, fun i hi hb => (key i hi hb).mpr (h i hi hb)⟩⟩
theorem pl_9n (hk : σ.1 118 p = 9) (h : ¬ z = 0 ∨ A = 0 ∨ ¬ A &&& (A - 1) = 0) : ¬ bM (σ.1 118) (σ.1 119) (σ.1 120) (σ.1 122) (at9D (σ.1 118) (σ.1 119) (σ.1 120) (σ.1 122) D t) (txD D t) (eD (σ.1 118) (σ.1 119) (σ.1 120) D (FU (σ.1 118) (σ.1 119) (σ.1 120) (σ.1 122) D) t) F p A z := by
  intro g
  obtain ⟨g1, j, g2, g3, -⟩ := (bM_9 hk).mp g
  obtain ⟨q1, q2⟩ := p2_an j g2
  rw [g3] at h
  rcases h with h | h | h
  · exact h g1
  · exact q1 h
  · exact h q2
theorem pl_9 (hG : GrR σ n H) (hp : p < n) (hX : CX σ n D nd t) (hk : σ.1 118 p = 9) (hi : i < 6) (hm : 2 ^ i &&& mk D t 6 = 2 ^ i) : bM (σ.1 118) (σ.1 119) (σ.1 120) (σ.1 122) (at9D (σ.1 118) (σ.1 119) (σ.1 120) (σ.1 122) D t) (txD D t) (eD (σ.1 118) (σ.1 119) (σ.1 120) D (FU (σ.1 118) (σ.1 119) (σ.1 120) (σ.1 122) D) t) F p (2 ^ i) 0 ↔ (σ.1 119 p = 6 ∨ σ.1 119 p = nI i) ∧ ¬ σ.1 135 (40 * i + ot (σ.1 120) p) = 0 := by
  obtain ⟨hM, ht, hA, -⟩ := hX
  have hs := (c_sn_ hG.1.1 (p := p) (Or.inr (Or.inr (Or.inr hk))) hp)
  have hb : (mk D t 6).testBit i = true := by
    have : (2 ^ i &&& mk D t 6).testBit i = true := by rw [hm]; exact (p2_tb i hi i hi).mpr rfl
    exact (tb_and.mp this).2
  obtain ⟨-, h0⟩ := (mk_b D t i 6).mp hb
  obtain ⟨v, hv⟩ : ∃ v, D.2.1 t i = some v := by
    cases h : D.2.1 t i with
    | none => exact absurd h h0
    | some v => exact ⟨v, rfl⟩
  rw [bM_9 hk, hA i hi v hv _ hs, bP_n0]
  constructor
  · rintro ⟨-, j, h1, h2, h3, w, h4, -, h5⟩
    cases p2_inj i hi j h1 h2
    rw [hv] at h4
    cases h4
    exact ⟨h3, h5⟩
  · rintro ⟨h1, h2⟩
    exact ⟨rfl, i, hi, rfl, h1, v, hv, hi, h2⟩
end PL
set_option maxHeartbeats 4000000 in
set_option maxRecDepth 100000 in
theorem lp_R_plain_2 {Z : vg_Z} (hst : vg_St Z) {G : vg_G} {post : Option Value → va_W → Prop} (C : vg_C Z M_R_plain G) (hQ : vg_Rt Z G 0 0 post) (ad : Nat → Nat) (σ : sg) (n : Nat) (H : Nat → Nat) (hG : GrR σ n H) (D : Dc) (nd t : Nat) (hX : CX σ n D nd t) (p : Nat) (hp : p < n) (A z : Nat) (hA : A < 64) (hAm : A &&& mk D t 6 = A) (hz : z < 2 ^ D.2.2.1 t) (F : Nat → Nat → Nat → Prop) (hpost : post (some (.int (bP (bM (σ.1 118) (σ.1 119) (σ.1 120) (σ.1 122) (at9D (σ.1 118) (σ.1 119) (σ.1 120) (σ.1 122) D t) (txD D t) (eD (σ.1 118) (σ.1 119) (σ.1 120) D (FU (σ.1 118) (σ.1 119) (σ.1 120) (σ.1 122) D) t) F p A z)))) (wd Z ad σ)) (hk : σ.1 118 p = 2) : ∀ (n2 i : Nat) (hlt : 6 < i + n2) (hi : i ≤ 6), (∀ j, j < i → z.testBit j = true → σ.1 128 (6 * t + j) < 0) → vg_K Z M_R_plain G 0 0 82 [(6, .int (nI i)), (0, .ref (ad 117)), (1, .int (nI p)), (2, .int (nI t)), (3, .int (nI A)), (4, .int (nI z))] [] (wd Z ad σ) := by
  have hn := hG.1.1.1
  have hnd := hX.1.1.1
  have ht := hX.2.1
  have hc6 := (hX.1.1.2 t ht).1
  have hz64 : z < 64 := Nat.lt_of_lt_of_le hz (Nat.pow_le_pow_right (n := 2) (by decide) hc6)
  intro n2
  induction n2 with
  | zero =>
    intro i hlt hi
    exact absurd hlt (by omega)
  | succ n2 ih =>
    intro i hlt hi hno
    refine vg_iload C d_R_plain_82 rfl ?_
    refine vg_bipush (v := 6) C d_R_plain_84 (by decide) ?_
    refine vg_icmp_ge (tgt := 122) C d_R_plain_86 (by decide) (fun c_86 => ?_) (fun c_86 => ?_)
    · rw [show (6 : Int32) = nI 6 from rfl, nI_leI (by omega) (by omega)] at c_86
      refine vg_iload_n C d_R_plain_122 rfl ?_
      refine vg_if_ne (tgt := 130) C d_R_plain_123 (by decide) (fun c_123 => ?_) (fun c_123 => ?_)
      · rw [nI_z (by omega)] at c_123
        refine vg_iconst (v := 0) C d_R_plain_130 (by decide) ?_
        exact vg_ireturn C hQ d_R_plain_131 rfl (by first | rfl | assumption) (by first | (rw [bP_t ((pl_2 hX hk hz64 hz).mpr (And.intro c_123 (fun j hj => hno j (by omega))))] at hpost; exact hpost) | (rw [bP_f (fun g => c_123 ((pl_2 hX hk hz64 hz).mp g).1)] at hpost; exact hpost))
      · rw [nI_z (by omega)] at c_123
        refine vg_iconst (v := 1) C d_R_plain_126 (by decide) ?_
        refine vg_goto (tgt := 131) C d_R_plain_127 (by decide) ?_
        exact vg_ireturn C hQ d_R_plain_131 rfl (by first | rfl | assumption) (by first | (rw [bP_t ((pl_2 hX hk hz64 hz).mpr (And.intro c_123 (fun j hj => hno j (by omega))))] at hpost; exact hpost) | (rw [bP_f (fun g => c_123 ((pl_2 hX hk hz64 hz).mp g).1)] at hpost; exact hpost))
    · rw [show (6 : Int32) = nI 6 from rfl, nI_leI (by omega) (by omega)] at c_86
      refine vg_iload C d_R_plain_89 rfl ?_
      refine vg_iload C d_R_plain_91 rfl ?_
      refine vg_ishr C d_R_plain_93 ?_
      refine vg_iconst (v := 1) C d_R_plain_94 (by decide) ?_
      refine vg_iand C d_R_plain_95 ?_
      refine vg_if_eq (tgt := 116) C d_R_plain_96 (by decide) (fun c_96 => ?_) (fun c_96 => ?_)
      · rw [sr_t z hz64 i (by omega)] at c_96
        refine vg_iinc (v := nI (i + 1)) C d_R_plain_116 rfl (nI_1 i) (Nat.le_of_ble_eq_true rfl) rfl ?_
        refine vg_goto (tgt := 82) C d_R_plain_119 (by decide) ?_
        first
          | exact ih (i + 1) (by omega) (by omega) (lt_s hno (fun h => absurd h (by rw [c_96]; decide)))
          | exact ih (i + 1) (by omega) (by omega) (lt_s hno (fun _ => c_111))
      · rw [sr_t z hz64 i (by omega)] at c_96
        refine vg_aload_n C d_R_plain_99 rfl ?_
        refine wr_get C d_R_plain_100 f_R_41 rfl rfl rfl rfl ?_
        refine vg_bipush (v := 6) C d_R_plain_103 (by decide) ?_
        refine vg_iload_n C d_R_plain_105 rfl ?_
        refine vg_imul C d_R_plain_106 ?_
        rw [show (6 : Int32) = nI 6 from rfl, pk_mul]
        refine vg_iload C d_R_plain_107 rfl ?_
        refine vg_iadd C d_R_plain_109 ?_
        rw [nI_add]
        refine wr_iald C d_R_plain_110 rfl rfl (by exact vp_in_nI (by omega) (by decide)) ?_
        rw [nI_clamp (by omega)]
        refine vg_if_lt (tgt := 116) C d_R_plain_111 (by decide) (fun c_111 => ?_) (fun c_111 => ?_)
        · skip
          refine vg_iinc (v := nI (i + 1)) C d_R_plain_116 rfl (nI_1 i) (Nat.le_of_ble_eq_true rfl) rfl ?_
          refine vg_goto (tgt := 82) C d_R_plain_119 (by decide) ?_
          first
            | exact ih (i + 1) (by omega) (by omega) (lt_s hno (fun h => absurd h (by rw [c_96]; decide)))
            | exact ih (i + 1) (by omega) (by omega) (lt_s hno (fun _ => c_111))
        · skip
          refine vg_iconst (v := 0) C d_R_plain_114 (by decide) ?_
          exact vg_ireturn C hQ d_R_plain_115 rfl (by first | rfl | assumption) (by rw [bP_f (fun g => c_111 (((pl_2 hX hk hz64 hz).mp g).2 i (by omega) (ts_nf c_96)))] at hpost; exact hpost)
set_option maxHeartbeats 4000000 in
set_option maxRecDepth 100000 in
theorem lp_R_plain_3 {Z : vg_Z} (hst : vg_St Z) {G : vg_G} {post : Option Value → va_W → Prop} (C : vg_C Z M_R_plain G) (hQ : vg_Rt Z G 0 0 post) (ad : Nat → Nat) (σ : sg) (n : Nat) (H : Nat → Nat) (hG : GrR σ n H) (D : Dc) (nd t : Nat) (hX : CX σ n D nd t) (p : Nat) (hp : p < n) (A z : Nat) (hA : A < 64) (hAm : A &&& mk D t 6 = A) (hz : z < 2 ^ D.2.2.1 t) (F : Nat → Nat → Nat → Prop) (hpost : post (some (.int (bP (bM (σ.1 118) (σ.1 119) (σ.1 120) (σ.1 122) (at9D (σ.1 118) (σ.1 119) (σ.1 120) (σ.1 122) D t) (txD D t) (eD (σ.1 118) (σ.1 119) (σ.1 120) D (FU (σ.1 118) (σ.1 119) (σ.1 120) (σ.1 122) D) t) F p A z)))) (wd Z ad σ)) (hk : σ.1 118 p = 3 ∨ σ.1 118 p = 8) (i : Nat) (hi : i < 6) (hA0 : A = 0) (hzi : z = 2 ^ i) : ∀ (n2 j : Nat) (hlt : i < j + n2) (hj : j ≤ i), vg_K Z M_R_plain G 0 0 153 [(5, .int (nI j)), (0, .ref (ad 117)), (1, .int (nI p)), (2, .int (nI t)), (3, .int (nI A)), (4, .int (nI z))] [] (wd Z ad σ) := by
  have hn := hG.1.1.1
  have hnd := hX.1.1.1
  have ht := hX.2.1
  have hc6 := (hX.1.1.2 t ht).1
  have hz64 : z < 64 := Nat.lt_of_lt_of_le hz (Nat.pow_le_pow_right (n := 2) (by decide) hc6)
  have hic : i < D.2.2.1 t := tb_lt hz (by rw [hzi]; exact (p2_tb i hi i hi).mpr rfl)
  intro n2
  induction n2 with
  | zero =>
    intro j hlt hj
    exact absurd hlt (by omega)
  | succ n2 ih =>
    intro j hlt hj
    refine vg_iload C d_R_plain_153 rfl ?_
    refine vg_iload C d_R_plain_155 rfl ?_
    refine vg_ishr C d_R_plain_157 ?_
    refine vg_iconst (v := 1) C d_R_plain_158 (by decide) ?_
    refine vg_iand C d_R_plain_159 ?_
    refine vg_if_ne (tgt := 169) C d_R_plain_160 (by decide) (fun c_160 => ?_) (fun c_160 => ?_)
    · rw [sr_t z hz64 j (by omega)] at c_160
      have hji : j = i := (p2_tb i hi j (by omega)).mp (by rw [← hzi]; exact ts_nf c_160)
      subst hji
      rcases (hX.1.2.2 t ht).2.2.2 j hic with ⟨c1, c2, c3⟩ | ⟨u, c1, c2, c3⟩
      · skip
        refine vg_aload_n C d_R_plain_169 rfl ?_
        refine vg_iload_n C d_R_plain_170 rfl ?_
        refine vg_aload_n C d_R_plain_171 rfl ?_
        refine wr_get C d_R_plain_172 f_R_41 rfl rfl rfl rfl ?_
        refine vg_bipush (v := 6) C d_R_plain_175 (by decide) ?_
        refine vg_iload_n C d_R_plain_177 rfl ?_
        refine vg_imul C d_R_plain_178 ?_
        rw [show (6 : Int32) = nI 6 from rfl, pk_mul]
        refine vg_iload C d_R_plain_179 rfl ?_
        refine vg_iadd C d_R_plain_181 ?_
        rw [nI_add]
        refine wr_iald C d_R_plain_182 rfl rfl (by exact vp_in_nI (by omega) (by decide)) ?_
        rw [nI_clamp (by omega), c2]
        refine vg_aload_n C d_R_plain_183 rfl ?_
        refine wr_get C d_R_plain_184 f_R_44 rfl rfl rfl rfl ?_
        refine vg_bipush (v := 6) C d_R_plain_187 (by decide) ?_
        refine vg_iload_n C d_R_plain_189 rfl ?_
        refine vg_imul C d_R_plain_190 ?_
        rw [show (6 : Int32) = nI 6 from rfl, pk_mul]
        refine vg_iload C d_R_plain_191 rfl ?_
        refine vg_iadd C d_R_plain_193 ?_
        rw [nI_add]
        refine wr_iald C d_R_plain_194 rfl rfl (by exact vp_in_nI (by omega) (by decide)) ?_
        rw [nI_clamp (by omega), c3]
        refine wr_callV (As := [_, _, _]) C (c_R_oneT Z hst ad σ p (by omega) (D.2.2.2.2 t j)) l_R_plain_R_one k_R_98 rfl rfl rfl rfl rfl (Nat.le_of_ble_eq_true rfl) d_R_plain_195 ⟨Nat.le_of_ble_eq_true rfl, Nat.le_of_ble_eq_true rfl⟩ (fun v_195 w_195 h_195 => ?_)
        obtain ⟨rfl, rfl⟩ := h_195
        exact vg_ireturn C hQ d_R_plain_198 rfl (by exact bP_nar _) (by rw [hA0, hzi, bP_congr (pl_38 hk hi), bP_congr (eD_t hic hk c1)] at hpost; exact hpost)
      · skip
        refine vg_aload_n C d_R_plain_169 rfl ?_
        refine vg_iload_n C d_R_plain_170 rfl ?_
        refine vg_aload_n C d_R_plain_171 rfl ?_
        refine wr_get C d_R_plain_172 f_R_41 rfl rfl rfl rfl ?_
        refine vg_bipush (v := 6) C d_R_plain_175 (by decide) ?_
        refine vg_iload_n C d_R_plain_177 rfl ?_
        refine vg_imul C d_R_plain_178 ?_
        rw [show (6 : Int32) = nI 6 from rfl, pk_mul]
        refine vg_iload C d_R_plain_179 rfl ?_
        refine vg_iadd C d_R_plain_181 ?_
        rw [nI_add]
        refine wr_iald C d_R_plain_182 rfl rfl (by exact vp_in_nI (by omega) (by decide)) ?_
        rw [nI_clamp (by omega), c3]
        refine vg_aload_n C d_R_plain_183 rfl ?_
        refine wr_get C d_R_plain_184 f_R_44 rfl rfl rfl rfl ?_
        refine vg_bipush (v := 6) C d_R_plain_187 (by decide) ?_
        refine vg_iload_n C d_R_plain_189 rfl ?_
        refine vg_imul C d_R_plain_190 ?_
        rw [show (6 : Int32) = nI 6 from rfl, pk_mul]
        refine vg_iload C d_R_plain_191 rfl ?_
        refine vg_iadd C d_R_plain_193 ?_
        rw [nI_add]
        refine wr_iald C d_R_plain_194 rfl rfl (by exact vp_in_nI (by omega) (by decide)) ?_
        rw [nI_clamp (by omega)]
        refine wr_callV (As := [_, _, _]) C (c_R_oneN Z hst ad σ p (by omega) u (by omega) _ (fun h8 => by obtain ⟨c, d1, d2, -⟩ := (hG.1.1.2 p hp).2.1 (Or.inr (Or.inr (Or.inr (Or.inl h8)))); exact ⟨c, by omega, d2⟩)) l_R_plain_R_one k_R_98 rfl rfl rfl rfl rfl (Nat.le_of_ble_eq_true rfl) d_R_plain_195 ⟨Nat.le_of_ble_eq_true rfl, Nat.le_of_ble_eq_true rfl⟩ (fun v_195 w_195 h_195 => ?_)
        obtain ⟨rfl, rfl⟩ := h_195
        exact vg_ireturn C hQ d_R_plain_198 rfl (by exact bP_nar _) (by rw [hA0, hzi, bP_congr (pl_38 hk hi), bP_congr (eD_n hG hp hX hic hk c1)] at hpost; exact hpost)
    · rw [sr_t z hz64 j (by omega)] at c_160
      refine vg_iinc (v := nI (j + 1)) C d_R_plain_163 rfl (nI_1 j) (Nat.le_of_ble_eq_true rfl) rfl ?_
      refine vg_goto (tgt := 153) C d_R_plain_166 (by decide) ?_
      exact ih (j + 1) (by omega) (by have : ¬ j = i := fun e => (by rw [e, hzi, (p2_tb i hi i hi).mpr rfl] at c_160; cases c_160); omega)
set_option maxHeartbeats 4000000 in
set_option maxRecDepth 100000 in
theorem lp_R_plain_9 {Z : vg_Z} (hst : vg_St Z) {G : vg_G} {post : Option Value → va_W → Prop} (C : vg_C Z M_R_plain G) (hQ : vg_Rt Z G 0 0 post) (ad : Nat → Nat) (σ : sg) (n : Nat) (H : Nat → Nat) (hG : GrR σ n H) (D : Dc) (nd t : Nat) (hX : CX σ n D nd t) (p : Nat) (hp : p < n) (A z : Nat) (hA : A < 64) (hAm : A &&& mk D t 6 = A) (hz : z < 2 ^ D.2.2.1 t) (F : Nat → Nat → Nat → Prop) (hpost : post (some (.int (bP (bM (σ.1 118) (σ.1 119) (σ.1 120) (σ.1 122) (at9D (σ.1 118) (σ.1 119) (σ.1 120) (σ.1 122) D t) (txD D t) (eD (σ.1 118) (σ.1 119) (σ.1 120) D (FU (σ.1 118) (σ.1 119) (σ.1 120) (σ.1 122) D) t) F p A z)))) (wd Z ad σ)) (hk : σ.1 118 p = 9) (i : Nat) (hi : i < 6) (hAi : A = 2 ^ i) (hz0 : z = 0) : ∀ (n2 j : Nat) (hlt : i < j + n2) (hj : j ≤ i), vg_K Z M_R_plain G 0 0 218 [(5, .int (nI j)), (0, .ref (ad 117)), (1, .int (nI p)), (2, .int (nI t)), (3, .int (nI A)), (4, .int (nI z))] [] (wd Z ad σ) := by
  have hn := hG.1.1.1
  have hnd := hX.1.1.1
  have ht := hX.2.1
  have hc6 := (hX.1.1.2 t ht).1
  have hz64 : z < 64 := Nat.lt_of_lt_of_le hz (Nat.pow_le_pow_right (n := 2) (by decide) hc6)
  have hb : bM (σ.1 118) (σ.1 119) (σ.1 120) (σ.1 122) (at9D (σ.1 118) (σ.1 119) (σ.1 120) (σ.1 122) D t) (txD D t) (eD (σ.1 118) (σ.1 119) (σ.1 120) D (FU (σ.1 118) (σ.1 119) (σ.1 120) (σ.1 122) D) t) F p A z ↔ (σ.1 119 p = 6 ∨ σ.1 119 p = nI i) ∧ ¬ σ.1 135 (40 * i + ot (σ.1 120) p) = 0 := by rw [hAi, hz0]; exact pl_9 hG hp hX hk hi (by rw [← hAi]; exact hAm)
  obtain ⟨cb, eb, -⟩ := Ch_s hG.1.1 hp (Or.inr (Or.inr (Or.inr hk)))
  intro n2
  induction n2 with
  | zero =>
    intro j hlt hj
    exact absurd hlt (by omega)
  | succ n2 ih =>
    intro j hlt hj
    refine vg_iload_n C d_R_plain_218 rfl ?_
    refine vg_iload C d_R_plain_219 rfl ?_
    refine vg_ishr C d_R_plain_221 ?_
    refine vg_iconst (v := 1) C d_R_plain_222 (by decide) ?_
    refine vg_iand C d_R_plain_223 ?_
    refine vg_if_ne (tgt := 233) C d_R_plain_224 (by decide) (fun c_224 => ?_) (fun c_224 => ?_)
    · rw [sr_t A hA j (by omega)] at c_224
      have hji : j = i := (p2_tb i hi j (by omega)).mp (by rw [← hAi]; exact ts_nf c_224)
      subst hji
      refine vg_aload_n C d_R_plain_233 rfl ?_
      refine wr_get C d_R_plain_234 f_R_13 rfl rfl rfl rfl ?_
      refine vg_iload_n C d_R_plain_237 rfl ?_
      refine wr_iald C d_R_plain_238 rfl rfl (by exact vp_in_nI (by omega) (by decide)) ?_
      rw [nI_clamp (by omega)]
      refine vg_bipush (v := 6) C d_R_plain_239 (by decide) ?_
      refine vg_icmp_eq (tgt := 255) C d_R_plain_241 (by decide) (fun c_241 => ?_) (fun c_241 => ?_)
      · skip
        refine vg_aload_n C d_R_plain_255 rfl ?_
        refine wr_get C d_R_plain_256 f_R_67 rfl rfl rfl rfl ?_
        refine vg_bipush (v := 40) C d_R_plain_259 (by decide) ?_
        refine vg_iload C d_R_plain_261 rfl ?_
        refine vg_imul C d_R_plain_263 ?_
        rw [show (40 : Int32) = nI 40 from rfl, pk_mul]
        refine vg_aload_n C d_R_plain_264 rfl ?_
        refine wr_get C d_R_plain_265 f_R_16 rfl rfl rfl rfl ?_
        refine vg_iload_n C d_R_plain_268 rfl ?_
        refine wr_iald C d_R_plain_269 rfl rfl (by exact vp_in_nI (by omega) (by decide)) ?_
        rw [nI_clamp (by omega), eb]
        refine vg_iadd C d_R_plain_270 ?_
        rw [nI_add]
        refine wr_zald C d_R_plain_271 rfl rfl (by exact vp_in_nI (by omega) (by decide)) ?_
        rw [nI_clamp (by omega)]
        refine vg_if_eq (tgt := 279) C d_R_plain_272 (by decide) (fun c_272 => ?_) (fun c_272 => ?_)
        · skip
          refine vg_iconst (v := 0) C d_R_plain_279 (by decide) ?_
          exact vg_ireturn C hQ d_R_plain_280 rfl (by first | rfl | assumption) (by first
          | (rw [bP_t (hb.mpr (And.intro (Or.inl c_241) c_272))] at hpost; exact hpost)
          | (rw [bP_t (hb.mpr (And.intro (Or.inr c_252) c_272))] at hpost; exact hpost)
          | (rw [bP_f (fun g => (hb.mp g).2 c_272)] at hpost; exact hpost)
          | (rw [bP_f (fun g => (hb.mp g).1.elim c_241 c_252)] at hpost; exact hpost))
        · skip
          refine vg_iconst (v := 1) C d_R_plain_275 (by decide) ?_
          refine vg_goto (tgt := 280) C d_R_plain_276 (by decide) ?_
          exact vg_ireturn C hQ d_R_plain_280 rfl (by first | rfl | assumption) (by first
          | (rw [bP_t (hb.mpr (And.intro (Or.inl c_241) c_272))] at hpost; exact hpost)
          | (rw [bP_t (hb.mpr (And.intro (Or.inr c_252) c_272))] at hpost; exact hpost)
          | (rw [bP_f (fun g => (hb.mp g).2 c_272)] at hpost; exact hpost)
          | (rw [bP_f (fun g => (hb.mp g).1.elim c_241 c_252)] at hpost; exact hpost))
      · skip
        refine vg_aload_n C d_R_plain_244 rfl ?_
        refine wr_get C d_R_plain_245 f_R_13 rfl rfl rfl rfl ?_
        refine vg_iload_n C d_R_plain_248 rfl ?_
        refine wr_iald C d_R_plain_249 rfl rfl (by exact vp_in_nI (by omega) (by decide)) ?_
        rw [nI_clamp (by omega)]
        refine vg_iload C d_R_plain_250 rfl ?_
        refine vg_icmp_ne (tgt := 279) C d_R_plain_252 (by decide) (fun c_252 => ?_) (fun c_252 => ?_)
        · skip
          refine vg_iconst (v := 0) C d_R_plain_279 (by decide) ?_
          exact vg_ireturn C hQ d_R_plain_280 rfl (by first | rfl | assumption) (by first
          | (rw [bP_t (hb.mpr (And.intro (Or.inl c_241) c_272))] at hpost; exact hpost)
          | (rw [bP_t (hb.mpr (And.intro (Or.inr c_252) c_272))] at hpost; exact hpost)
          | (rw [bP_f (fun g => (hb.mp g).2 c_272)] at hpost; exact hpost)
          | (rw [bP_f (fun g => (hb.mp g).1.elim c_241 c_252)] at hpost; exact hpost))
        · skip
          refine vg_aload_n C d_R_plain_255 rfl ?_
          refine wr_get C d_R_plain_256 f_R_67 rfl rfl rfl rfl ?_
          refine vg_bipush (v := 40) C d_R_plain_259 (by decide) ?_
          refine vg_iload C d_R_plain_261 rfl ?_
          refine vg_imul C d_R_plain_263 ?_
          rw [show (40 : Int32) = nI 40 from rfl, pk_mul]
          refine vg_aload_n C d_R_plain_264 rfl ?_
          refine wr_get C d_R_plain_265 f_R_16 rfl rfl rfl rfl ?_
          refine vg_iload_n C d_R_plain_268 rfl ?_
          refine wr_iald C d_R_plain_269 rfl rfl (by exact vp_in_nI (by omega) (by decide)) ?_
          rw [nI_clamp (by omega), eb]
          refine vg_iadd C d_R_plain_270 ?_
          rw [nI_add]
          refine wr_zald C d_R_plain_271 rfl rfl (by exact vp_in_nI (by omega) (by decide)) ?_
          rw [nI_clamp (by omega)]
          refine vg_if_eq (tgt := 279) C d_R_plain_272 (by decide) (fun c_272 => ?_) (fun c_272 => ?_)
          · skip
            refine vg_iconst (v := 0) C d_R_plain_279 (by decide) ?_
            exact vg_ireturn C hQ d_R_plain_280 rfl (by first | rfl | assumption) (by first
          | (rw [bP_t (hb.mpr (And.intro (Or.inl c_241) c_272))] at hpost; exact hpost)
          | (rw [bP_t (hb.mpr (And.intro (Or.inr c_252) c_272))] at hpost; exact hpost)
          | (rw [bP_f (fun g => (hb.mp g).2 c_272)] at hpost; exact hpost)
          | (rw [bP_f (fun g => (hb.mp g).1.elim c_241 c_252)] at hpost; exact hpost))
          · skip
            refine vg_iconst (v := 1) C d_R_plain_275 (by decide) ?_
            refine vg_goto (tgt := 280) C d_R_plain_276 (by decide) ?_
            exact vg_ireturn C hQ d_R_plain_280 rfl (by first | rfl | assumption) (by first
          | (rw [bP_t (hb.mpr (And.intro (Or.inl c_241) c_272))] at hpost; exact hpost)
          | (rw [bP_t (hb.mpr (And.intro (Or.inr c_252) c_272))] at hpost; exact hpost)
          | (rw [bP_f (fun g => (hb.mp g).2 c_272)] at hpost; exact hpost)
          | (rw [bP_f (fun g => (hb.mp g).1.elim c_241 c_252)] at hpost; exact hpost))
    · rw [sr_t A hA j (by omega)] at c_224
      refine vg_iinc (v := nI (j + 1)) C d_R_plain_227 rfl (nI_1 j) (Nat.le_of_ble_eq_true rfl) rfl ?_
      refine vg_goto (tgt := 218) C d_R_plain_230 (by decide) ?_
      exact ih (j + 1) (by omega) (by have : ¬ j = i := fun e => (by rw [e, hAi, (p2_tb i hi i hi).mpr rfl] at c_224; cases c_224); omega)
set_option maxHeartbeats 4000000 in
set_option maxRecDepth 100000 in
theorem c_R_plain (Z : vg_Z) (hst : vg_St Z) (ad : Nat → Nat) (σ : sg) (n : Nat) (H : Nat → Nat) (hG : GrR σ n H) (D : Dc) (nd t : Nat) (hX : CX σ n D nd t) (p : Nat) (hp : p < n) (A z : Nat) (hA : A < 64) (hAm : A &&& mk D t 6 = A) (hz : z < 2 ^ D.2.2.1 t) (F : Nat → Nat → Nat → Prop) (hkk : nk (σ.1 118) p ∨ σ.1 118 p = 9)  : vg_T Z M_R_plain 0 0 [.ref (ad 117), .int (nI p), .int (nI t), .int (nI A), .int (nI z)] (wd Z ad σ) (fun v w => v = some (.int (bP (bM (σ.1 118) (σ.1 119) (σ.1 120) (σ.1 122) (at9D (σ.1 118) (σ.1 119) (σ.1 120) (σ.1 122) D t) (txD D t) (eD (σ.1 118) (σ.1 119) (σ.1 120) D (FU (σ.1 118) (σ.1 119) (σ.1 120) (σ.1 122) D) t) F p A z))) ∧ w = wd Z ad σ) := by
  refine vg_enter hst (by decide) rfl (Nat.le_of_ble_eq_true rfl) ?_
  intro G C hQ
  show vg_K Z M_R_plain G 0 0 0 [(0, .ref (ad 117)), (1, .int (nI p)), (2, .int (nI t)), (3, .int (nI A)), (4, .int (nI z))] [] (wd Z ad σ)
  have hn := hG.1.1.1
  have hnd := hX.1.1.1
  have ht := hX.2.1
  have hc6 := (hX.1.1.2 t ht).1
  have hz64 : z < 64 := Nat.lt_of_lt_of_le hz (Nat.pow_le_pow_right (n := 2) (by decide) hc6)
  refine vg_iconst (v := 0) C d_R_plain_0 (by decide) ?_
  refine vg_istore C d_R_plain_1 (Nat.le_of_ble_eq_true rfl) rfl ?_
  refine vg_aload_n C d_R_plain_3 rfl ?_
  refine wr_get C d_R_plain_4 f_R_7 rfl rfl rfl rfl ?_
  refine vg_iload_n C d_R_plain_7 rfl ?_
  refine wr_iald C d_R_plain_8 rfl rfl (by exact vp_in_nI (by omega) (by decide)) ?_
  rw [nI_clamp (by omega)]
  obtain ⟨j_9, hj_9, es_9⟩ := hG.1.2 p hp
  rcases (show j_9 = 0 ∨ j_9 = 1 ∨ j_9 = 2 ∨ j_9 = 3 ∨ j_9 = 4 ∨ j_9 = 5 ∨ j_9 = 6 ∨ j_9 = 7 ∨ j_9 = 8 ∨ j_9 = 9 ∨ j_9 = 10 by omega) with rfl | rfl | rfl | rfl | rfl | rfl | rfl | rfl | rfl | rfl | rfl
  · skip
    rw [es_9]
    refine vg_tabIn (tgt := 64) C d_R_plain_9 (by decide) (by decide) rfl (by decide) ?_
    refine vg_iload_n C d_R_plain_64 rfl ?_
    refine vg_if_ne (tgt := 77) C d_R_plain_65 (by decide) (fun c_65 => ?_) (fun c_65 => ?_)
    · rw [nI_z (by omega)] at c_65
      refine vg_iconst (v := 0) C d_R_plain_77 (by decide) ?_
      exact vg_ireturn C hQ d_R_plain_78 rfl (by first | rfl | assumption) (⟨by rw [bP_f (by intro g; first | exact c_65 ((bM_0 es_9).mp g).1 | exact c_70 ((bM_0 es_9).mp g).2)], rfl⟩)
    · rw [nI_z (by omega)] at c_65
      refine vg_iload C d_R_plain_68 rfl ?_
      refine vg_if_ne (tgt := 77) C d_R_plain_70 (by decide) (fun c_70 => ?_) (fun c_70 => ?_)
      · rw [nI_z (by omega)] at c_70
        refine vg_iconst (v := 0) C d_R_plain_77 (by decide) ?_
        exact vg_ireturn C hQ d_R_plain_78 rfl (by first | rfl | assumption) (⟨by rw [bP_f (by intro g; first | exact c_65 ((bM_0 es_9).mp g).1 | exact c_70 ((bM_0 es_9).mp g).2)], rfl⟩)
      · rw [nI_z (by omega)] at c_70
        refine vg_iconst (v := 1) C d_R_plain_73 (by decide) ?_
        refine vg_goto (tgt := 78) C d_R_plain_74 (by decide) ?_
        exact vg_ireturn C hQ d_R_plain_78 rfl (by first | rfl | assumption) (⟨by rw [bP_t (by exact (bM_0 es_9).mpr ⟨c_65, c_70⟩)], rfl⟩)
  · skip
    rw [es_9]
    refine vg_tabIn (tgt := 281) C d_R_plain_9 (by decide) (by decide) rfl (by decide) ?_
    refine vg_iconst (v := 0) C d_R_plain_281 (by decide) ?_
    exact vg_ireturn C hQ d_R_plain_282 rfl (by first | rfl | assumption) (⟨by rw [bP_f (by first | exact (bM_1 es_9).mp | exact absurd hkk (by rw [nk, es_9]; decide))], rfl⟩)
  · skip
    rw [es_9]
    refine vg_tabIn (tgt := 79) C d_R_plain_9 (by decide) (by decide) rfl (by decide) ?_
    refine vg_iconst (v := 0) C d_R_plain_79 (by decide) ?_
    refine vg_istore C d_R_plain_80 (Nat.le_of_ble_eq_true rfl) rfl ?_
    refine vg_lv [0, 2, 3, 4, 5, 6] rfl ?_
    exact lp_R_plain_2 hst C hQ ad σ n H hG D nd t hX p hp A z hA hAm hz F ⟨rfl, rfl⟩ es_9 7 0 (by omega) (by omega) (fun j hj => absurd hj (by omega))
  · skip
    rw [es_9]
    refine vg_tabIn (tgt := 132) C d_R_plain_9 (by decide) (by decide) rfl (by decide) ?_
    refine vg_iload_n C d_R_plain_132 rfl ?_
    refine vg_if_ne (tgt := 151) C d_R_plain_133 (by decide) (fun c_133 => ?_) (fun c_133 => ?_)
    · rw [nI_z (by omega)] at c_133
      refine vg_iconst (v := 0) C d_R_plain_151 (by decide) ?_
      exact vg_ireturn C hQ d_R_plain_152 rfl (by first | rfl | assumption) (⟨by rw [bP_f (by first | exact pl_38n (by rw [es_9]; decide) (Or.inl c_133) | exact pl_38n (by rw [es_9]; decide) (Or.inr (Or.inl c_138)) | exact pl_38n (by rw [es_9]; decide) (Or.inr (Or.inr c_148)))], rfl⟩)
    · rw [nI_z (by omega)] at c_133
      refine vg_iload C d_R_plain_136 rfl ?_
      refine vg_if_eq (tgt := 151) C d_R_plain_138 (by decide) (fun c_138 => ?_) (fun c_138 => ?_)
      · rw [nI_z (by omega)] at c_138
        refine vg_iconst (v := 0) C d_R_plain_151 (by decide) ?_
        exact vg_ireturn C hQ d_R_plain_152 rfl (by first | rfl | assumption) (⟨by rw [bP_f (by first | exact pl_38n (by rw [es_9]; decide) (Or.inl c_133) | exact pl_38n (by rw [es_9]; decide) (Or.inr (Or.inl c_138)) | exact pl_38n (by rw [es_9]; decide) (Or.inr (Or.inr c_148)))], rfl⟩)
      · rw [nI_z (by omega)] at c_138
        refine vg_iload C d_R_plain_141 rfl ?_
        refine vg_iload C d_R_plain_143 rfl ?_
        refine vg_iconst (v := 1) C d_R_plain_145 (by decide) ?_
        refine vg_isub C d_R_plain_146 ?_
        rw [nI_p (by omega)]
        refine vg_iand C d_R_plain_147 ?_
        rw [(bt64 z hz64 (z - 1) (by omega)).1]
        refine vg_if_eq (tgt := 153) C d_R_plain_148 (by decide) (fun c_148 => ?_) (fun c_148 => ?_)
        · rw [nI_z (show z &&& (z - 1) < 2 ^ 31 from Nat.lt_of_le_of_lt Nat.and_le_left (by omega))] at c_148
          obtain ⟨i, hi, ei⟩ := p2_ex z hz64 c_138 c_148
          exact lp_R_plain_3 hst C hQ ad σ n H hG D nd t hX p hp A z hA hAm hz F ⟨rfl, rfl⟩ (by rw [es_9]; decide) i hi c_133 ei (i + 1) 0 (by omega) (by omega)
        · rw [nI_z (show z &&& (z - 1) < 2 ^ 31 from Nat.lt_of_le_of_lt Nat.and_le_left (by omega))] at c_148
          refine vg_iconst (v := 0) C d_R_plain_151 (by decide) ?_
          exact vg_ireturn C hQ d_R_plain_152 rfl (by first | rfl | assumption) (⟨by rw [bP_f (by first | exact pl_38n (by rw [es_9]; decide) (Or.inl c_133) | exact pl_38n (by rw [es_9]; decide) (Or.inr (Or.inl c_138)) | exact pl_38n (by rw [es_9]; decide) (Or.inr (Or.inr c_148)))], rfl⟩)
  · skip
    rw [es_9]
    refine vg_tabIn (tgt := 281) C d_R_plain_9 (by decide) (by decide) rfl (by decide) ?_
    refine vg_iconst (v := 0) C d_R_plain_281 (by decide) ?_
    exact vg_ireturn C hQ d_R_plain_282 rfl (by first | rfl | assumption) (⟨by rw [bP_f (by first | exact (bM_1 es_9).mp | exact absurd hkk (by rw [nk, es_9]; decide))], rfl⟩)
  · skip
    rw [es_9]
    refine vg_tabIn (tgt := 281) C d_R_plain_9 (by decide) (by decide) rfl (by decide) ?_
    refine vg_iconst (v := 0) C d_R_plain_281 (by decide) ?_
    exact vg_ireturn C hQ d_R_plain_282 rfl (by first | rfl | assumption) (⟨by rw [bP_f (by first | exact (bM_1 es_9).mp | exact absurd hkk (by rw [nk, es_9]; decide))], rfl⟩)
  · skip
    rw [es_9]
    refine vg_tabIn (tgt := 281) C d_R_plain_9 (by decide) (by decide) rfl (by decide) ?_
    refine vg_iconst (v := 0) C d_R_plain_281 (by decide) ?_
    exact vg_ireturn C hQ d_R_plain_282 rfl (by first | rfl | assumption) (⟨by rw [bP_f (by first | exact (bM_1 es_9).mp | exact absurd hkk (by rw [nk, es_9]; decide))], rfl⟩)
  · skip
    rw [es_9]
    refine vg_tabIn (tgt := 281) C d_R_plain_9 (by decide) (by decide) rfl (by decide) ?_
    refine vg_iconst (v := 0) C d_R_plain_281 (by decide) ?_
    exact vg_ireturn C hQ d_R_plain_282 rfl (by first | rfl | assumption) (⟨by rw [bP_f (by first | exact (bM_1 es_9).mp | exact absurd hkk (by rw [nk, es_9]; decide))], rfl⟩)
  · skip
    rw [es_9]
    refine vg_tabIn (tgt := 132) C d_R_plain_9 (by decide) (by decide) rfl (by decide) ?_
    refine vg_iload_n C d_R_plain_132 rfl ?_
    refine vg_if_ne (tgt := 151) C d_R_plain_133 (by decide) (fun c_133 => ?_) (fun c_133 => ?_)
    · rw [nI_z (by omega)] at c_133
      refine vg_iconst (v := 0) C d_R_plain_151 (by decide) ?_
      exact vg_ireturn C hQ d_R_plain_152 rfl (by first | rfl | assumption) (⟨by rw [bP_f (by first | exact pl_38n (by rw [es_9]; decide) (Or.inl c_133) | exact pl_38n (by rw [es_9]; decide) (Or.inr (Or.inl c_138)) | exact pl_38n (by rw [es_9]; decide) (Or.inr (Or.inr c_148)))], rfl⟩)
    · rw [nI_z (by omega)] at c_133
      refine vg_iload C d_R_plain_136 rfl ?_
      refine vg_if_eq (tgt := 151) C d_R_plain_138 (by decide) (fun c_138 => ?_) (fun c_138 => ?_)
      · rw [nI_z (by omega)] at c_138
        refine vg_iconst (v := 0) C d_R_plain_151 (by decide) ?_
        exact vg_ireturn C hQ d_R_plain_152 rfl (by first | rfl | assumption) (⟨by rw [bP_f (by first | exact pl_38n (by rw [es_9]; decide) (Or.inl c_133) | exact pl_38n (by rw [es_9]; decide) (Or.inr (Or.inl c_138)) | exact pl_38n (by rw [es_9]; decide) (Or.inr (Or.inr c_148)))], rfl⟩)
      · rw [nI_z (by omega)] at c_138
        refine vg_iload C d_R_plain_141 rfl ?_
        refine vg_iload C d_R_plain_143 rfl ?_
        refine vg_iconst (v := 1) C d_R_plain_145 (by decide) ?_
        refine vg_isub C d_R_plain_146 ?_
        rw [nI_p (by omega)]
        refine vg_iand C d_R_plain_147 ?_
        rw [(bt64 z hz64 (z - 1) (by omega)).1]
        refine vg_if_eq (tgt := 153) C d_R_plain_148 (by decide) (fun c_148 => ?_) (fun c_148 => ?_)
        · rw [nI_z (show z &&& (z - 1) < 2 ^ 31 from Nat.lt_of_le_of_lt Nat.and_le_left (by omega))] at c_148
          obtain ⟨i, hi, ei⟩ := p2_ex z hz64 c_138 c_148
          exact lp_R_plain_3 hst C hQ ad σ n H hG D nd t hX p hp A z hA hAm hz F ⟨rfl, rfl⟩ (by rw [es_9]; decide) i hi c_133 ei (i + 1) 0 (by omega) (by omega)
        · rw [nI_z (show z &&& (z - 1) < 2 ^ 31 from Nat.lt_of_le_of_lt Nat.and_le_left (by omega))] at c_148
          refine vg_iconst (v := 0) C d_R_plain_151 (by decide) ?_
          exact vg_ireturn C hQ d_R_plain_152 rfl (by first | rfl | assumption) (⟨by rw [bP_f (by first | exact pl_38n (by rw [es_9]; decide) (Or.inl c_133) | exact pl_38n (by rw [es_9]; decide) (Or.inr (Or.inl c_138)) | exact pl_38n (by rw [es_9]; decide) (Or.inr (Or.inr c_148)))], rfl⟩)
  · skip
    rw [es_9]
    refine vg_tabIn (tgt := 199) C d_R_plain_9 (by decide) (by decide) rfl (by decide) ?_
    refine vg_iload C d_R_plain_199 rfl ?_
    refine vg_if_ne (tgt := 216) C d_R_plain_201 (by decide) (fun c_201 => ?_) (fun c_201 => ?_)
    · rw [nI_z (by omega)] at c_201
      refine vg_iconst (v := 0) C d_R_plain_216 (by decide) ?_
      exact vg_ireturn C hQ d_R_plain_217 rfl (by first | rfl | assumption) (⟨by rw [bP_f (by first | exact pl_9n es_9 (Or.inl c_201) | exact pl_9n es_9 (Or.inr (Or.inl c_205)) | exact pl_9n es_9 (Or.inr (Or.inr c_213)))], rfl⟩)
    · rw [nI_z (by omega)] at c_201
      refine vg_iload_n C d_R_plain_204 rfl ?_
      refine vg_if_eq (tgt := 216) C d_R_plain_205 (by decide) (fun c_205 => ?_) (fun c_205 => ?_)
      · rw [nI_z (by omega)] at c_205
        refine vg_iconst (v := 0) C d_R_plain_216 (by decide) ?_
        exact vg_ireturn C hQ d_R_plain_217 rfl (by first | rfl | assumption) (⟨by rw [bP_f (by first | exact pl_9n es_9 (Or.inl c_201) | exact pl_9n es_9 (Or.inr (Or.inl c_205)) | exact pl_9n es_9 (Or.inr (Or.inr c_213)))], rfl⟩)
      · rw [nI_z (by omega)] at c_205
        refine vg_iload_n C d_R_plain_208 rfl ?_
        refine vg_iload_n C d_R_plain_209 rfl ?_
        refine vg_iconst (v := 1) C d_R_plain_210 (by decide) ?_
        refine vg_isub C d_R_plain_211 ?_
        rw [nI_p (by omega)]
        refine vg_iand C d_R_plain_212 ?_
        rw [(bt64 A hA (A - 1) (by omega)).1]
        refine vg_if_eq (tgt := 218) C d_R_plain_213 (by decide) (fun c_213 => ?_) (fun c_213 => ?_)
        · rw [nI_z (show A &&& (A - 1) < 2 ^ 31 from Nat.lt_of_le_of_lt Nat.and_le_left (by omega))] at c_213
          obtain ⟨i, hi, ei⟩ := p2_ex A hA c_205 c_213
          exact lp_R_plain_9 hst C hQ ad σ n H hG D nd t hX p hp A z hA hAm hz F ⟨rfl, rfl⟩ es_9 i hi ei c_201 (i + 1) 0 (by omega) (by omega)
        · rw [nI_z (show A &&& (A - 1) < 2 ^ 31 from Nat.lt_of_le_of_lt Nat.and_le_left (by omega))] at c_213
          refine vg_iconst (v := 0) C d_R_plain_216 (by decide) ?_
          exact vg_ireturn C hQ d_R_plain_217 rfl (by first | rfl | assumption) (⟨by rw [bP_f (by first | exact pl_9n es_9 (Or.inl c_201) | exact pl_9n es_9 (Or.inr (Or.inl c_205)) | exact pl_9n es_9 (Or.inr (Or.inr c_213)))], rfl⟩)
  · skip
    rw [es_9]
    refine vg_tabOut (tgt := 281) C d_R_plain_9 (by decide) (by decide) ?_
    refine vg_iconst (v := 0) C d_R_plain_281 (by decide) ?_
    exact vg_ireturn C hQ d_R_plain_282 rfl (by first | rfl | assumption) (⟨by rw [bP_f (by first | exact (bM_1 es_9).mp | exact absurd hkk (by rw [nk, es_9]; decide))], rfl⟩)
