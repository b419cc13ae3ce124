/-! the reference's calls -/
abbrev tc (σ : sg) (c : Int32) : sg := sI σ 117 (upd (σ.1 117) 0 c)
def PR (Z : vg_Z) (ad : Nat → Nat) (σ : sg) (S : Int32 → Int32 → Pm → Prop) (v : Option Value) (w : va_W) : Prop := ∃ c b P' τ, S c b P' ∧ v = some (.int b) ∧ IM τ P' ∧ frM σ τ ∧ τ.1 117 0 = c ∧ w = wd Z ad τ
section PRS
variable {Z : vg_Z} {ad : Nat → Nat} {σ σ0 τ : sg} {P P' : Pm} {S : Int32 → Int32 → Pm → Prop} {b c : Int32}
theorem IM_tc (c : Int32) (h : IM σ P) : IM (tc σ c) P := h
theorem frM_sI {k : Nat} {r : Nat → Int32} (h : frM σ τ) (hk : 117 ≤ k ∧ k < 136) : frM σ (sI τ k r) := fun j hj => ⟨(sI_ne _ (by omega)).trans (h j hj).1, (h j hj).2⟩
theorem t0_ex (h : IM σ P) : ∃ σ0, tc σ 0 = σ0 ∧ IM σ0 P ∧ σ0.1 117 0 = 0 ∧ frM σ σ0 := ⟨_, rfl, IM_tc 0 h, rfl, frM_sI frM_rf (by decide)⟩
theorem PR_raise (f : frM σ σ0) (i : IM σ0 P) (s : S c 0 P) : PR Z ad σ S (some (.int 0)) (wd Z ad (tc σ0 c)) := ⟨c, 0, P, tc σ0 c, s, rfl, IM_tc c i, frM_sI f (by decide), rfl, rfl⟩
theorem PR_ret (f : frM σ σ0) (i : IM σ0 P') (z : σ0.1 117 0 = 0) (s : S 0 b P') : PR Z ad σ S (some (.int b)) (wd Z ad σ0) := ⟨0, b, P', σ0, s, rfl, i, f, z, rfl⟩
noncomputable abbrev pH (P : Pm) : Nat → Nat := gH (pK P) (pF P) (pS P) (pE P) (pG P)
theorem IM_G (hW : PW P) (h : IM σ P) : GrR σ (pN P) (pH P) ∧ ∀ q, q < pN P → pH P q ≤ 32 := by
  obtain ⟨⟨g1, g2, g3, g4, g5, g6⟩, -⟩ := h
  obtain ⟨a, b, c⟩ := GW_WG hW.1
  unfold GrR
  rw [g1, g2, g3, g5]
  exact ⟨⟨⟨a, c⟩, g6⟩, b⟩
theorem g_lt (hW : PW P) {i : Nat} (hi : i < 4) : pG P i < 0 ↔ pG P i = -1 := by
  rcases hW.1.2.2.1 i hi with e | ⟨c, c1, e⟩
  · rw [e]
    decide
  · have := hW.1.1
    rw [e]
    exact ⟨fun z => absurd z (i32_lt0 (by omega)), fun z => absurd z (nI_nm1 (by omega))⟩
theorem a_56 (a : Int32) : a ≤ 5 ↔ a < 6 := by
  rw [Int32.le_iff_toInt_le, Int32.lt_iff_toInt_lt, i32_5, i32_6]
  omega
theorem al_va {n : Nat} (hn : n ≤ 40) {x a b : Int32} (h : alQ n x a b) (hx : 4 ≤ x ∧ x ≤ 7) : vp_in a 40 := by
  obtain ⟨c, c1, rfl⟩ := (al_ab hn h).1 ((kF x).mpr hx)
  exact vp_in_nI (by omega) (by decide)
theorem al_vb {n : Nat} (hn : n ≤ 40) {x a b : Int32} (h : alQ n x a b) (hx : (4 ≤ x ∧ x ≤ 6) ∨ (8 ≤ x ∧ x ≤ 9)) : vp_in b 40 := by
  obtain ⟨c, c1, rfl⟩ := (al_ab hn h).2.1 ((kS x).mpr hx)
  exact vp_in_nI (by omega) (by decide)
def s_pR (σ : sg) (n : Nat) (x a b d : Int32) : sg := sI (sI (sI (sI (sI σ 118 (upd (σ.1 118) n x)) 119 (upd (σ.1 119) n a)) 120 (upd (σ.1 120) n b)) 121 (upd (σ.1 121) n d)) 117 (upd (σ.1 117) 5 (nI (n + 1)))
theorem IM_add {x a b : Int32} (h : IM σ P) : IM (s_pR σ (pN P) x a b (dq (σ.1 121) x a b)) (p_add P x a b) := by
  obtain ⟨⟨g1, g2, g3, g4, g5, g6⟩, h2, h3, h4, h5⟩ := h
  refine ⟨⟨?_, ?_, ?_, ?_, g5, rfl⟩, h2, h3, h4, h5⟩
  · show upd (σ.1 118) (pN P) x = upd (pK P) (pN P) x
    rw [g1]
  · show upd (σ.1 119) (pN P) a = upd (pF P) (pN P) a
    rw [g2]
  · show upd (σ.1 120) (pN P) b = upd (pS P) (pN P) b
    rw [g3]
  · show upd (σ.1 121) (pN P) (dq (σ.1 121) x a b) = upd (pE P) (pN P) (dq (pE P) x a b)
    rw [g4]
theorem IM_def {i : Nat} {p : Int32} (h : IM σ P) : IM (sI σ 122 (upd (σ.1 122) i p)) (p_def P i p) := by
  obtain ⟨⟨g1, g2, g3, g4, g5, g6⟩, h2, h3, h4, h5⟩ := h
  refine ⟨⟨g1, g2, g3, g4, ?_, g6⟩, h2, h3, h4, h5⟩
  show upd (σ.1 122) i p = upd (pG P) i p
  rw [g5]
theorem opn_0 {q : Nat → Nat} {n : Nat} (h : n = 0) : opn n q = -1 := if_pos h
theorem opn_s {q : Nat → Nat} {n : Nat} (h : ¬ n = 0) : opn n q = nI (q (n - 1)) := if_neg h
theorem IM_open {nm : Int32} (hW : PW P) (hI : IM σ P) (hT : TN P) (a1 : τ.1 118 = σ.1 118) (a2 : τ.1 119 = σ.1 119) (a3 : τ.1 120 = σ.1 120) (a4 : τ.1 121 = σ.1 121) (a5 : τ.1 122 = σ.1 122) (a6 : τ.1 117 5 = σ.1 117 5) (e1 : τ.1 117 15 = nI (pd P + 1)) (e16 : τ.1 117 16 = nI (pd P)) (e2 : τ.1 123 = upd (σ.1 123) (pd P) nm) (e24 : τ.1 124 = upd (σ.1 124) (pd P) (opn (pn P) (pt P))) (e25 : τ.1 125 = upd (σ.1 125) (pd P) (nI (pn P + 1))) (e3 : ∀ i, (i < 6 * pd P ∨ 6 * pd P + 6 ≤ i → τ.1 126 i = σ.1 126 i) ∧ (6 * pd P ≤ i → i < 6 * pd P + 6 → τ.1 126 i = 0)) (e4 : τ.1 127 = σ.1 127) (e5 : τ.1 128 = if pn P = 0 then σ.1 128 else upd (σ.1 128) (6 * pT P + (pD P).2.2.1 (pT P)) (nI (pd P))) (e6 : τ.1 129 = σ.1 129) (e7 : τ.1 130 = if pn P = 0 then upd (σ.1 130) (pd P) 0 else upd (upd (σ.1 130) (pd P) 0) (pT P) (nI ((pD P).2.2.1 (pT P) + 1))) (e9 : τ.2 131 = σ.2 131) : IM τ (p_open P nm) := by
  obtain ⟨⟨g1, g2, g3, g4, g5, g6⟩, hM, h3, h4, h5⟩ := hI
  have hlt := hW.2.2
  refine ⟨⟨a1.trans g1, a2.trans g2, a3.trans g3, a4.trans g4, a5.trans g5, a6.trans g6⟩, ?_, ?_, fun j hj => ?_, fun x hx => by rw [e9]; exact h5 x hx⟩
  · refine RM_open hM (by rcases hT with z | z <;> omega) (fun q => ?_) e1 e2 e3 e4 e5 e6 e7
    rcases hT with z | z
    · exact absurd z.1 q
    · exact ⟨hlt _ (by omega), z.2.2.2⟩
  · rw [e16]
    show nI (pd P) = opn (pn P + 1) (fun j => if j = pn P then pd P else pt P j)
    rw [opn_s (by omega), if_pos (by omega)]
  · have hj' : j < pn P + 1 := hj
    rw [e24, e25]
    show upd _ (pd P) _ (if j = pn P then pd P else pt P j) = opn j (fun j => if j = pn P then pd P else pt P j) ∧ upd _ (pd P) _ (if j = pn P then pd P else pt P j) = nI (j + 1)
    have eo : opn j (fun j => if j = pn P then pd P else pt P j) = opn j (pt P) := by
      by_cases q : j = 0
      · rw [opn_0 q, opn_0 q]
      · rw [opn_s q, opn_s q, if_neg (by omega)]
    rw [eo]
    by_cases q : j = pn P
    · rw [if_pos q, pk_us, pk_us, q]
      exact ⟨rfl, rfl⟩
    · have := hlt j (by omega)
      rw [if_neg q, pk_un (by omega), pk_un (by omega)]
      exact h4 j (by omega)
theorem IM_same {Q : Pm} (h : IM σ P) (a : ∀ j, 118 ≤ j → j ≤ 122 → τ.1 j = σ.1 j) (a6 : τ.1 117 5 = σ.1 117 5) (q1 : Q.1 = P.1) (q2 : Q.2.1 = P.2.1) (q3 : pn Q = pn P) (q4 : pt Q = pt P) (hM : RM τ (pD Q) (pd Q)) (e16 : τ.1 117 16 = σ.1 117 16) (e24 : τ.1 124 = σ.1 124) (e25 : τ.1 125 = σ.1 125) (e9 : τ.2 131 = σ.2 131) : IM τ Q := by
  obtain ⟨⟨g1, g2, g3, g4, g5, g6⟩, -, h3, h4, h5⟩ := h
  refine ⟨?_, hM, ?_, ?_, ?_⟩
  · unfold pK pF pS pE pG pN
    rw [q1, q2, a 118 (by decide) (by decide), a 119 (by decide) (by decide), a 120 (by decide) (by decide), a 121 (by decide) (by decide), a 122 (by decide) (by decide), a6]
    exact ⟨g1, g2, g3, g4, g5, g6⟩
  · rw [e16, q3, q4]
    exact h3
  · rw [q3, q4, e24, e25]
    exact h4
  · rw [e9]
    exact h5
theorem tc_15 : RM (tc σ c) (pD P) (pd P) = RM σ (pD P) (pd P) := rfl
theorem h_lt1 {nm : Int32} (h : 0 ≤ nm ∧ nm ≤ 5) : 0 ≤ nm ∧ nm < 6 := ⟨h.1, (a_56 nm).mp h.2⟩
theorem h_lt2 {nm : Int32} (h : ¬ (0 ≤ nm ∧ nm ≤ 5)) : ¬ (0 ≤ nm ∧ nm < 6) := fun z => h ⟨z.1, (a_56 nm).mpr z.2⟩
end PRS
set_option maxHeartbeats 4000000 in
set_option maxRecDepth 100000 in
theorem c_R_pattern (Z : vg_Z) (hst : vg_St Z) (ad : Nat → Nat) (σ : sg) (x a b : Int32) (P : Pm) (hW : PW P) (hI : IM σ P)  : vg_T Z M_R_pattern 0 0 [.ref (ad 117), .int x, .int a, .int b] (wd Z ad σ) (fun v w => PR Z ad σ (SpP P x a b) v w) := by
  refine vg_enter hst (by decide) rfl (Nat.le_of_ble_eq_true rfl) ?_
  intro G C hQ
  show vg_K Z M_R_pattern G 0 0 0 [(0, .ref (ad 117)), (1, .int x), (2, .int a), (3, .int b)] [] (wd Z ad σ)
  refine vg_aload_n C d_R_pattern_0 rfl ?_
  refine vg_iconst (v := 0) C d_R_pattern_1 (by decide) ?_
  refine wr_puti C d_R_pattern_2 f_R_70 p_R_0 rfl rfl rfl rfl rfl (Nat.le_of_ble_eq_true rfl) (wf_iR0 _ _ _) ?_
  obtain ⟨σ0, e0, i0, z0, f0⟩ := t0_ex hI
  rw [show sI σ 117 (upd (σ.1 117) 0 0) = σ0 from e0]
  obtain ⟨⟨g1, g2, g3, g4, g5, g6⟩, hM, g16, g24, h9⟩ := id i0
  have hn := hW.1.1
  have hnd := hM.1.1
  have hpn := hW.2.1
  refine vg_aload_n C d_R_pattern_5 rfl ?_
  refine vg_iload_n C d_R_pattern_6 rfl ?_
  refine vg_iload_n C d_R_pattern_7 rfl ?_
  refine vg_iload_n C d_R_pattern_8 rfl ?_
  refine wr_callV (As := [_, _, _]) C (c_R_fits Z hst ad σ0 x a b (pN P) g6 hn) l_R_pattern_R_fits k_R_84 rfl rfl rfl rfl rfl (Nat.le_of_ble_eq_true rfl) d_R_pattern_9 ⟨Nat.le_of_ble_eq_true rfl, Nat.le_of_ble_eq_true rfl⟩ (fun v_9 w_9 h_9 => ?_)
  obtain ⟨rfl, rfl⟩ := h_9
  refine vg_if_ne (tgt := 21) C d_R_pattern_12 (by decide) (fun c_12 => ?_) (fun c_12 => ?_)
  · rw [bP_eq] at c_12; (try simp only [Classical.not_not] at c_12)
    have hdp := PW_dep hW
    rw [← g4] at hdp
    have NX : ∀ d, d = dq (σ0.1 121) x a b → vg_K Z M_R_pattern G 0 0 86 [(4, .int d), (0, .ref (ad 117)), (1, .int x), (2, .int a), (3, .int b)] [] (wd Z ad σ0) := by
      intro d ed
      subst ed
      refine vg_aload_n C d_R_pattern_86 rfl ?_
      refine wr_get C d_R_pattern_87 f_R_73 rfl rfl rfl rfl ?_
      rw [g6]
      refine vg_bipush (v := 40) C d_R_pattern_90 (by decide) ?_
      refine vg_icmp_eq (tgt := 101) C d_R_pattern_92 (by decide) (fun c_92 => ?_) (fun c_92 => ?_)
      · rw [show (40 : Int32) = nI 40 from rfl, nI_eq (by omega) (by decide)] at c_92
        refine vg_aload_n C d_R_pattern_101 rfl ?_
        refine vg_iconst (v := 2) C d_R_pattern_102 (by decide) ?_
        refine wr_callV (As := [_]) C (c_R_raise Z hst ad σ0 2) l_R_pattern_R_raise k_R_87 rfl rfl rfl rfl rfl (Nat.le_of_ble_eq_true rfl) d_R_pattern_103 ⟨Nat.le_of_ble_eq_true rfl, Nat.le_of_ble_eq_true rfl⟩ (fun v_103 w_103 h_103 => ?_)
        obtain ⟨rfl, rfl⟩ := h_103
        exact vg_ireturn C hQ d_R_pattern_106 rfl (by first | rfl | assumption) (PR_raise f0 i0 (Or.inr (Or.inl ⟨c_12, fun z => by first | exact absurd z.1 (by omega) | exact c_98 (by rw [g4]; exact z.2), rfl, rfl⟩)))
      · rw [show (40 : Int32) = nI 40 from rfl, nI_eq (by omega) (by decide)] at c_92
        refine vg_iload C d_R_pattern_95 rfl ?_
        refine vg_iconst (v := 5) C d_R_pattern_97 (by decide) ?_
        refine vg_icmp_le (tgt := 107) C d_R_pattern_98 (by decide) (fun c_98 => ?_) (fun c_98 => ?_)
        · skip
          refine vg_aload_n C d_R_pattern_107 rfl ?_
          refine wr_get C d_R_pattern_108 f_R_7 rfl rfl rfl rfl ?_
          refine vg_aload_n C d_R_pattern_111 rfl ?_
          refine wr_get C d_R_pattern_112 f_R_73 rfl rfl rfl rfl ?_
          rw [g6]
          refine vg_iload_n C d_R_pattern_115 rfl ?_
          refine wr_iast C d_R_pattern_116 rfl rfl (by exact vp_in_nI (by omega) (by decide)) ?_
          rw [nI_clamp (by omega)]
          refine vg_aload_n C d_R_pattern_117 rfl ?_
          refine wr_get C d_R_pattern_118 f_R_13 rfl rfl rfl rfl ?_
          refine vg_aload_n C d_R_pattern_121 rfl ?_
          refine wr_get C d_R_pattern_122 f_R_73 rfl rfl rfl rfl ?_
          simp (disch := decide) only [sI_ne, sI_at, sL_ne, sL_at, sL_1, sI_2, pk_un]
          rw [g6]
          refine vg_iload_n C d_R_pattern_125 rfl ?_
          refine wr_iast C d_R_pattern_126 rfl rfl (by exact vp_in_nI (by omega) (by decide)) ?_
          rw [nI_clamp (by omega)]
          refine vg_aload_n C d_R_pattern_127 rfl ?_
          refine wr_get C d_R_pattern_128 f_R_16 rfl rfl rfl rfl ?_
          refine vg_aload_n C d_R_pattern_131 rfl ?_
          refine wr_get C d_R_pattern_132 f_R_73 rfl rfl rfl rfl ?_
          simp (disch := decide) only [sI_ne, sI_at, sL_ne, sL_at, sL_1, sI_2, pk_un]
          rw [g6]
          refine vg_iload_n C d_R_pattern_135 rfl ?_
          refine wr_iast C d_R_pattern_136 rfl rfl (by exact vp_in_nI (by omega) (by decide)) ?_
          rw [nI_clamp (by omega)]
          refine vg_aload_n C d_R_pattern_137 rfl ?_
          refine wr_get C d_R_pattern_138 f_R_19 rfl rfl rfl rfl ?_
          refine vg_aload_n C d_R_pattern_141 rfl ?_
          refine wr_get C d_R_pattern_142 f_R_73 rfl rfl rfl rfl ?_
          simp (disch := decide) only [sI_ne, sI_at, sL_ne, sL_at, sL_1, sI_2, pk_un]
          rw [g6]
          refine vg_iload C d_R_pattern_145 rfl ?_
          refine wr_iast C d_R_pattern_147 rfl rfl (by exact vp_in_nI (by omega) (by decide)) ?_
          rw [nI_clamp (by omega)]
          refine vg_aload_n C d_R_pattern_148 rfl ?_
          refine vg_dup C d_R_pattern_149 rfl ?_
          refine wr_get C d_R_pattern_150 f_R_73 rfl rfl rfl rfl ?_
          simp (disch := decide) only [sI_ne, sI_at, sL_ne, sL_at, sL_1, sI_2, pk_un]
          rw [g6]
          refine vg_iconst (v := 1) C d_R_pattern_153 (by decide) ?_
          refine vg_iadd C d_R_pattern_154 ?_
          rw [nI_1]
          refine wr_puti C d_R_pattern_155 f_R_73 p_R_5 rfl rfl rfl rfl rfl (Nat.le_of_ble_eq_true rfl) (wf_iR5 _ _ _) ?_
          refine vg_aload_n C d_R_pattern_158 rfl ?_
          refine wr_get C d_R_pattern_159 f_R_73 rfl rfl rfl rfl ?_
          simp (disch := decide) only [sI_ne, sI_at, sL_ne, sL_at, sL_1, sI_2, pk_un]
          rw [pk_us]
          refine vg_iconst (v := 1) C d_R_pattern_162 (by decide) ?_
          refine vg_isub C d_R_pattern_163 ?_
          rw [nI_pred]
          exact vg_ireturn C hQ d_R_pattern_164 rfl (by first | rfl | assumption) (PR_ret (σ0 := s_pR σ0 (pN P) x a b (dq (σ0.1 121) x a b)) (frM_sI (frM_sI (frM_sI (frM_sI (frM_sI f0 (by decide)) (by decide)) (by decide)) (by decide)) (by decide)) (IM_add i0) z0 (Or.inr (Or.inr ⟨c_12, ⟨by omega, by rw [← g4]; exact c_98⟩, rfl, rfl, rfl⟩)))
        · skip
          refine vg_aload_n C d_R_pattern_101 rfl ?_
          refine vg_iconst (v := 2) C d_R_pattern_102 (by decide) ?_
          refine wr_callV (As := [_]) C (c_R_raise Z hst ad σ0 2) l_R_pattern_R_raise k_R_87 rfl rfl rfl rfl rfl (Nat.le_of_ble_eq_true rfl) d_R_pattern_103 ⟨Nat.le_of_ble_eq_true rfl, Nat.le_of_ble_eq_true rfl⟩ (fun v_103 w_103 h_103 => ?_)
          obtain ⟨rfl, rfl⟩ := h_103
          exact vg_ireturn C hQ d_R_pattern_106 rfl (by first | rfl | assumption) (PR_raise f0 i0 (Or.inr (Or.inl ⟨c_12, fun z => by first | exact absurd z.1 (by omega) | exact c_98 (by rw [g4]; exact z.2), rfl, rfl⟩)))
    refine vg_iconst (v := 1) C d_R_pattern_21 (by decide) ?_
    refine vg_istore C d_R_pattern_22 (Nat.le_of_ble_eq_true rfl) rfl ?_
    refine vg_iload_n C d_R_pattern_24 rfl ?_
    refine vg_iconst (v := 4) C d_R_pattern_25 (by decide) ?_
    refine vg_bipush (v := 7) C d_R_pattern_26 (by decide) ?_
    refine vg_callS (As := [_, _, _]) C (c_R_in Z hst ad σ0 x 4 7) l_R_pattern_R_in k_R_76 rfl rfl (Nat.le_of_ble_eq_true rfl) d_R_pattern_28 ⟨Nat.le_of_ble_eq_true rfl, Nat.le_of_ble_eq_true rfl⟩ (fun v_28 w_28 h_28 => ?_)
    obtain ⟨rfl, rfl⟩ := h_28
    refine vg_if_eq (tgt := 44) C d_R_pattern_31 (by decide) (fun c_31 => ?_) (fun c_31 => ?_)
    · rw [bP_eq] at c_31; (try simp only [Classical.not_not] at c_31)
      refine vg_iload_n C d_R_pattern_44 rfl ?_
      refine vg_bipush (v := 8) C d_R_pattern_45 (by decide) ?_
      refine vg_bipush (v := 9) C d_R_pattern_47 (by decide) ?_
      refine vg_callS (As := [_, _, _]) C (c_R_in Z hst ad σ0 x 8 9) l_R_pattern_R_in k_R_76 rfl rfl (Nat.le_of_ble_eq_true rfl) d_R_pattern_49 ⟨Nat.le_of_ble_eq_true rfl, Nat.le_of_ble_eq_true rfl⟩ (fun v_49 w_49 h_49 => ?_)
      obtain ⟨rfl, rfl⟩ := h_49
      refine vg_if_ne (tgt := 76) C d_R_pattern_52 (by decide) (fun c_52 => ?_) (fun c_52 => ?_)
      · rw [bP_eq] at c_52; (try simp only [Classical.not_not] at c_52)
        refine vg_aload_n C d_R_pattern_76 rfl ?_
        refine wr_get C d_R_pattern_77 f_R_19 rfl rfl rfl rfl ?_
        refine vg_iload_n C d_R_pattern_80 rfl ?_
        refine wr_iald C d_R_pattern_81 rfl rfl (by first | exact al_vb hn c_12 (Or.inl c_62) | exact al_vb hn c_12 (Or.inr c_52)) ?_
        refine vg_iconst (v := 1) C d_R_pattern_82 (by decide) ?_
        refine vg_iadd C d_R_pattern_83 ?_
        refine vg_istore C d_R_pattern_84 (Nat.le_of_ble_eq_true rfl) rfl ?_
        first
          | exact absurd (kFS c_62) c_31
          | (have q := dqR1 (dep := σ0.1 121) (a := a) (b := b) c_31 c_52
             exact NX _ q)
          | (have q := dqR2 (dep := σ0.1 121) (a := a) (b := b) c_31 c_62
             exact NX _ q)
          | (have q := dqR3 hn hdp c_12 c_62 c_73
             exact NX _ q)
          | (have q := dqR4 hn hdp c_12 c_62 c_73
             exact NX _ q)
          | (have q := dqR5 hn hdp c_12 c_52
             exact NX _ q)
      · rw [bP_eq] at c_52; (try simp only [Classical.not_not] at c_52)
        refine vg_iload_n C d_R_pattern_55 rfl ?_
        refine vg_iconst (v := 4) C d_R_pattern_56 (by decide) ?_
        refine vg_bipush (v := 6) C d_R_pattern_57 (by decide) ?_
        refine vg_callS (As := [_, _, _]) C (c_R_in Z hst ad σ0 x 4 6) l_R_pattern_R_in k_R_76 rfl rfl (Nat.le_of_ble_eq_true rfl) d_R_pattern_59 ⟨Nat.le_of_ble_eq_true rfl, Nat.le_of_ble_eq_true rfl⟩ (fun v_59 w_59 h_59 => ?_)
        obtain ⟨rfl, rfl⟩ := h_59
        refine vg_if_eq (tgt := 86) C d_R_pattern_62 (by decide) (fun c_62 => ?_) (fun c_62 => ?_)
        · rw [bP_eq] at c_62; (try simp only [Classical.not_not] at c_62)
          first
            | exact absurd (kFS c_62) c_31
            | (have q := dqR1 (dep := σ0.1 121) (a := a) (b := b) c_31 c_52
               exact NX _ q)
            | (have q := dqR2 (dep := σ0.1 121) (a := a) (b := b) c_31 c_62
               exact NX _ q)
            | (have q := dqR3 hn hdp c_12 c_62 c_73
               exact NX _ q)
            | (have q := dqR4 hn hdp c_12 c_62 c_73
               exact NX _ q)
            | (have q := dqR5 hn hdp c_12 c_52
               exact NX _ q)
        · rw [bP_eq] at c_62; (try simp only [Classical.not_not] at c_62)
          refine vg_aload_n C d_R_pattern_65 rfl ?_
          refine wr_get C d_R_pattern_66 f_R_19 rfl rfl rfl rfl ?_
          refine vg_iload_n C d_R_pattern_69 rfl ?_
          refine wr_iald C d_R_pattern_70 rfl rfl (by exact al_vb hn c_12 (Or.inl c_62)) ?_
          refine vg_iload C d_R_pattern_71 rfl ?_
          refine vg_icmp_lt (tgt := 86) C d_R_pattern_73 (by decide) (fun c_73 => ?_) (fun c_73 => ?_)
          · skip
            first
              | exact absurd (kFS c_62) c_31
              | (have q := dqR1 (dep := σ0.1 121) (a := a) (b := b) c_31 c_52
                 exact NX _ q)
              | (have q := dqR2 (dep := σ0.1 121) (a := a) (b := b) c_31 c_62
                 exact NX _ q)
              | (have q := dqR3 hn hdp c_12 c_62 c_73
                 exact NX _ q)
              | (have q := dqR4 hn hdp c_12 c_62 c_73
                 exact NX _ q)
              | (have q := dqR5 hn hdp c_12 c_52
                 exact NX _ q)
          · skip
            refine vg_aload_n C d_R_pattern_76 rfl ?_
            refine wr_get C d_R_pattern_77 f_R_19 rfl rfl rfl rfl ?_
            refine vg_iload_n C d_R_pattern_80 rfl ?_
            refine wr_iald C d_R_pattern_81 rfl rfl (by first | exact al_vb hn c_12 (Or.inl c_62) | exact al_vb hn c_12 (Or.inr c_52)) ?_
            refine vg_iconst (v := 1) C d_R_pattern_82 (by decide) ?_
            refine vg_iadd C d_R_pattern_83 ?_
            refine vg_istore C d_R_pattern_84 (Nat.le_of_ble_eq_true rfl) rfl ?_
            first
              | exact absurd (kFS c_62) c_31
              | (have q := dqR1 (dep := σ0.1 121) (a := a) (b := b) c_31 c_52
                 exact NX _ q)
              | (have q := dqR2 (dep := σ0.1 121) (a := a) (b := b) c_31 c_62
                 exact NX _ q)
              | (have q := dqR3 hn hdp c_12 c_62 c_73
                 exact NX _ q)
              | (have q := dqR4 hn hdp c_12 c_62 c_73
                 exact NX _ q)
              | (have q := dqR5 hn hdp c_12 c_52
                 exact NX _ q)
    · rw [bP_eq] at c_31; (try simp only [Classical.not_not] at c_31)
      refine vg_aload_n C d_R_pattern_34 rfl ?_
      refine wr_get C d_R_pattern_35 f_R_19 rfl rfl rfl rfl ?_
      refine vg_iload_n C d_R_pattern_38 rfl ?_
      refine wr_iald C d_R_pattern_39 rfl rfl (by exact al_va hn c_12 c_31) ?_
      refine vg_iconst (v := 1) C d_R_pattern_40 (by decide) ?_
      refine vg_iadd C d_R_pattern_41 ?_
      refine vg_istore C d_R_pattern_42 (Nat.le_of_ble_eq_true rfl) rfl ?_
      refine vg_iload_n C d_R_pattern_44 rfl ?_
      refine vg_bipush (v := 8) C d_R_pattern_45 (by decide) ?_
      refine vg_bipush (v := 9) C d_R_pattern_47 (by decide) ?_
      refine vg_callS (As := [_, _, _]) C (c_R_in Z hst ad σ0 x 8 9) l_R_pattern_R_in k_R_76 rfl rfl (Nat.le_of_ble_eq_true rfl) d_R_pattern_49 ⟨Nat.le_of_ble_eq_true rfl, Nat.le_of_ble_eq_true rfl⟩ (fun v_49 w_49 h_49 => ?_)
      obtain ⟨rfl, rfl⟩ := h_49
      refine vg_if_ne (tgt := 76) C d_R_pattern_52 (by decide) (fun c_52 => ?_) (fun c_52 => ?_)
      · rw [bP_eq] at c_52; (try simp only [Classical.not_not] at c_52)
        refine vg_aload_n C d_R_pattern_76 rfl ?_
        refine wr_get C d_R_pattern_77 f_R_19 rfl rfl rfl rfl ?_
        refine vg_iload_n C d_R_pattern_80 rfl ?_
        refine wr_iald C d_R_pattern_81 rfl rfl (by first | exact al_vb hn c_12 (Or.inl c_62) | exact al_vb hn c_12 (Or.inr c_52)) ?_
        refine vg_iconst (v := 1) C d_R_pattern_82 (by decide) ?_
        refine vg_iadd C d_R_pattern_83 ?_
        refine vg_istore C d_R_pattern_84 (Nat.le_of_ble_eq_true rfl) rfl ?_
        first
          | exact absurd (kFS c_62) c_31
          | (have q := dqR1 (dep := σ0.1 121) (a := a) (b := b) c_31 c_52
             exact NX _ q)
          | (have q := dqR2 (dep := σ0.1 121) (a := a) (b := b) c_31 c_62
             exact NX _ q)
          | (have q := dqR3 hn hdp c_12 c_62 c_73
             exact NX _ q)
          | (have q := dqR4 hn hdp c_12 c_62 c_73
             exact NX _ q)
          | (have q := dqR5 hn hdp c_12 c_52
             exact NX _ q)
      · rw [bP_eq] at c_52; (try simp only [Classical.not_not] at c_52)
        refine vg_iload_n C d_R_pattern_55 rfl ?_
        refine vg_iconst (v := 4) C d_R_pattern_56 (by decide) ?_
        refine vg_bipush (v := 6) C d_R_pattern_57 (by decide) ?_
        refine vg_callS (As := [_, _, _]) C (c_R_in Z hst ad σ0 x 4 6) l_R_pattern_R_in k_R_76 rfl rfl (Nat.le_of_ble_eq_true rfl) d_R_pattern_59 ⟨Nat.le_of_ble_eq_true rfl, Nat.le_of_ble_eq_true rfl⟩ (fun v_59 w_59 h_59 => ?_)
        obtain ⟨rfl, rfl⟩ := h_59
        refine vg_if_eq (tgt := 86) C d_R_pattern_62 (by decide) (fun c_62 => ?_) (fun c_62 => ?_)
        · rw [bP_eq] at c_62; (try simp only [Classical.not_not] at c_62)
          first
            | exact absurd (kFS c_62) c_31
            | (have q := dqR1 (dep := σ0.1 121) (a := a) (b := b) c_31 c_52
               exact NX _ q)
            | (have q := dqR2 (dep := σ0.1 121) (a := a) (b := b) c_31 c_62
               exact NX _ q)
            | (have q := dqR3 hn hdp c_12 c_62 c_73
               exact NX _ q)
            | (have q := dqR4 hn hdp c_12 c_62 c_73
               exact NX _ q)
            | (have q := dqR5 hn hdp c_12 c_52
               exact NX _ q)
        · rw [bP_eq] at c_62; (try simp only [Classical.not_not] at c_62)
          refine vg_aload_n C d_R_pattern_65 rfl ?_
          refine wr_get C d_R_pattern_66 f_R_19 rfl rfl rfl rfl ?_
          refine vg_iload_n C d_R_pattern_69 rfl ?_
          refine wr_iald C d_R_pattern_70 rfl rfl (by exact al_vb hn c_12 (Or.inl c_62)) ?_
          refine vg_iload C d_R_pattern_71 rfl ?_
          refine vg_icmp_lt (tgt := 86) C d_R_pattern_73 (by decide) (fun c_73 => ?_) (fun c_73 => ?_)
          · skip
            first
              | exact absurd (kFS c_62) c_31
              | (have q := dqR1 (dep := σ0.1 121) (a := a) (b := b) c_31 c_52
                 exact NX _ q)
              | (have q := dqR2 (dep := σ0.1 121) (a := a) (b := b) c_31 c_62
                 exact NX _ q)
              | (have q := dqR3 hn hdp c_12 c_62 c_73
                 exact NX _ q)
              | (have q := dqR4 hn hdp c_12 c_62 c_73
                 exact NX _ q)
              | (have q := dqR5 hn hdp c_12 c_52
                 exact NX _ q)
          · skip
            refine vg_aload_n C d_R_pattern_76 rfl ?_
            refine wr_get C d_R_pattern_77 f_R_19 rfl rfl rfl rfl ?_
            refine vg_iload_n C d_R_pattern_80 rfl ?_
            refine wr_iald C d_R_pattern_81 rfl rfl (by first | exact al_vb hn c_12 (Or.inl c_62) | exact al_vb hn c_12 (Or.inr c_52)) ?_
            refine vg_iconst (v := 1) C d_R_pattern_82 (by decide) ?_
            refine vg_iadd C d_R_pattern_83 ?_
            refine vg_istore C d_R_pattern_84 (Nat.le_of_ble_eq_true rfl) rfl ?_
            first
              | exact absurd (kFS c_62) c_31
              | (have q := dqR1 (dep := σ0.1 121) (a := a) (b := b) c_31 c_52
                 exact NX _ q)
              | (have q := dqR2 (dep := σ0.1 121) (a := a) (b := b) c_31 c_62
                 exact NX _ q)
              | (have q := dqR3 hn hdp c_12 c_62 c_73
                 exact NX _ q)
              | (have q := dqR4 hn hdp c_12 c_62 c_73
                 exact NX _ q)
              | (have q := dqR5 hn hdp c_12 c_52
                 exact NX _ q)
  · rw [bP_eq] at c_12; (try simp only [Classical.not_not] at c_12)
    refine vg_aload_n C d_R_pattern_15 rfl ?_
    refine vg_iconst (v := 1) C d_R_pattern_16 (by decide) ?_
    refine wr_callV (As := [_]) C (c_R_raise Z hst ad σ0 1) l_R_pattern_R_raise k_R_87 rfl rfl rfl rfl rfl (Nat.le_of_ble_eq_true rfl) d_R_pattern_17 ⟨Nat.le_of_ble_eq_true rfl, Nat.le_of_ble_eq_true rfl⟩ (fun v_17 w_17 h_17 => ?_)
    obtain ⟨rfl, rfl⟩ := h_17
    exact vg_ireturn C hQ d_R_pattern_20 rfl (by first | rfl | assumption) (PR_raise f0 i0 (Or.inl ⟨c_12, rfl, rfl⟩))
set_option maxHeartbeats 4000000 in
set_option maxRecDepth 100000 in
theorem c_R_define (Z : vg_Z) (hst : vg_St Z) (ad : Nat → Nat) (σ : sg) (d p : Int32) (P : Pm) (hW : PW P) (hI : IM σ P)  : vg_T Z M_R_define 0 0 [.ref (ad 117), .int d, .int p] (wd Z ad σ) (fun v w => PR Z ad σ (SpD P d p) v w) := by
  refine vg_enter hst (by decide) rfl (Nat.le_of_ble_eq_true rfl) ?_
  intro G C hQ
  show vg_K Z M_R_define G 0 0 0 [(0, .ref (ad 117)), (1, .int d), (2, .int p)] [] (wd Z ad σ)
  refine vg_aload_n C d_R_define_0 rfl ?_
  refine vg_iconst (v := 0) C d_R_define_1 (by decide) ?_
  refine wr_puti C d_R_define_2 f_R_70 p_R_0 rfl rfl rfl rfl rfl (Nat.le_of_ble_eq_true rfl) (wf_iR0 _ _ _) ?_
  obtain ⟨σ0, e0, i0, z0, f0⟩ := t0_ex hI
  rw [show sI σ 117 (upd (σ.1 117) 0 0) = σ0 from e0]
  obtain ⟨⟨g1, g2, g3, g4, g5, g6⟩, hM, g16, g24, h9⟩ := id i0
  have hn := hW.1.1
  have hnd := hM.1.1
  have hpn := hW.2.1
  refine vg_iload_n C d_R_define_5 rfl ?_
  refine vg_iconst (v := 0) C d_R_define_6 (by decide) ?_
  refine vg_iconst (v := 3) C d_R_define_7 (by decide) ?_
  refine vg_callS (As := [_, _, _]) C (c_R_in Z hst ad σ0 d 0 3) l_R_define_R_in k_R_76 rfl rfl (Nat.le_of_ble_eq_true rfl) d_R_define_8 ⟨Nat.le_of_ble_eq_true rfl, Nat.le_of_ble_eq_true rfl⟩ (fun v_8 w_8 h_8 => ?_)
  obtain ⟨rfl, rfl⟩ := h_8
  refine vg_if_ne (tgt := 20) C d_R_define_11 (by decide) (fun c_11 => ?_) (fun c_11 => ?_)
  · rw [bP_eq] at c_11; (try simp only [Classical.not_not] at c_11)
    refine vg_aload_n C d_R_define_20 rfl ?_
    refine vg_iload_n C d_R_define_21 rfl ?_
    refine wr_callV (As := [_]) C (c_R_made Z hst ad σ0 p (pN P) g6 hn) l_R_define_R_made k_R_80 rfl rfl rfl rfl rfl (Nat.le_of_ble_eq_true rfl) d_R_define_22 ⟨Nat.le_of_ble_eq_true rfl, Nat.le_of_ble_eq_true rfl⟩ (fun v_22 w_22 h_22 => ?_)
    obtain ⟨rfl, rfl⟩ := h_22
    refine vg_if_ne (tgt := 34) C d_R_define_25 (by decide) (fun c_25 => ?_) (fun c_25 => ?_)
    · rw [bP_eq] at c_25; (try simp only [Classical.not_not] at c_25)
      obtain ⟨i, hi, rfl⟩ := nJ_of (n := 4) (by decide) c_11.1 ((a_34 d).mp c_11.2)
      obtain ⟨q, hq, rfl⟩ := nJ_of (by omega) c_25.1 c_25.2
      refine vg_aload_n C d_R_define_34 rfl ?_
      refine vg_iload_n C d_R_define_35 rfl ?_
      refine vg_iload_n C d_R_define_36 rfl ?_
      refine wr_callV (As := [_, _]) C (c_R_comes Z hst ad σ0 (pN P) (pH P) (IM_G hW i0).1 (IM_G hW i0).2 q hq (nI i)) l_R_define_R_comes k_R_91 rfl rfl rfl rfl rfl (Nat.le_of_ble_eq_true rfl) d_R_define_37 ⟨Nat.le_of_ble_eq_true rfl, Nat.le_of_ble_eq_true rfl⟩ (fun v_37 w_37 h_37 => ?_)
      obtain ⟨rfl, r, rfl⟩ := h_37
      refine vg_if_eq (tgt := 49) C d_R_define_40 (by decide) (fun c_40 => ?_) (fun c_40 => ?_)
      · rw [bP_eq] at c_40; (try simp only [Classical.not_not] at c_40)
        refine vg_aload_n C d_R_define_49 rfl ?_
        refine wr_get C d_R_define_50 f_R_22 rfl rfl rfl rfl ?_
        refine vg_iload_n C d_R_define_53 rfl ?_
        refine wr_iald C d_R_define_54 rfl rfl (by exact vp_in_nI (by omega) (by decide)) ?_
        rw [nI_clamp (by omega), show (sI σ0 134 r).1 122 = pG P from g5]
        refine vg_if_lt (tgt := 62) C d_R_define_55 (by decide) (fun c_55 => ?_) (fun c_55 => ?_)
        · skip
          refine vg_iconst (v := 0) C d_R_define_62 (by decide) ?_
          refine vg_istore_n C d_R_define_63 (Nat.le_of_ble_eq_true rfl) rfl ?_
          refine vg_aload_n C d_R_define_64 rfl ?_
          refine wr_get C d_R_define_65 f_R_22 rfl rfl rfl rfl ?_
          refine vg_iload_n C d_R_define_68 rfl ?_
          refine vg_iload_n C d_R_define_69 rfl ?_
          refine wr_iast C d_R_define_70 rfl rfl (by exact vp_in_nI (by omega) (by decide)) ?_
          rw [nI_clamp (by omega)]
          refine vg_iload_n C d_R_define_71 rfl ?_
          refine vg_if_eq (tgt := 79) C d_R_define_72 (by decide) (fun _ => ?_) (fun c_72 => absurd (by decide) c_72)
          refine vg_iconst (v := 1) C d_R_define_79 (by decide) ?_
          exact vg_ireturn C hQ d_R_define_80 rfl (by first | rfl | assumption) (PR_ret (σ0 := sI (sI σ0 134 r) 122 (upd ((sI σ0 134 r).1 122) i (nI q))) (frM_sI (frM_sI f0 (by decide)) (by decide)) (IM_def (σ := sI σ0 134 r) i0) z0 (Or.inr (Or.inr (Or.inr ⟨⟨c_11.1, (a_34 _).mp c_11.2⟩, c_25, (by have q := c_40; rw [g1, g2, g3, g5] at q; rw [nI_clamp (by omega)]; exact q), rfl, by
    rw [nI_clamp (by omega)]
    first | rw [bP_t ((g_lt hW hi).mp c_55)] | rw [bP_f (fun z => c_55 ((g_lt hW hi).mpr z))], congrArg (fun k => p_def P k (nI q)) (nI_clamp (by omega)).symm⟩))))
        · skip
          refine vg_iconst (v := 1) C d_R_define_58 (by decide) ?_
          refine vg_goto (tgt := 63) C d_R_define_59 (by decide) ?_
          refine vg_istore_n C d_R_define_63 (Nat.le_of_ble_eq_true rfl) rfl ?_
          refine vg_aload_n C d_R_define_64 rfl ?_
          refine wr_get C d_R_define_65 f_R_22 rfl rfl rfl rfl ?_
          refine vg_iload_n C d_R_define_68 rfl ?_
          refine vg_iload_n C d_R_define_69 rfl ?_
          refine wr_iast C d_R_define_70 rfl rfl (by exact vp_in_nI (by omega) (by decide)) ?_
          rw [nI_clamp (by omega)]
          refine vg_iload_n C d_R_define_71 rfl ?_
          refine vg_if_eq (tgt := 79) C d_R_define_72 (by decide) (fun c_72 => absurd c_72 (by decide)) (fun _ => ?_)
          refine vg_iconst (v := 0) C d_R_define_75 (by decide) ?_
          refine vg_goto (tgt := 80) C d_R_define_76 (by decide) ?_
          exact vg_ireturn C hQ d_R_define_80 rfl (by first | rfl | assumption) (PR_ret (σ0 := sI (sI σ0 134 r) 122 (upd ((sI σ0 134 r).1 122) i (nI q))) (frM_sI (frM_sI f0 (by decide)) (by decide)) (IM_def (σ := sI σ0 134 r) i0) z0 (Or.inr (Or.inr (Or.inr ⟨⟨c_11.1, (a_34 _).mp c_11.2⟩, c_25, (by have q := c_40; rw [g1, g2, g3, g5] at q; rw [nI_clamp (by omega)]; exact q), rfl, by
    rw [nI_clamp (by omega)]
    first | rw [bP_t ((g_lt hW hi).mp c_55)] | rw [bP_f (fun z => c_55 ((g_lt hW hi).mpr z))], congrArg (fun k => p_def P k (nI q)) (nI_clamp (by omega)).symm⟩))))
      · rw [bP_eq] at c_40; (try simp only [Classical.not_not] at c_40)
        refine vg_aload_n C d_R_define_43 rfl ?_
        refine vg_iconst (v := 3) C d_R_define_44 (by decide) ?_
        refine wr_callV (As := [_]) C (c_R_raise Z hst ad _ 3) l_R_define_R_raise k_R_87 rfl rfl rfl rfl rfl (Nat.le_of_ble_eq_true rfl) d_R_define_45 ⟨Nat.le_of_ble_eq_true rfl, Nat.le_of_ble_eq_true rfl⟩ (fun v_45 w_45 h_45 => ?_)
        obtain ⟨rfl, rfl⟩ := h_45
        exact vg_ireturn C hQ d_R_define_48 rfl (by first | rfl | assumption) (PR_raise (σ0 := sI σ0 134 r) (frM_sI f0 (by decide)) i0 (Or.inr (Or.inr (Or.inl ⟨⟨c_11.1, (a_34 _).mp c_11.2⟩, c_25, (by have q := c_40; rw [g1, g2, g3, g5] at q; rw [nI_clamp (by omega)]; exact q), rfl, rfl⟩))))
    · rw [bP_eq] at c_25; (try simp only [Classical.not_not] at c_25)
      refine vg_aload_n C d_R_define_28 rfl ?_
      refine vg_iconst (v := 2) C d_R_define_29 (by decide) ?_
      refine wr_callV (As := [_]) C (c_R_raise Z hst ad σ0 2) l_R_define_R_raise k_R_87 rfl rfl rfl rfl rfl (Nat.le_of_ble_eq_true rfl) d_R_define_30 ⟨Nat.le_of_ble_eq_true rfl, Nat.le_of_ble_eq_true rfl⟩ (fun v_30 w_30 h_30 => ?_)
      obtain ⟨rfl, rfl⟩ := h_30
      exact vg_ireturn C hQ d_R_define_33 rfl (by first | rfl | assumption) (PR_raise f0 i0 (Or.inr (Or.inl ⟨⟨c_11.1, (a_34 d).mp c_11.2⟩, c_25, rfl, rfl⟩)))
  · rw [bP_eq] at c_11; (try simp only [Classical.not_not] at c_11)
    refine vg_aload_n C d_R_define_14 rfl ?_
    refine vg_iconst (v := 1) C d_R_define_15 (by decide) ?_
    refine wr_callV (As := [_]) C (c_R_raise Z hst ad σ0 1) l_R_define_R_raise k_R_87 rfl rfl rfl rfl rfl (Nat.le_of_ble_eq_true rfl) d_R_define_16 ⟨Nat.le_of_ble_eq_true rfl, Nat.le_of_ble_eq_true rfl⟩ (fun v_16 w_16 h_16 => ?_)
    obtain ⟨rfl, rfl⟩ := h_16
    exact vg_ireturn C hQ d_R_define_19 rfl (by first | rfl | assumption) (PR_raise f0 i0 (Or.inl ⟨fun z => c_11 ⟨z.1, (a_34 d).mpr z.2⟩, rfl, rfl⟩))
set_option maxHeartbeats 4000000 in
set_option maxRecDepth 100000 in
theorem lp_R_open {Z : vg_Z} (hst : vg_St Z) {G : vg_G} {post : Option Value → va_W → Prop} (C : vg_C Z M_R_open G) (hQ : vg_Rt Z G 0 0 post) (ad : Nat → Nat) (τ : sg) (m : Nat) (hm : m < 16) (nm : Int32) (w0 : Nat → Int32) (hk : ∀ w : Nat → Int32, (∀ i, (i < 6 * m ∨ 6 * m + 6 ≤ i → w i = w0 i) ∧ (6 * m ≤ i → i < 6 * m + 6 → w i = 0)) → vg_K Z M_R_open G 0 0 185 [(2, .int (nI m)), (0, .ref (ad 117)), (1, .int nm)] [] (wd Z ad (sI τ 126 w))) : ∀ (n2 k : Nat) (w : Nat → Int32) (hlt : 6 < k + n2) (hk6 : k ≤ 6), (∀ i, (i < 6 * m ∨ 6 * m + 6 ≤ i → w i = w0 i) ∧ (6 * m ≤ i → i < 6 * m + k → w i = 0)) → vg_K Z M_R_open G 0 0 161 [(3, .int (nI (6 * m + k))), (2, .int (nI m)), (0, .ref (ad 117)), (1, .int nm)] [] (wd Z ad (sI τ 126 w)) := by
  intro n2
  induction n2 with
  | zero =>
    intro k w hlt hk6
    exact absurd hlt (by omega)
  | succ n2 ih =>
    intro k w hlt hk6 hw
    refine vg_iload_n C d_R_open_161 rfl ?_
    refine vg_bipush (v := 6) C d_R_open_162 (by decide) ?_
    refine vg_iload_n C d_R_open_164 rfl ?_
    refine vg_imul C d_R_open_165 ?_
    rw [show (6 : Int32) = nI 6 from rfl, pk_mul]
    refine vg_bipush (v := 6) C d_R_open_166 (by decide) ?_
    refine vg_iadd C d_R_open_168 ?_
    rw [show (6 : Int32) = nI 6 from rfl, nI_add]
    refine vg_icmp_ge (tgt := 185) C d_R_open_169 (by decide) (fun c_169 => ?_) (fun c_169 => ?_)
    · rw [nI_leI (by omega) (by omega)] at c_169
      refine vg_lv [1, 2, 3] rfl ?_
      exact hk w (fun i => ⟨(hw i).1, fun h1 h2 => (hw i).2 h1 (by omega)⟩)
    · rw [nI_leI (by omega) (by omega)] at c_169
      refine vg_aload_n C d_R_open_172 rfl ?_
      refine wr_get C d_R_open_173 f_R_34 rfl rfl rfl rfl ?_
      refine vg_iload_n C d_R_open_176 rfl ?_
      refine vg_iconst (v := 0) C d_R_open_177 (by decide) ?_
      refine wr_zast C d_R_open_178 rfl rfl (by exact vp_in_nI (by omega) (by decide)) ?_
      rw [nI_clamp (by omega), sI_sI, sI_at, show vp_nar .boolean 0 = 0 from rfl]
      refine vg_iinc (v := nI (6 * m + (k + 1))) C d_R_open_179 rfl (nI_1 (6 * m + k)) (Nat.le_of_ble_eq_true rfl) rfl ?_
      refine vg_goto (tgt := 161) C d_R_open_182 (by decide) ?_
      exact ih (k + 1) _ (by omega) (by omega) (fun i => ⟨fun hi => (pk_un (by omega)).trans ((hw i).1 hi), fun h1 h2 => by
          by_cases e : i = 6 * m + k
          · rw [e, pk_us]
          · rw [pk_un e]
            exact (hw i).2 h1 (by omega)⟩)
set_option maxHeartbeats 4000000 in
set_option maxRecDepth 100000 in
theorem c_R_open (Z : vg_Z) (hst : vg_St Z) (ad : Nat → Nat) (σ : sg) (nm : Int32) (P : Pm) (hW : PW P) (hI : IM σ P)  : vg_T Z M_R_open 0 0 [.ref (ad 117), .int nm] (wd Z ad σ) (fun v w => PR Z ad σ (SpO P nm) v w) := by
  refine vg_enter hst (by decide) rfl (Nat.le_of_ble_eq_true rfl) ?_
  intro G C hQ
  show vg_K Z M_R_open G 0 0 0 [(0, .ref (ad 117)), (1, .int nm)] [] (wd Z ad σ)
  refine vg_aload_n C d_R_open_0 rfl ?_
  refine vg_iconst (v := 0) C d_R_open_1 (by decide) ?_
  refine wr_puti C d_R_open_2 f_R_70 p_R_0 rfl rfl rfl rfl rfl (Nat.le_of_ble_eq_true rfl) (wf_iR0 _ _ _) ?_
  obtain ⟨σ0, e0, i0, z0, f0⟩ := t0_ex hI
  rw [show sI σ 117 (upd (σ.1 117) 0 0) = σ0 from e0]
  obtain ⟨⟨g1, g2, g3, g4, g5, g6⟩, hM, g16, g24, h9⟩ := id i0
  have hn := hW.1.1
  have hnd := hM.1.1
  have hpn := hW.2.1
  refine vg_iload_n C d_R_open_5 rfl ?_
  refine vg_iconst (v := 0) C d_R_open_6 (by decide) ?_
  refine vg_iconst (v := 5) C d_R_open_7 (by decide) ?_
  refine vg_callS (As := [_, _, _]) C (c_R_in Z hst ad σ0 nm 0 5) l_R_open_R_in k_R_76 rfl rfl (Nat.le_of_ble_eq_true rfl) d_R_open_8 ⟨Nat.le_of_ble_eq_true rfl, Nat.le_of_ble_eq_true rfl⟩ (fun v_8 w_8 h_8 => ?_)
  obtain ⟨rfl, rfl⟩ := h_8
  refine vg_if_ne (tgt := 20) C d_R_open_11 (by decide) (fun c_11 => ?_) (fun c_11 => ?_)
  · rw [bP_eq] at c_11; (try simp only [Classical.not_not] at c_11)
    by_cases h0 : pn P = 0
    · have e16 : σ0.1 117 16 = -1 := g16.trans (opn_0 h0)
      refine vg_aload_n C d_R_open_20 rfl ?_
      refine wr_get C d_R_open_21 f_R_95 rfl rfl rfl rfl ?_
      rw [hM.2.1]
      refine vg_if_le (tgt := 34) C d_R_open_24 (by decide) (fun c_24 => ?_) (fun c_24 => ?_)
      · rw [nI_gt0 (by omega)] at c_24
        refine vg_aload_n C d_R_open_34 rfl ?_
        refine wr_get C d_R_open_35 f_R_95 rfl rfl rfl rfl ?_
        rw [hM.2.1]
        refine vg_bipush (v := 16) C d_R_open_38 (by decide) ?_
        refine vg_icmp_ne (tgt := 49) C d_R_open_40 (by decide) (fun _ => ?_) (fun c_40 => absurd c_40 (by rw [c_24]; decide))
        refine vg_aload_n C d_R_open_49 rfl ?_
        refine wr_get C d_R_open_50 f_R_50 rfl rfl rfl rfl ?_
        rw [e16]
        refine vg_if_lt (tgt := 89) C d_R_open_53 (by decide) (fun _ => ?_) (fun c_53 => absurd m1_lt0 c_53)
        have hT : TN P := Or.inl ⟨h0, c_24⟩
        refine vg_aload_n C d_R_open_89 rfl ?_
        refine wr_get C d_R_open_90 f_R_95 rfl rfl rfl rfl ?_
        rw [hM.2.1]
        refine vg_istore_n C d_R_open_93 (Nat.le_of_ble_eq_true rfl) rfl ?_
        refine vg_aload_n C d_R_open_94 rfl ?_
        refine vg_dup C d_R_open_95 rfl ?_
        refine wr_get C d_R_open_96 f_R_95 rfl rfl rfl rfl ?_
        rw [hM.2.1]
        refine vg_iconst (v := 1) C d_R_open_99 (by decide) ?_
        refine vg_iadd C d_R_open_100 ?_
        rw [nI_1]
        refine wr_puti C d_R_open_101 f_R_95 p_R_15 rfl rfl rfl rfl rfl (Nat.le_of_ble_eq_true rfl) (wf_iR15 _ _ _) ?_
        refine vg_aload_n C d_R_open_104 rfl ?_
        refine wr_get C d_R_open_105 f_R_25 rfl rfl rfl rfl ?_
        refine vg_iload_n C d_R_open_108 rfl ?_
        refine vg_iload_n C d_R_open_109 rfl ?_
        refine wr_iast C d_R_open_110 rfl rfl (by exact vp_in_nI (by omega) (by decide)) ?_
        rw [nI_clamp (by omega)]
        refine vg_aload_n C d_R_open_111 rfl ?_
        refine wr_get C d_R_open_112 f_R_28 rfl rfl rfl rfl ?_
        refine vg_iload_n C d_R_open_115 rfl ?_
        refine vg_aload_n C d_R_open_116 rfl ?_
        refine wr_get C d_R_open_117 f_R_50 rfl rfl rfl rfl ?_
        simp (disch := decide) only [sI_ne, sI_at, sL_ne, sL_at, sL_1, sI_2, pk_un, e16]
        refine wr_iast C d_R_open_120 rfl rfl (by exact vp_in_nI (by omega) (by decide)) ?_
        rw [nI_clamp (by omega)]
        refine vg_aload_n C d_R_open_121 rfl ?_
        refine wr_get C d_R_open_122 f_R_31 rfl rfl rfl rfl ?_
        refine vg_iload_n C d_R_open_125 rfl ?_
        refine vg_aload_n C d_R_open_126 rfl ?_
        refine wr_get C d_R_open_127 f_R_50 rfl rfl rfl rfl ?_
        simp (disch := decide) only [sI_ne, sI_at, sL_ne, sL_at, sL_1, sI_2, pk_un, e16]
        refine vg_if_ge (tgt := 137) C d_R_open_130 (by decide) (fun c_130 => absurd c_130 (by decide)) (fun _ => ?_)
        refine vg_iconst (v := 1) C d_R_open_133 (by decide) ?_
        refine vg_goto (tgt := 148) C d_R_open_134 (by decide) ?_
        refine wr_iast C d_R_open_148 rfl rfl (by exact vp_in_nI (by omega) (by decide)) ?_
        rw [nI_clamp (by omega)]
        refine vg_aload_n C d_R_open_149 rfl ?_
        refine wr_get C d_R_open_150 f_R_47 rfl rfl rfl rfl ?_
        refine vg_iload_n C d_R_open_153 rfl ?_
        refine vg_iconst (v := 0) C d_R_open_154 (by decide) ?_
        refine wr_iast C d_R_open_155 rfl rfl (by exact vp_in_nI (by omega) (by decide)) ?_
        rw [nI_clamp (by omega)]
        refine vg_bipush (v := 6) C d_R_open_156 (by decide) ?_
        refine vg_iload_n C d_R_open_158 rfl ?_
        refine vg_imul C d_R_open_159 ?_
        rw [show (6 : Int32) = nI 6 from rfl, pk_mul]
        refine vg_istore_n C d_R_open_160 (Nat.le_of_ble_eq_true rfl) rfl ?_
        refine vg_w (ws' := wd Z ad (sI (sI (sI (sI (sI (sI σ0 117 (upd (σ0.1 117) 15 (nI (pd P + 1)))) 123 (upd (σ0.1 123) (pd P) nm)) 124 (upd (σ0.1 124) (pd P) (-1))) 125 (upd (σ0.1 125) (pd P) 1)) 130 (upd (σ0.1 130) (pd P) 0)) 126 (σ0.1 126))) (by simp (disch := decide) only [sI_ne, sI_at, sL_ne, sL_at, sL_1, sI_2]; rw [show σ0.1 126 = (sI (sI (sI (sI (sI σ0 117 (upd (σ0.1 117) 15 (nI (pd P + 1)))) 123 (upd (σ0.1 123) (pd P) nm)) 124 (upd (σ0.1 124) (pd P) (-1))) 125 (upd (σ0.1 125) (pd P) 1)) 130 (upd (σ0.1 130) (pd P) 0)).1 126 from rfl, sI_id]) ?_
        refine lp_R_open hst C hQ ad (sI (sI (sI (sI (sI σ0 117 (upd (σ0.1 117) 15 (nI (pd P + 1)))) 123 (upd (σ0.1 123) (pd P) nm)) 124 (upd (σ0.1 124) (pd P) (-1))) 125 (upd (σ0.1 125) (pd P) 1)) 130 (upd (σ0.1 130) (pd P) 0)) (pd P) (by omega) nm (σ0.1 126) (fun w hw => ?_) 7 0 _ (by omega) (by omega) (fun i => ⟨fun _ => rfl, fun h1 h2 => absurd h2 (by omega)⟩)
        refine vg_aload_n C d_R_open_185 rfl ?_
        refine wr_get C d_R_open_186 f_R_50 rfl rfl rfl rfl ?_
        simp (disch := decide) only [sI_ne, sI_at, sL_ne, sL_at, sL_1, sI_2, pk_un, e16]
        refine vg_if_lt (tgt := 228) C d_R_open_189 (by decide) (fun _ => ?_) (fun c_189 => absurd m1_lt0 c_189)
        refine vg_aload_n C d_R_open_228 rfl ?_
        refine vg_iload_n C d_R_open_229 rfl ?_
        refine wr_puti C d_R_open_230 f_R_50 p_R_16 rfl rfl rfl rfl rfl (Nat.le_of_ble_eq_true rfl) (wf_iR16 _ _ _) ?_
        simp (disch := decide) only [sI_ne, sI_at, sL_ne, sL_at, sL_1, sI_2, pk_un, e16]
        refine vg_iload_n C d_R_open_233 rfl ?_
        exact vg_ireturn C hQ d_R_open_234 rfl (by first | rfl | assumption) (by
              refine PR_ret (P' := p_open P nm) ?_ (IM_open hW i0 hT rfl rfl rfl rfl rfl rfl rfl rfl rfl (by first | rfl | rw [opn_0 h0]; rfl | rw [opn_s h0]; rfl) (by first | rfl | rw [h0]; rfl) hw rfl (by first | rw [if_pos h0]; rfl | rw [if_neg h0]; rfl) rfl (by first | rw [if_pos h0]; rfl | rw [if_neg h0]; rfl) rfl) z0 (Or.inr (Or.inr ⟨h_lt1 c_11, hT, rfl, rfl, rfl⟩))
              intro j hj
              refine ⟨?_, (f0 j hj).2⟩
              simp (disch := omega) only [sI_ne]
              exact (f0 j hj).1)
      · rw [nI_gt0 (by omega)] at c_24
        refine vg_aload_n C d_R_open_27 rfl ?_
        refine wr_get C d_R_open_28 f_R_50 rfl rfl rfl rfl ?_
        rw [e16]
        refine vg_if_lt (tgt := 43) C d_R_open_31 (by decide) (fun _ => ?_) (fun c_31 => absurd m1_lt0 c_31)
        refine vg_aload_n C d_R_open_43 rfl ?_
        refine vg_iconst (v := 2) C d_R_open_44 (by decide) ?_
        refine wr_callV (As := [_]) C (c_R_raise Z hst ad σ0 2) l_R_open_R_raise k_R_87 rfl rfl rfl rfl rfl (Nat.le_of_ble_eq_true rfl) d_R_open_45 ⟨Nat.le_of_ble_eq_true rfl, Nat.le_of_ble_eq_true rfl⟩ (fun v_45 w_45 h_45 => ?_)
        obtain ⟨rfl, rfl⟩ := h_45
        exact vg_ireturn C hQ d_R_open_48 rfl (by first | rfl | assumption) (PR_raise f0 i0 (Or.inr (Or.inl ⟨h_lt1 c_11, fun z => by rcases z with z | z; exact c_24 z.2; exact z.1 h0, rfl, rfl⟩)))
    · have e16 : σ0.1 117 16 = nI (pT P) := g16.trans (opn_s h0)
      have hT1 : pT P < pd P := hW.2.2 (pn P - 1) (by omega)
      have e25 : σ0.1 125 (pT P) = nI (pn P) := ((g24 (pn P - 1) (by omega)).2).trans (by rw [show pn P - 1 + 1 = pn P by omega])
      have e30 := (hM.2.2 (pT P) hT1).2.2.1
      have h66 := (hM.1.2 (pT P) hT1).1
      refine vg_aload_n C d_R_open_20 rfl ?_
      refine wr_get C d_R_open_21 f_R_95 rfl rfl rfl rfl ?_
      rw [hM.2.1]
      refine vg_if_le (tgt := 34) C d_R_open_24 (by decide) (fun c_24 => absurd c_24 (fun z => by rw [nI_gt0 (by omega)] at z; omega)) (fun _ => ?_)
      refine vg_aload_n C d_R_open_27 rfl ?_
      refine wr_get C d_R_open_28 f_R_50 rfl rfl rfl rfl ?_
      rw [e16]
      refine vg_if_lt (tgt := 43) C d_R_open_31 (by decide) (fun c_31 => absurd c_31 (i32_lt0 (by omega))) (fun _ => ?_)
      refine vg_aload_n C d_R_open_34 rfl ?_
      refine wr_get C d_R_open_35 f_R_95 rfl rfl rfl rfl ?_
      rw [hM.2.1]
      refine vg_bipush (v := 16) C d_R_open_38 (by decide) ?_
      refine vg_icmp_ne (tgt := 49) C d_R_open_40 (by decide) (fun c_40 => ?_) (fun c_40 => ?_)
      · rw [show (16 : Int32) = nI 16 from rfl, nI_eq (by omega) (by decide)] at c_40
        refine vg_aload_n C d_R_open_49 rfl ?_
        refine wr_get C d_R_open_50 f_R_50 rfl rfl rfl rfl ?_
        rw [e16]
        refine vg_if_lt (tgt := 89) C d_R_open_53 (by decide) (fun c_53 => absurd c_53 (i32_lt0 (by omega))) (fun _ => ?_)
        refine vg_aload_n C d_R_open_56 rfl ?_
        refine wr_get C d_R_open_57 f_R_31 rfl rfl rfl rfl ?_
        refine vg_aload_n C d_R_open_60 rfl ?_
        refine wr_get C d_R_open_61 f_R_50 rfl rfl rfl rfl ?_
        rw [e16]
        refine wr_iald C d_R_open_64 rfl rfl (by exact vp_in_nI (by omega) (by decide)) ?_
        rw [nI_clamp (by omega), e25]
        refine vg_iconst (v := 4) C d_R_open_65 (by decide) ?_
        refine vg_icmp_eq (tgt := 83) C d_R_open_66 (by decide) (fun c_66 => ?_) (fun c_66 => ?_)
        · rw [show (4 : Int32) = nI 4 from rfl, nI_eq (by omega) (by decide)] at c_66
          refine vg_aload_n C d_R_open_83 rfl ?_
          refine vg_iconst (v := 2) C d_R_open_84 (by decide) ?_
          refine wr_callV (As := [_]) C (c_R_raise Z hst ad σ0 2) l_R_open_R_raise k_R_87 rfl rfl rfl rfl rfl (Nat.le_of_ble_eq_true rfl) d_R_open_85 ⟨Nat.le_of_ble_eq_true rfl, Nat.le_of_ble_eq_true rfl⟩ (fun v_85 w_85 h_85 => ?_)
          obtain ⟨rfl, rfl⟩ := h_85
          exact vg_ireturn C hQ d_R_open_88 rfl (by first | rfl | assumption) (PR_raise f0 i0 (Or.inr (Or.inl ⟨h_lt1 c_11, fun z => by rcases z with z | z; exact h0 z.1; omega, rfl, rfl⟩)))
        · rw [show (4 : Int32) = nI 4 from rfl, nI_eq (by omega) (by decide)] at c_66
          refine vg_aload_n C d_R_open_69 rfl ?_
          refine wr_get C d_R_open_70 f_R_47 rfl rfl rfl rfl ?_
          refine vg_aload_n C d_R_open_73 rfl ?_
          refine wr_get C d_R_open_74 f_R_50 rfl rfl rfl rfl ?_
          rw [e16]
          refine wr_iald C d_R_open_77 rfl rfl (by exact vp_in_nI (by omega) (by decide)) ?_
          rw [nI_clamp (by omega), e30]
          refine vg_bipush (v := 6) C d_R_open_78 (by decide) ?_
          refine vg_icmp_ne (tgt := 89) C d_R_open_80 (by decide) (fun c_80 => ?_) (fun c_80 => ?_)
          · rw [show (6 : Int32) = nI 6 from rfl, nI_eq (by omega) (by decide)] at c_80
            have hT : TN P := Or.inr ⟨h0, by omega, by omega, by omega⟩
            refine vg_aload_n C d_R_open_89 rfl ?_
            refine wr_get C d_R_open_90 f_R_95 rfl rfl rfl rfl ?_
            rw [hM.2.1]
            refine vg_istore_n C d_R_open_93 (Nat.le_of_ble_eq_true rfl) rfl ?_
            refine vg_aload_n C d_R_open_94 rfl ?_
            refine vg_dup C d_R_open_95 rfl ?_
            refine wr_get C d_R_open_96 f_R_95 rfl rfl rfl rfl ?_
            rw [hM.2.1]
            refine vg_iconst (v := 1) C d_R_open_99 (by decide) ?_
            refine vg_iadd C d_R_open_100 ?_
            rw [nI_1]
            refine wr_puti C d_R_open_101 f_R_95 p_R_15 rfl rfl rfl rfl rfl (Nat.le_of_ble_eq_true rfl) (wf_iR15 _ _ _) ?_
            refine vg_aload_n C d_R_open_104 rfl ?_
            refine wr_get C d_R_open_105 f_R_25 rfl rfl rfl rfl ?_
            refine vg_iload_n C d_R_open_108 rfl ?_
            refine vg_iload_n C d_R_open_109 rfl ?_
            refine wr_iast C d_R_open_110 rfl rfl (by exact vp_in_nI (by omega) (by decide)) ?_
            rw [nI_clamp (by omega)]
            refine vg_aload_n C d_R_open_111 rfl ?_
            refine wr_get C d_R_open_112 f_R_28 rfl rfl rfl rfl ?_
            refine vg_iload_n C d_R_open_115 rfl ?_
            refine vg_aload_n C d_R_open_116 rfl ?_
            refine wr_get C d_R_open_117 f_R_50 rfl rfl rfl rfl ?_
            simp (disch := decide) only [sI_ne, sI_at, sL_ne, sL_at, sL_1, sI_2, pk_un, e16]
            refine wr_iast C d_R_open_120 rfl rfl (by exact vp_in_nI (by omega) (by decide)) ?_
            rw [nI_clamp (by omega)]
            refine vg_aload_n C d_R_open_121 rfl ?_
            refine wr_get C d_R_open_122 f_R_31 rfl rfl rfl rfl ?_
            refine vg_iload_n C d_R_open_125 rfl ?_
            refine vg_aload_n C d_R_open_126 rfl ?_
            refine wr_get C d_R_open_127 f_R_50 rfl rfl rfl rfl ?_
            simp (disch := decide) only [sI_ne, sI_at, sL_ne, sL_at, sL_1, sI_2, pk_un, e16]
            refine vg_if_ge (tgt := 137) C d_R_open_130 (by decide) (fun _ => ?_) (fun c_130 => absurd (i32_ge0 (by omega)) c_130)
            refine vg_aload_n C d_R_open_137 rfl ?_
            refine wr_get C d_R_open_138 f_R_31 rfl rfl rfl rfl ?_
            refine vg_aload_n C d_R_open_141 rfl ?_
            refine wr_get C d_R_open_142 f_R_50 rfl rfl rfl rfl ?_
            simp (disch := decide) only [sI_ne, sI_at, sL_ne, sL_at, sL_1, sI_2, pk_un, e16]
            refine wr_iald C d_R_open_145 rfl rfl (by exact vp_in_nI (by omega) (by decide)) ?_
            rw [nI_clamp (by omega)]
            simp (disch := decide) only [sI_ne, sI_at, sL_ne, sL_at, sL_1, sI_2, pk_un, e16]
            rw [e25]
            refine vg_iconst (v := 1) C d_R_open_146 (by decide) ?_
            refine vg_iadd C d_R_open_147 ?_
            rw [nI_1]
            refine wr_iast C d_R_open_148 rfl rfl (by exact vp_in_nI (by omega) (by decide)) ?_
            rw [nI_clamp (by omega)]
            refine vg_aload_n C d_R_open_149 rfl ?_
            refine wr_get C d_R_open_150 f_R_47 rfl rfl rfl rfl ?_
            refine vg_iload_n C d_R_open_153 rfl ?_
            refine vg_iconst (v := 0) C d_R_open_154 (by decide) ?_
            refine wr_iast C d_R_open_155 rfl rfl (by exact vp_in_nI (by omega) (by decide)) ?_
            rw [nI_clamp (by omega)]
            refine vg_bipush (v := 6) C d_R_open_156 (by decide) ?_
            refine vg_iload_n C d_R_open_158 rfl ?_
            refine vg_imul C d_R_open_159 ?_
            rw [show (6 : Int32) = nI 6 from rfl, pk_mul]
            refine vg_istore_n C d_R_open_160 (Nat.le_of_ble_eq_true rfl) rfl ?_
            refine vg_w (ws' := wd Z ad (sI (sI (sI (sI (sI (sI σ0 117 (upd (σ0.1 117) 15 (nI (pd P + 1)))) 123 (upd (σ0.1 123) (pd P) nm)) 124 (upd (σ0.1 124) (pd P) (nI (pT P)))) 125 (upd (σ0.1 125) (pd P) (nI (pn P + 1)))) 130 (upd (σ0.1 130) (pd P) 0)) 126 (σ0.1 126))) (by simp (disch := decide) only [sI_ne, sI_at, sL_ne, sL_at, sL_1, sI_2]; rw [show σ0.1 126 = (sI (sI (sI (sI (sI σ0 117 (upd (σ0.1 117) 15 (nI (pd P + 1)))) 123 (upd (σ0.1 123) (pd P) nm)) 124 (upd (σ0.1 124) (pd P) (nI (pT P)))) 125 (upd (σ0.1 125) (pd P) (nI (pn P + 1)))) 130 (upd (σ0.1 130) (pd P) 0)).1 126 from rfl, sI_id]) ?_
            refine lp_R_open hst C hQ ad (sI (sI (sI (sI (sI σ0 117 (upd (σ0.1 117) 15 (nI (pd P + 1)))) 123 (upd (σ0.1 123) (pd P) nm)) 124 (upd (σ0.1 124) (pd P) (nI (pT P)))) 125 (upd (σ0.1 125) (pd P) (nI (pn P + 1)))) 130 (upd (σ0.1 130) (pd P) 0)) (pd P) (by omega) nm (σ0.1 126) (fun w hw => ?_) 7 0 _ (by omega) (by omega) (fun i => ⟨fun _ => rfl, fun h1 h2 => absurd h2 (by omega)⟩)
            refine vg_aload_n C d_R_open_185 rfl ?_
            refine wr_get C d_R_open_186 f_R_50 rfl rfl rfl rfl ?_
            simp (disch := decide) only [sI_ne, sI_at, sL_ne, sL_at, sL_1, sI_2, pk_un, e16]
            refine vg_if_lt (tgt := 228) C d_R_open_189 (by decide) (fun c_189 => absurd c_189 (i32_lt0 (by omega))) (fun _ => ?_)
            refine vg_aload_n C d_R_open_192 rfl ?_
            refine wr_get C d_R_open_193 f_R_41 rfl rfl rfl rfl ?_
            refine vg_bipush (v := 6) C d_R_open_196 (by decide) ?_
            refine vg_aload_n C d_R_open_198 rfl ?_
            refine wr_get C d_R_open_199 f_R_50 rfl rfl rfl rfl ?_
            simp (disch := decide) only [sI_ne, sI_at, sL_ne, sL_at, sL_1, sI_2, pk_un, e16]
            refine vg_imul C d_R_open_202 ?_
            rw [show (6 : Int32) = nI 6 from rfl, pk_mul]
            refine vg_aload_n C d_R_open_203 rfl ?_
            refine wr_get C d_R_open_204 f_R_47 rfl rfl rfl rfl ?_
            refine vg_aload_n C d_R_open_207 rfl ?_
            refine wr_get C d_R_open_208 f_R_50 rfl rfl rfl rfl ?_
            simp (disch := decide) only [sI_ne, sI_at, sL_ne, sL_at, sL_1, sI_2, pk_un, e16]
            refine wr_iald C d_R_open_211 rfl rfl (by exact vp_in_nI (by omega) (by decide)) ?_
            rw [nI_clamp (by omega)]
            simp (disch := decide) only [sI_ne, sI_at, sL_ne, sL_at, sL_1, sI_2, pk_un, e16]
            rw [pk_un (by omega), e30]
            refine vg_iadd C d_R_open_212 ?_
            rw [nI_add]
            refine vg_iload_n C d_R_open_213 rfl ?_
            refine wr_iast C d_R_open_214 rfl rfl (by exact vp_in_nI (by omega) (by decide)) ?_
            rw [nI_clamp (by omega)]
            refine vg_aload_n C d_R_open_215 rfl ?_
            refine wr_get C d_R_open_216 f_R_47 rfl rfl rfl rfl ?_
            refine vg_aload_n C d_R_open_219 rfl ?_
            refine wr_get C d_R_open_220 f_R_50 rfl rfl rfl rfl ?_
            simp (disch := decide) only [sI_ne, sI_at, sL_ne, sL_at, sL_1, sI_2, pk_un, e16]
            refine vg_dup2 C d_R_open_223 rfl rfl ?_
            refine wr_iald C d_R_open_224 rfl rfl (by exact vp_in_nI (by omega) (by decide)) ?_
            rw [nI_clamp (by omega)]
            simp (disch := decide) only [sI_ne, sI_at, sL_ne, sL_at, sL_1, sI_2, pk_un, e16]
            rw [pk_un (by omega), e30]
            refine vg_iconst (v := 1) C d_R_open_225 (by decide) ?_
            refine vg_iadd C d_R_open_226 ?_
            rw [nI_1]
            refine wr_iast C d_R_open_227 rfl rfl (by exact vp_in_nI (by omega) (by decide)) ?_
            rw [nI_clamp (by omega)]
            simp (disch := decide) only [sI_ne, sI_at, sL_ne, sL_at, sL_1, sI_2, pk_un, e16]
            refine vg_aload_n C d_R_open_228 rfl ?_
            refine vg_iload_n C d_R_open_229 rfl ?_
            refine wr_puti C d_R_open_230 f_R_50 p_R_16 rfl rfl rfl rfl rfl (Nat.le_of_ble_eq_true rfl) (wf_iR16 _ _ _) ?_
            simp (disch := decide) only [sI_ne, sI_at, sL_ne, sL_at, sL_1, sI_2, pk_un, e16]
            refine vg_iload_n C d_R_open_233 rfl ?_
            exact vg_ireturn C hQ d_R_open_234 rfl (by first | rfl | assumption) (by
                  refine PR_ret (P' := p_open P nm) ?_ (IM_open hW i0 hT rfl rfl rfl rfl rfl rfl rfl rfl rfl (by first | rfl | rw [opn_0 h0]; rfl | rw [opn_s h0]; rfl) (by first | rfl | rw [h0]; rfl) hw rfl (by first | rw [if_pos h0]; rfl | rw [if_neg h0]; rfl) rfl (by first | rw [if_pos h0]; rfl | rw [if_neg h0]; rfl) rfl) z0 (Or.inr (Or.inr ⟨h_lt1 c_11, hT, rfl, rfl, rfl⟩))
                  intro j hj
                  refine ⟨?_, (f0 j hj).2⟩
                  simp (disch := omega) only [sI_ne]
                  exact (f0 j hj).1)
          · rw [show (6 : Int32) = nI 6 from rfl, nI_eq (by omega) (by decide)] at c_80
            refine vg_aload_n C d_R_open_83 rfl ?_
            refine vg_iconst (v := 2) C d_R_open_84 (by decide) ?_
            refine wr_callV (As := [_]) C (c_R_raise Z hst ad σ0 2) l_R_open_R_raise k_R_87 rfl rfl rfl rfl rfl (Nat.le_of_ble_eq_true rfl) d_R_open_85 ⟨Nat.le_of_ble_eq_true rfl, Nat.le_of_ble_eq_true rfl⟩ (fun v_85 w_85 h_85 => ?_)
            obtain ⟨rfl, rfl⟩ := h_85
            exact vg_ireturn C hQ d_R_open_88 rfl (by first | rfl | assumption) (PR_raise f0 i0 (Or.inr (Or.inl ⟨h_lt1 c_11, fun z => by rcases z with z | z; exact h0 z.1; omega, rfl, rfl⟩)))
      · rw [show (16 : Int32) = nI 16 from rfl, nI_eq (by omega) (by decide)] at c_40
        refine vg_aload_n C d_R_open_43 rfl ?_
        refine vg_iconst (v := 2) C d_R_open_44 (by decide) ?_
        refine wr_callV (As := [_]) C (c_R_raise Z hst ad σ0 2) l_R_open_R_raise k_R_87 rfl rfl rfl rfl rfl (Nat.le_of_ble_eq_true rfl) d_R_open_45 ⟨Nat.le_of_ble_eq_true rfl, Nat.le_of_ble_eq_true rfl⟩ (fun v_45 w_45 h_45 => ?_)
        obtain ⟨rfl, rfl⟩ := h_45
        exact vg_ireturn C hQ d_R_open_48 rfl (by first | rfl | assumption) (PR_raise f0 i0 (Or.inr (Or.inl ⟨h_lt1 c_11, fun z => by rcases z with z | z; exact h0 z.1; omega, rfl, rfl⟩)))
  · rw [bP_eq] at c_11; (try simp only [Classical.not_not] at c_11)
    refine vg_aload_n C d_R_open_14 rfl ?_
    refine vg_iconst (v := 1) C d_R_open_15 (by decide) ?_
    refine wr_callV (As := [_]) C (c_R_raise Z hst ad σ0 1) l_R_open_R_raise k_R_87 rfl rfl rfl rfl rfl (Nat.le_of_ble_eq_true rfl) d_R_open_16 ⟨Nat.le_of_ble_eq_true rfl, Nat.le_of_ble_eq_true rfl⟩ (fun v_16 w_16 h_16 => ?_)
    obtain ⟨rfl, rfl⟩ := h_16
    exact vg_ireturn C hQ d_R_open_19 rfl (by first | rfl | assumption) (PR_raise f0 i0 (Or.inl ⟨h_lt2 c_11, rfl, rfl⟩))
