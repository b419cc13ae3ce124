/-! Matcher: rowsOfOneElement, matchAttributes, append -/
noncomputable def mA (R : Nat → Int64) (p : Nat) (q : Nat → Prop) : Nat → Nat → Int64
  | 0 => R
  | i + 1 => @ite _ (q i) (Classical.propDecidable _) (vp_updL (mA R p q i) (p * 8 + 2 ^ i) 1) (mA R p q i)
theorem mA_t {R : Nat → Int64} {p i : Nat} {q : Nat → Prop} (h : q i) : mA R p q (i + 1) = vp_updL (mA R p q i) (p * 8 + 2 ^ i) 1 := if_pos h
theorem mA_f {R : Nat → Int64} {p i : Nat} {q : Nat → Prop} (h : ¬ q i) : mA R p q (i + 1) = mA R p q i := if_neg h
theorem nI_nm1 {n : Nat} (h : n < 2 ^ 31) : nI n ≠ -1 := by
  intro e
  have := congrArg Int32.toInt e
  rw [nI_toInt h, i32_m1] at this
  omega
theorem qe_1 {cd : Nat → Option Nat} {i : Nat} {c : Int32} (h : (cd i = none ∧ c = -1) ∨ ∃ t, cd i = some t ∧ t < 16 ∧ c = nI t) (e : c = -1) : cd i = none := by
  rcases h with h | ⟨t, h1, h2, h3⟩
  · exact h.1
  · exact absurd (h3.symm.trans e) (nI_nm1 (by omega))
theorem p2_3 : ∀ i, i < 3 → 2 ^ i ≤ 4 := by decide
set_option maxHeartbeats 4000000 in
set_option maxRecDepth 100000 in
theorem lp_T_rowsOfOneElement {Z : vg_Z} (hst : vg_St Z) {G : vg_G} {post : Option Value → va_W → Prop} (C : vg_C Z M_T_rowsOfOneElement G) (hQ : vg_Rt Z G 0 0 post) (ad : Nat → Nat) (σ : sg) (k : Nat) (hk : wd_kl[k]? = some 6) (nc : Nat) (hc : σ.1 k 7 = nI nc) (hc6 : nc ≤ 6) (cd : Nat → Option Nat) (hcd : ∀ i, i < nc → (cd i = none ∧ σ.1 (k + 4) i = -1) ∨ ∃ t, cd i = some t ∧ t < 16 ∧ σ.1 (k + 4) i = nI t) (nm : Int32) (q : Nat) (hq : q < 40) (hp : post (some (.long (rO (fun i => ∃ t, cd i = some t ∧ (nm = 6 ∨ nm = σ.1 (11 + 6 * t) 0) ∧ lb (σ.2 (11 + 6 * t) 8) q = true) nc))) (wd Z ad σ)) : ∀ (n : Nat) (i : Nat) (hlt : nc < i + n) (hi : i ≤ nc) , ∀ f : Int64, f = rO (fun i => ∃ t, cd i = some t ∧ (nm = 6 ∨ nm = σ.1 (11 + 6 * t) 0) ∧ lb (σ.2 (11 + 6 * t) 8) q = true) i → vg_K Z M_T_rowsOfOneElement G 0 0 6 [(6, .int (nI i)), (4, .long f), (0, .ref (ad 107)), (1, .ref (ad k)), (2, .int nm), (3, .int (nI q))] [] (wd Z ad σ) := by
  intro n
  induction n with
  | zero =>
    intro i hlt hi f hf
    exact absurd hlt (by omega)
  | succ n ih =>
    intro i hlt hi f hf
    refine vg_iload C d_T_rowsOfOneElement_6 rfl ?_
    refine vg_aload_n C d_T_rowsOfOneElement_8 rfl ?_
    refine wr_get C d_T_rowsOfOneElement_9 f_T_82 hk rfl rfl rfl ?_
    rw [hc]
    refine vg_icmp_ge (tgt := 84) C d_T_rowsOfOneElement_12 (by decide) (fun c_12 => ?_) (fun c_12 => ?_)
    · rw [nI_leI (by omega) (by omega)] at c_12
      refine vg_lload C d_T_rowsOfOneElement_84 rfl ?_
      exact vg_lreturn C hQ d_T_rowsOfOneElement_86 rfl (by rw [hf, show i = nc by omega]; exact hp)
    · rw [nI_leI (by omega) (by omega)] at c_12
      refine vg_aload_n C d_T_rowsOfOneElement_15 rfl ?_
      refine wr_get C d_T_rowsOfOneElement_16 f_T_145 hk rfl rfl rfl ?_
      refine vg_iload C d_T_rowsOfOneElement_19 rfl ?_
      refine wr_iald C d_T_rowsOfOneElement_21 (nd_4 hk) rfl (by exact vp_in_nI (by omega) (by decide)) ?_
      rw [nI_clamp (by omega)]
      refine vg_iconst (v := (-1)) C d_T_rowsOfOneElement_22 (by decide) ?_
      refine vg_icmp_eq (tgt := 78) C d_T_rowsOfOneElement_23 (by decide) (fun c_23 => ?_) (fun c_23 => ?_)
      · skip
        refine vg_iinc (v := nI (i + 1)) C d_T_rowsOfOneElement_78 rfl (nI_1 i) (Nat.le_of_ble_eq_true rfl) rfl ?_
        refine vg_goto (tgt := 6) C d_T_rowsOfOneElement_81 (by decide) ?_
        refine ih (i + 1) (by omega) (by omega) _ ?_
        rw [hf]
        first | (refine (rO_t ⟨t, ht, ?_, c_64⟩).symm; first | exact Or.inl c_46 | exact Or.inr c_55) | exact (rO_f (fun h => by obtain ⟨t9, h1, -⟩ := h; rw [qe_1 (hcd i (by omega)) c_23] at h1; cases h1)).symm | exact (rO_f (fun h => by obtain ⟨t9, h1, -, h3⟩ := h; cases ht.symm.trans h1; exact c_64 h3)).symm | exact (rO_f (fun h => by obtain ⟨t9, h1, h2, h3⟩ := h; cases ht.symm.trans h1; exact h2.elim c_46 c_55)).symm
      · skip
        refine vg_aload_n C d_T_rowsOfOneElement_26 rfl ?_
        refine wr_get C d_T_rowsOfOneElement_27 f_T_32 rfl rfl rfl rfl ?_
        refine wr_get C d_T_rowsOfOneElement_30 f_T_53 rfl rfl rfl rfl ?_
        refine vg_aload_n C d_T_rowsOfOneElement_33 rfl ?_
        refine wr_get C d_T_rowsOfOneElement_34 f_T_145 hk rfl rfl rfl ?_
        refine vg_iload C d_T_rowsOfOneElement_37 rfl ?_
        refine wr_iald C d_T_rowsOfOneElement_39 (nd_4 hk) rfl (by exact vp_in_nI (by omega) (by decide)) ?_
        rw [nI_clamp (by omega)]
        obtain ⟨t, ht, ht16, het⟩ := (hcd i (by omega)).resolve_left (fun h => c_23 h.2)
        rw [het]
        refine wr_nald C d_T_rowsOfOneElement_40 (by exact vp_in_nI ht16 (by decide)) ?_
        rw [nI_clamp (by omega)]
        refine vg_astore C d_T_rowsOfOneElement_41 (Nat.le_of_ble_eq_true rfl) rfl ?_
        refine vg_iload_n C d_T_rowsOfOneElement_43 rfl ?_
        refine vg_bipush (v := 6) C d_T_rowsOfOneElement_44 (by decide) ?_
        refine vg_icmp_eq (tgt := 58) C d_T_rowsOfOneElement_46 (by decide) (fun c_46 => ?_) (fun c_46 => ?_)
        · skip
          refine vg_aload C d_T_rowsOfOneElement_58 rfl ?_
          refine vg_iload_n C d_T_rowsOfOneElement_60 rfl ?_
          refine wr_callV (As := [_]) C (c_N_suits Z hst ad σ q (11 + 6 * t) (nd_of t ht16) (by omega)) l_T_rowsOfOneElement_N_suits k_T_71 (nd_of t ht16) rfl rfl rfl rfl (Nat.le_of_ble_eq_true rfl) d_T_rowsOfOneElement_61 ⟨Nat.le_of_ble_eq_true rfl, Nat.le_of_ble_eq_true rfl⟩ (fun v_61 w_61 h_61 => ?_)
          obtain ⟨rfl, rfl⟩ := h_61
          refine vg_if_eq (tgt := 78) C d_T_rowsOfOneElement_64 (by decide) (fun c_64 => ?_) (fun c_64 => ?_)
          · rw [bP_eq] at c_64; (try simp only [Classical.not_not] at c_64)
            refine vg_iinc (v := nI (i + 1)) C d_T_rowsOfOneElement_78 rfl (nI_1 i) (Nat.le_of_ble_eq_true rfl) rfl ?_
            refine vg_goto (tgt := 6) C d_T_rowsOfOneElement_81 (by decide) ?_
            refine vg_lv [0, 2, 3, 4, 5, 6] rfl ?_
            refine ih (i + 1) (by omega) (by omega) _ ?_
            rw [hf]
            first | (refine (rO_t ⟨t, ht, ?_, c_64⟩).symm; first | exact Or.inl c_46 | exact Or.inr c_55) | exact (rO_f (fun h => by obtain ⟨t9, h1, -⟩ := h; rw [qe_1 (hcd i (by omega)) c_23] at h1; cases h1)).symm | exact (rO_f (fun h => by obtain ⟨t9, h1, -, h3⟩ := h; cases ht.symm.trans h1; exact c_64 h3)).symm | exact (rO_f (fun h => by obtain ⟨t9, h1, h2, h3⟩ := h; cases ht.symm.trans h1; exact h2.elim c_46 c_55)).symm
          · rw [bP_eq] at c_64; (try simp only [Classical.not_not] at c_64)
            refine vg_lload C d_T_rowsOfOneElement_67 rfl ?_
            refine vg_lconst (v := 1) C d_T_rowsOfOneElement_69 (by decide) ?_
            refine vg_iconst (v := 1) C d_T_rowsOfOneElement_70 (by decide) ?_
            refine vg_iload C d_T_rowsOfOneElement_71 rfl ?_
            refine vg_ishl C d_T_rowsOfOneElement_73 ?_
            rw [sh_one i (by omega)]
            refine vg_lshl C d_T_rowsOfOneElement_74 ?_
            refine vg_lor C d_T_rowsOfOneElement_75 ?_
            refine vg_lstore C d_T_rowsOfOneElement_76 (Nat.le_of_ble_eq_true rfl) rfl ?_
            refine vg_iinc (v := nI (i + 1)) C d_T_rowsOfOneElement_78 rfl (nI_1 i) (Nat.le_of_ble_eq_true rfl) rfl ?_
            refine vg_goto (tgt := 6) C d_T_rowsOfOneElement_81 (by decide) ?_
            refine vg_lv [0, 1, 3, 4, 5, 6] rfl ?_
            refine ih (i + 1) (by omega) (by omega) _ ?_
            rw [hf]
            first | (refine (rO_t ⟨t, ht, ?_, c_64⟩).symm; first | exact Or.inl c_46 | exact Or.inr c_55) | exact (rO_f (fun h => by obtain ⟨t9, h1, -⟩ := h; rw [qe_1 (hcd i (by omega)) c_23] at h1; cases h1)).symm | exact (rO_f (fun h => by obtain ⟨t9, h1, -, h3⟩ := h; cases ht.symm.trans h1; exact c_64 h3)).symm | exact (rO_f (fun h => by obtain ⟨t9, h1, h2, h3⟩ := h; cases ht.symm.trans h1; exact h2.elim c_46 c_55)).symm
        · skip
          refine vg_iload_n C d_T_rowsOfOneElement_49 rfl ?_
          refine vg_aload C d_T_rowsOfOneElement_50 rfl ?_
          refine wr_get C d_T_rowsOfOneElement_52 f_T_151 (nd_of t ht16) rfl rfl rfl ?_
          refine vg_icmp_ne (tgt := 78) C d_T_rowsOfOneElement_55 (by decide) (fun c_55 => ?_) (fun c_55 => ?_)
          · skip
            refine vg_iinc (v := nI (i + 1)) C d_T_rowsOfOneElement_78 rfl (nI_1 i) (Nat.le_of_ble_eq_true rfl) rfl ?_
            refine vg_goto (tgt := 6) C d_T_rowsOfOneElement_81 (by decide) ?_
            refine vg_lv [0, 2, 3, 4, 5, 6] rfl ?_
            refine ih (i + 1) (by omega) (by omega) _ ?_
            rw [hf]
            first | (refine (rO_t ⟨t, ht, ?_, c_64⟩).symm; first | exact Or.inl c_46 | exact Or.inr c_55) | exact (rO_f (fun h => by obtain ⟨t9, h1, -⟩ := h; rw [qe_1 (hcd i (by omega)) c_23] at h1; cases h1)).symm | exact (rO_f (fun h => by obtain ⟨t9, h1, -, h3⟩ := h; cases ht.symm.trans h1; exact c_64 h3)).symm | exact (rO_f (fun h => by obtain ⟨t9, h1, h2, h3⟩ := h; cases ht.symm.trans h1; exact h2.elim c_46 c_55)).symm
          · skip
            refine vg_aload C d_T_rowsOfOneElement_58 rfl ?_
            refine vg_iload_n C d_T_rowsOfOneElement_60 rfl ?_
            refine wr_callV (As := [_]) C (c_N_suits Z hst ad σ q (11 + 6 * t) (nd_of t ht16) (by omega)) l_T_rowsOfOneElement_N_suits k_T_71 (nd_of t ht16) rfl rfl rfl rfl (Nat.le_of_ble_eq_true rfl) d_T_rowsOfOneElement_61 ⟨Nat.le_of_ble_eq_true rfl, Nat.le_of_ble_eq_true rfl⟩ (fun v_61 w_61 h_61 => ?_)
            obtain ⟨rfl, rfl⟩ := h_61
            refine vg_if_eq (tgt := 78) C d_T_rowsOfOneElement_64 (by decide) (fun c_64 => ?_) (fun c_64 => ?_)
            · rw [bP_eq] at c_64; (try simp only [Classical.not_not] at c_64)
              refine vg_iinc (v := nI (i + 1)) C d_T_rowsOfOneElement_78 rfl (nI_1 i) (Nat.le_of_ble_eq_true rfl) rfl ?_
              refine vg_goto (tgt := 6) C d_T_rowsOfOneElement_81 (by decide) ?_
              refine vg_lv [0, 2, 3, 4, 5, 6] rfl ?_
              refine ih (i + 1) (by omega) (by omega) _ ?_
              rw [hf]
              first | (refine (rO_t ⟨t, ht, ?_, c_64⟩).symm; first | exact Or.inl c_46 | exact Or.inr c_55) | exact (rO_f (fun h => by obtain ⟨t9, h1, -⟩ := h; rw [qe_1 (hcd i (by omega)) c_23] at h1; cases h1)).symm | exact (rO_f (fun h => by obtain ⟨t9, h1, -, h3⟩ := h; cases ht.symm.trans h1; exact c_64 h3)).symm | exact (rO_f (fun h => by obtain ⟨t9, h1, h2, h3⟩ := h; cases ht.symm.trans h1; exact h2.elim c_46 c_55)).symm
            · rw [bP_eq] at c_64; (try simp only [Classical.not_not] at c_64)
              refine vg_lload C d_T_rowsOfOneElement_67 rfl ?_
              refine vg_lconst (v := 1) C d_T_rowsOfOneElement_69 (by decide) ?_
              refine vg_iconst (v := 1) C d_T_rowsOfOneElement_70 (by decide) ?_
              refine vg_iload C d_T_rowsOfOneElement_71 rfl ?_
              refine vg_ishl C d_T_rowsOfOneElement_73 ?_
              rw [sh_one i (by omega)]
              refine vg_lshl C d_T_rowsOfOneElement_74 ?_
              refine vg_lor C d_T_rowsOfOneElement_75 ?_
              refine vg_lstore C d_T_rowsOfOneElement_76 (Nat.le_of_ble_eq_true rfl) rfl ?_
              refine vg_iinc (v := nI (i + 1)) C d_T_rowsOfOneElement_78 rfl (nI_1 i) (Nat.le_of_ble_eq_true rfl) rfl ?_
              refine vg_goto (tgt := 6) C d_T_rowsOfOneElement_81 (by decide) ?_
              refine vg_lv [0, 1, 3, 4, 5, 6] rfl ?_
              refine ih (i + 1) (by omega) (by omega) _ ?_
              rw [hf]
              first | (refine (rO_t ⟨t, ht, ?_, c_64⟩).symm; first | exact Or.inl c_46 | exact Or.inr c_55) | exact (rO_f (fun h => by obtain ⟨t9, h1, -⟩ := h; rw [qe_1 (hcd i (by omega)) c_23] at h1; cases h1)).symm | exact (rO_f (fun h => by obtain ⟨t9, h1, -, h3⟩ := h; cases ht.symm.trans h1; exact c_64 h3)).symm | exact (rO_f (fun h => by obtain ⟨t9, h1, h2, h3⟩ := h; cases ht.symm.trans h1; exact h2.elim c_46 c_55)).symm
set_option maxHeartbeats 4000000 in
set_option maxRecDepth 100000 in
theorem c_T_rowsOfOneElement (Z : vg_Z) (hst : vg_St Z) (ad : Nat → Nat) (σ : sg) (nm : Int32) (q : Nat) (hq : q < 40) (k : Nat) (hk : wd_kl[k]? = some 6) (nc : Nat) (hc : σ.1 k 7 = nI nc) (hc6 : nc ≤ 6) (cd : Nat → Option Nat) (hcd : ∀ i, i < nc → (cd i = none ∧ σ.1 (k + 4) i = -1) ∨ ∃ t, cd i = some t ∧ t < 16 ∧ σ.1 (k + 4) i = nI t) : vg_T Z M_T_rowsOfOneElement 0 0 [.ref (ad 107), .ref (ad k), .int nm, .int (nI q)] (wd Z ad σ) (fun v w => v = some (.long (rO (fun i => ∃ t, cd i = some t ∧ (nm = 6 ∨ nm = σ.1 (11 + 6 * t) 0) ∧ lb (σ.2 (11 + 6 * t) 8) q = true) nc)) ∧ w = wd Z ad σ) := by
  refine vg_enter hst (by decide) rfl (Nat.le_of_ble_eq_true rfl) ?_
  intro G C hQ
  show vg_K Z M_T_rowsOfOneElement G 0 0 0 [(0, .ref (ad 107)), (1, .ref (ad k)), (2, .int nm), (3, .int (nI q))] [] (wd Z ad σ)
  refine vg_lconst (v := 0) C d_T_rowsOfOneElement_0 (by decide) ?_
  refine vg_lstore C d_T_rowsOfOneElement_1 (Nat.le_of_ble_eq_true rfl) rfl ?_
  refine vg_iconst (v := 0) C d_T_rowsOfOneElement_3 (by decide) ?_
  refine vg_istore C d_T_rowsOfOneElement_4 (Nat.le_of_ble_eq_true rfl) rfl ?_
  exact lp_T_rowsOfOneElement hst C hQ ad σ k hk nc hc hc6 cd hcd nm q hq ⟨rfl, rfl⟩ (nc + 1) 0 (by omega) (by omega) 0 rfl
def dj (a b : Nat) : Prop := a &&& b = 0
theorem bt8 : ∀ a, a < 8 → ∀ b, b < 8 → nI a &&& nI b = nI (a &&& b) ∧ nI a ||| nI b = nI (a ||| b) ∧ (a &&& b = 0 → a ||| b = a + b) ∧ a ||| b < 8 := by decide +kernel
/-- append: over the sets below i that share nothing with a: rows of s, put behind row -/
noncomputable def apR (R : Nat → Int64) (p a r s : Nat) (m : Int64) : Nat → Nat → Int64
  | 0 => R
  | i + 1 => @ite _ (a &&& i = 0) (Classical.propDecidable _) (vp_updL (apR R p a r s m i) (p * 8 + (a ||| i)) (apR R p a r s m i (p * 8 + (a ||| i)) ||| ((apR R p a r s m i (s * 8 + i) &&& m) <<< ((nI r).toInt64 &&& 63)))) (apR R p a r s m i)
theorem apR_t {R : Nat → Int64} {p a r s i : Nat} {m : Int64} (h : a &&& i = 0) : apR R p a r s m (i + 1) = vp_updL (apR R p a r s m i) (p * 8 + (a ||| i)) (apR R p a r s m i (p * 8 + (a ||| i)) ||| ((apR R p a r s m i (s * 8 + i) &&& m) <<< ((nI r).toInt64 &&& 63))) := if_pos h
theorem apR_f {R : Nat → Int64} {p a r s i : Nat} {m : Int64} (h : ¬ a &&& i = 0) : apR R p a r s m (i + 1) = apR R p a r s m i := if_neg h
set_option maxHeartbeats 4000000 in
set_option maxRecDepth 100000 in
theorem lp_T_append {Z : vg_Z} (hst : vg_St Z) {G : vg_G} {post : Option Value → va_W → Prop} (C : vg_C Z M_T_append G) (hQ : vg_Rt Z G 0 0 post) (ad : Nat → Nat) (σ : sg) (p a r s : Nat) (m : Int64) (hp40 : p < 40) (hs40 : s < 40) (ha : a < 8) (hr : r < 64) (S : Nat) (hS : σ.1 107 5 = nI S) (hS8 : S ≤ 8) (hp : post none (wd Z ad (sL σ 110 (apR (σ.2 110) p a r s m S)))) : ∀ (n : Nat) (i : Nat) (hlt : S < i + n) (hi : i ≤ S) , vg_K Z M_T_append G 0 0 3 [(7, .int (nI i)), (0, .ref (ad 107)), (1, .int (nI p)), (2, .int (nI a)), (3, .int (nI r)), (4, .int (nI s)), (5, .long m)] [] (wd Z ad (sL σ 110 (apR (σ.2 110) p a r s m i))) := by
  intro n
  induction n with
  | zero =>
    intro i hlt hi
    exact absurd hlt (by omega)
  | succ n ih =>
    intro i hlt hi
    refine vg_iload C d_T_append_3 rfl ?_
    refine vg_aload_n C d_T_append_5 rfl ?_
    refine wr_get C d_T_append_6 f_T_79 rfl rfl rfl rfl ?_
    rw [sL_1, hS]
    refine vg_icmp_ge (tgt := 60) C d_T_append_9 (by decide) (fun c_9 => ?_) (fun c_9 => ?_)
    · rw [nI_leI (by omega) (by omega)] at c_9
      exact vg_return C hQ d_T_append_60 rfl (by rw [show i = S by omega]; exact hp)
    · rw [nI_leI (by omega) (by omega)] at c_9
      refine vg_iload_n C d_T_append_12 rfl ?_
      refine vg_iload C d_T_append_13 rfl ?_
      refine vg_iand C d_T_append_15 ?_
      rw [(bt8 a ha i (by omega)).1]
      refine vg_if_ne (tgt := 54) C d_T_append_16 (by decide) (fun c_16 => ?_) (fun c_16 => ?_)
      · rw [nI_z (by have := Nat.and_le_left (n := a) (m := i); omega)] at c_16
        try rw [nI_clamp (by have := (bt8 a ha i (by omega)).2.2.2; omega), sL_sL, sL_at, ← apR_t c_16]
        refine vg_iinc (v := nI (i + 1)) C d_T_append_54 rfl (nI_1 i) (Nat.le_of_ble_eq_true rfl) rfl ?_
        refine vg_goto (tgt := 3) C d_T_append_57 (by decide) ?_
        first | exact ih (i + 1) (by omega) (by omega) | (rw [← apR_f c_16]; exact ih (i + 1) (by omega) (by omega))
      · rw [nI_z (by have := Nat.and_le_left (n := a) (m := i); omega)] at c_16
        refine vg_aload_n C d_T_append_19 rfl ?_
        refine wr_get C d_T_append_20 f_T_18 rfl rfl rfl rfl ?_
        refine vg_iload_n C d_T_append_23 rfl ?_
        refine vg_bipush (v := 8) C d_T_append_24 (by decide) ?_
        refine vg_imul C d_T_append_26 ?_
        refine vg_iload_n C d_T_append_27 rfl ?_
        refine vg_iload C d_T_append_28 rfl ?_
        refine vg_ior C d_T_append_30 ?_
        refine vg_iadd C d_T_append_31 ?_
        rw [(bt8 a ha i (by omega)).2.1, show (8 : Int32) = nI 8 from rfl, pk_mul, nI_add]
        refine vg_dup2 C d_T_append_32 rfl rfl ?_
        refine wr_lald C d_T_append_33 rfl rfl (by have := (bt8 a ha i (by omega)).2.2.2; exact vp_in_nI (by omega) (by decide)) ?_
        rw [nI_clamp (by have := (bt8 a ha i (by omega)).2.2.2; omega), sL_at]
        refine vg_aload_n C d_T_append_34 rfl ?_
        refine wr_get C d_T_append_35 f_T_18 rfl rfl rfl rfl ?_
        refine vg_iload C d_T_append_38 rfl ?_
        refine vg_bipush (v := 8) C d_T_append_40 (by decide) ?_
        refine vg_imul C d_T_append_42 ?_
        refine vg_iload C d_T_append_43 rfl ?_
        refine vg_iadd C d_T_append_45 ?_
        rw [show (8 : Int32) = nI 8 from rfl, pk_mul, nI_add]
        refine wr_lald C d_T_append_46 rfl rfl (by exact vp_in_nI (by omega) (by decide)) ?_
        rw [nI_clamp (by omega), sL_at]
        refine vg_lload C d_T_append_47 rfl ?_
        refine vg_land C d_T_append_49 ?_
        refine vg_iload_n C d_T_append_50 rfl ?_
        refine vg_lshl C d_T_append_51 ?_
        refine vg_lor C d_T_append_52 ?_
        refine wr_last C d_T_append_53 rfl rfl (by have := (bt8 a ha i (by omega)).2.2.2; exact vp_in_nI (by omega) (by decide)) ?_
        try rw [nI_clamp (by have := (bt8 a ha i (by omega)).2.2.2; omega), sL_sL, sL_at, ← apR_t c_16]
        refine vg_iinc (v := nI (i + 1)) C d_T_append_54 rfl (nI_1 i) (Nat.le_of_ble_eq_true rfl) rfl ?_
        refine vg_goto (tgt := 3) C d_T_append_57 (by decide) ?_
        first | exact ih (i + 1) (by omega) (by omega) | (rw [← apR_f c_16]; exact ih (i + 1) (by omega) (by omega))
set_option maxHeartbeats 4000000 in
set_option maxRecDepth 100000 in
theorem c_T_append (Z : vg_Z) (hst : vg_St Z) (ad : Nat → Nat) (σ : sg) (p a r s : Nat) (m : Int64) (hp40 : p < 40) (hs40 : s < 40) (ha : a < 8) (hr : r < 64) (S : Nat) (hS : σ.1 107 5 = nI S) (hS8 : S ≤ 8) : vg_T Z M_T_append 0 0 [.ref (ad 107), .int (nI p), .int (nI a), .int (nI r), .int (nI s), .long m] (wd Z ad σ) (fun v w => v = none ∧ w = wd Z ad (sL σ 110 (apR (σ.2 110) p a r s m S))) := by
  refine vg_enter hst (by decide) rfl (Nat.le_of_ble_eq_true rfl) ?_
  intro G C hQ
  show vg_K Z M_T_append G 0 0 0 [(0, .ref (ad 107)), (1, .int (nI p)), (2, .int (nI a)), (3, .int (nI r)), (4, .int (nI s)), (5, .long m)] [] (wd Z ad σ)
  refine vg_iconst (v := 0) C d_T_append_0 (by decide) ?_
  refine vg_istore C d_T_append_1 (Nat.le_of_ble_eq_true rfl) rfl ?_
  refine vg_w (ws' := wd Z ad (sL σ 110 (apR (σ.2 110) p a r s m 0))) (by show _ = wd Z ad (sL σ 110 (σ.2 110)); rw [sL_id]) ?_
  exact lp_T_append hst C hQ ad σ p a r s m hp40 hs40 ha hr S hS hS8 ⟨rfl, rfl⟩ (S + 1) 0 (by omega) (by omega)
