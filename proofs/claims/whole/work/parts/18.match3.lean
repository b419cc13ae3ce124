/-! Matcher.matchAttributes, Long.bitCount -/
theorem kd_ne {a b x y : Nat} (h : wd_kl[a]? = some x) (h2 : wd_kl[b]? = some y) (n : x ≠ y) : a ≠ b := fun e => n (Option.some.inj (by rw [← h, ← h2, e]))
set_option maxHeartbeats 4000000 in
set_option maxRecDepth 100000 in
theorem lp_T_matchAttributes {Z : vg_Z} (hst : vg_St Z) {G : vg_G} {post : Option Value → va_W → Prop} (C : vg_C Z M_T_matchAttributes G) (hQ : vg_Rt Z G 0 0 post) (ad : Nat → Nat) (σ : sg) (k : Nat) (hk : wd_kl[k]? = some 6) (na : Nat) (hna : σ.1 k 4 = nI na) (hn3 : na ≤ 3) (p : Nat) (hp40 : p < 40) (q : Nat) (hq : σ.1 4 p = nI q) (hq40 : q < 40) (hp : post none (wd Z ad (sL σ 110 (mA (σ.2 110) p (fun i => (σ.1 3 p = 6 ∨ σ.1 3 p = σ.1 (k + 1) i) ∧ lb (σ.2 (k + 3) i) q = true) na)))) : ∀ (n : Nat) (i : Nat) (hlt : na < i + n) (hi : i ≤ na) , vg_K Z M_T_matchAttributes G 0 0 24 [(5, .int (nI i)), (4, .int (nI q)), (3, .int (σ.1 3 p)), (0, .ref (ad 107)), (1, .int (nI p)), (2, .ref (ad k))] [] (wd Z ad (sL σ 110 (mA (σ.2 110) p (fun i => (σ.1 3 p = 6 ∨ σ.1 3 p = σ.1 (k + 1) i) ∧ lb (σ.2 (k + 3) i) q = true) i))) := by
  intro n
  induction n with
  | zero =>
    intro i hlt hi
    exact absurd hlt (by omega)
  | succ n ih =>
    intro i hlt hi
    refine vg_iload C d_T_matchAttributes_24 rfl ?_
    refine vg_aload_n C d_T_matchAttributes_26 rfl ?_
    refine wr_get C d_T_matchAttributes_27 f_T_85 hk rfl rfl rfl ?_
    rw [sL_1, hna]
    refine vg_icmp_ge (tgt := 100) C d_T_matchAttributes_30 (by decide) (fun c_30 => ?_) (fun c_30 => ?_)
    · rw [nI_leI (by omega) (by omega)] at c_30
      exact vg_return C hQ d_T_matchAttributes_100 rfl (by rw [show i = na by omega]; exact hp)
    · rw [nI_leI (by omega) (by omega)] at c_30
      refine vg_iload_n C d_T_matchAttributes_33 rfl ?_
      refine vg_bipush (v := 6) C d_T_matchAttributes_34 (by decide) ?_
      refine vg_icmp_eq (tgt := 50) C d_T_matchAttributes_36 (by decide) (fun c_36 => ?_) (fun c_36 => ?_)
      · skip
        refine vg_iconst (v := 1) C d_T_matchAttributes_50 (by decide) ?_
        refine vg_goto (tgt := 55) C d_T_matchAttributes_51 (by decide) ?_
        refine vg_istore C d_T_matchAttributes_55 (Nat.le_of_ble_eq_true rfl) rfl ?_
        refine vg_iload C d_T_matchAttributes_57 rfl ?_
        refine vg_if_eq (tgt := 94) C d_T_matchAttributes_59 (by decide) (fun c_59 => absurd c_59 (by decide)) (fun _ => ?_)
        refine vg_aload_n C d_T_matchAttributes_62 rfl ?_
        refine wr_get C d_T_matchAttributes_63 f_T_92 hk rfl rfl rfl ?_
        refine vg_iload C d_T_matchAttributes_66 rfl ?_
        refine wr_lald C d_T_matchAttributes_68 (nd_3 hk) rfl (by exact vp_in_nI (by omega) (by decide)) ?_
        rw [nI_clamp (by omega), sL_ne _ (kd_ne (nd_3 hk) (y := 12) rfl (by decide))]
        refine vg_iload C d_T_matchAttributes_69 rfl ?_
        refine vg_lushr C d_T_matchAttributes_71 ?_
        refine vg_lconst (v := 1) C d_T_matchAttributes_72 (by decide) ?_
        refine vg_land C d_T_matchAttributes_73 ?_
        refine vg_lconst (v := 0) C d_T_matchAttributes_74 (by decide) ?_
        refine vg_lcmp C d_T_matchAttributes_75 ?_
        refine vg_if_eq (tgt := 94) C d_T_matchAttributes_76 (by decide) (fun c_76 => ?_) (fun c_76 => ?_)
        · rw [lg_eq, lb_tst (by omega)] at c_76
          first | (have hh : ((σ.1 3 p = 6 ∨ σ.1 3 p = σ.1 (k + 1) i) ∧ lb (σ.2 (k + 3) i) q = true) := ⟨by first | exact Or.inl c_36 | exact Or.inr c_47, ts_nf c_76⟩; rw [nI_clamp (by have := p2_3 i (by omega); omega), sL_sL, sL_at, ← mA_t (q := (fun i => (σ.1 3 p = 6 ∨ σ.1 3 p = σ.1 (k + 1) i) ∧ lb (σ.2 (k + 3) i) q = true)) (R := σ.2 110) (p := p) (i := i) hh]) | (have hh : ¬ ((σ.1 3 p = 6 ∨ σ.1 3 p = σ.1 (k + 1) i) ∧ lb (σ.2 (k + 3) i) q = true) := (fun h => by first | (have h2 := h.2; rw [c_76] at h2; exact absurd h2 (by decide)) | exact h.1.elim c_36 c_47); rw [← mA_f (q := (fun i => (σ.1 3 p = 6 ∨ σ.1 3 p = σ.1 (k + 1) i) ∧ lb (σ.2 (k + 3) i) q = true)) (R := σ.2 110) (p := p) (i := i) hh])
          refine vg_iinc (v := nI (i + 1)) C d_T_matchAttributes_94 rfl (nI_1 i) (Nat.le_of_ble_eq_true rfl) rfl ?_
          refine vg_goto (tgt := 24) C d_T_matchAttributes_97 (by decide) ?_
          refine vg_lv [0, 2, 3, 4, 5, 6] rfl ?_
          exact ih (i + 1) (by omega) (by omega)
        · rw [lg_eq, lb_tst (by omega)] at c_76
          refine vg_aload_n C d_T_matchAttributes_79 rfl ?_
          refine wr_get C d_T_matchAttributes_80 f_T_18 rfl rfl rfl rfl ?_
          refine vg_iload_n C d_T_matchAttributes_83 rfl ?_
          refine vg_bipush (v := 8) C d_T_matchAttributes_84 (by decide) ?_
          refine vg_imul C d_T_matchAttributes_86 ?_
          refine vg_iconst (v := 1) C d_T_matchAttributes_87 (by decide) ?_
          refine vg_iload C d_T_matchAttributes_88 rfl ?_
          refine vg_ishl C d_T_matchAttributes_90 ?_
          rw [sh_one i (by omega), show (8 : Int32) = nI 8 from rfl, pk_mul]
          refine vg_iadd C d_T_matchAttributes_91 ?_
          rw [nI_add]
          refine vg_lconst (v := 1) C d_T_matchAttributes_92 (by decide) ?_
          refine wr_last C d_T_matchAttributes_93 rfl rfl (by have := p2_3 i (by omega); exact vp_in_nI (by omega) (by decide)) ?_
          first | (have hh : ((σ.1 3 p = 6 ∨ σ.1 3 p = σ.1 (k + 1) i) ∧ lb (σ.2 (k + 3) i) q = true) := ⟨by first | exact Or.inl c_36 | exact Or.inr c_47, ts_nf c_76⟩; rw [nI_clamp (by have := p2_3 i (by omega); omega), sL_sL, sL_at, ← mA_t (q := (fun i => (σ.1 3 p = 6 ∨ σ.1 3 p = σ.1 (k + 1) i) ∧ lb (σ.2 (k + 3) i) q = true)) (R := σ.2 110) (p := p) (i := i) hh]) | (have hh : ¬ ((σ.1 3 p = 6 ∨ σ.1 3 p = σ.1 (k + 1) i) ∧ lb (σ.2 (k + 3) i) q = true) := (fun h => by first | (have h2 := h.2; rw [c_76] at h2; exact absurd h2 (by decide)) | exact h.1.elim c_36 c_47); rw [← mA_f (q := (fun i => (σ.1 3 p = 6 ∨ σ.1 3 p = σ.1 (k + 1) i) ∧ lb (σ.2 (k + 3) i) q = true)) (R := σ.2 110) (p := p) (i := i) hh])
          refine vg_iinc (v := nI (i + 1)) C d_T_matchAttributes_94 rfl (nI_1 i) (Nat.le_of_ble_eq_true rfl) rfl ?_
          refine vg_goto (tgt := 24) C d_T_matchAttributes_97 (by decide) ?_
          refine vg_lv [0, 2, 3, 4, 5, 6] rfl ?_
          exact ih (i + 1) (by omega) (by omega)
      · skip
        refine vg_iload_n C d_T_matchAttributes_39 rfl ?_
        refine vg_aload_n C d_T_matchAttributes_40 rfl ?_
        refine wr_get C d_T_matchAttributes_41 f_T_154 hk rfl rfl rfl ?_
        refine vg_iload C d_T_matchAttributes_44 rfl ?_
        refine wr_iald C d_T_matchAttributes_46 (nd_1 hk) rfl (by exact vp_in_nI (by omega) (by decide)) ?_
        rw [nI_clamp (by omega), sL_1]
        refine vg_icmp_ne (tgt := 54) C d_T_matchAttributes_47 (by decide) (fun c_47 => ?_) (fun c_47 => ?_)
        · skip
          refine vg_iconst (v := 0) C d_T_matchAttributes_54 (by decide) ?_
          refine vg_istore C d_T_matchAttributes_55 (Nat.le_of_ble_eq_true rfl) rfl ?_
          refine vg_iload C d_T_matchAttributes_57 rfl ?_
          refine vg_if_eq (tgt := 94) C d_T_matchAttributes_59 (by decide) (fun _ => ?_) (fun c_59 => absurd (by decide) c_59)
          first | (have hh : ((σ.1 3 p = 6 ∨ σ.1 3 p = σ.1 (k + 1) i) ∧ lb (σ.2 (k + 3) i) q = true) := ⟨by first | exact Or.inl c_36 | exact Or.inr c_47, ts_nf c_76⟩; rw [nI_clamp (by have := p2_3 i (by omega); omega), sL_sL, sL_at, ← mA_t (q := (fun i => (σ.1 3 p = 6 ∨ σ.1 3 p = σ.1 (k + 1) i) ∧ lb (σ.2 (k + 3) i) q = true)) (R := σ.2 110) (p := p) (i := i) hh]) | (have hh : ¬ ((σ.1 3 p = 6 ∨ σ.1 3 p = σ.1 (k + 1) i) ∧ lb (σ.2 (k + 3) i) q = true) := (fun h => by first | (have h2 := h.2; rw [c_76] at h2; exact absurd h2 (by decide)) | exact h.1.elim c_36 c_47); rw [← mA_f (q := (fun i => (σ.1 3 p = 6 ∨ σ.1 3 p = σ.1 (k + 1) i) ∧ lb (σ.2 (k + 3) i) q = true)) (R := σ.2 110) (p := p) (i := i) hh])
          refine vg_iinc (v := nI (i + 1)) C d_T_matchAttributes_94 rfl (nI_1 i) (Nat.le_of_ble_eq_true rfl) rfl ?_
          refine vg_goto (tgt := 24) C d_T_matchAttributes_97 (by decide) ?_
          refine vg_lv [0, 2, 3, 4, 5, 6] rfl ?_
          exact ih (i + 1) (by omega) (by omega)
        · skip
          refine vg_iconst (v := 1) C d_T_matchAttributes_50 (by decide) ?_
          refine vg_goto (tgt := 55) C d_T_matchAttributes_51 (by decide) ?_
          refine vg_istore C d_T_matchAttributes_55 (Nat.le_of_ble_eq_true rfl) rfl ?_
          refine vg_iload C d_T_matchAttributes_57 rfl ?_
          refine vg_if_eq (tgt := 94) C d_T_matchAttributes_59 (by decide) (fun c_59 => absurd c_59 (by decide)) (fun _ => ?_)
          refine vg_aload_n C d_T_matchAttributes_62 rfl ?_
          refine wr_get C d_T_matchAttributes_63 f_T_92 hk rfl rfl rfl ?_
          refine vg_iload C d_T_matchAttributes_66 rfl ?_
          refine wr_lald C d_T_matchAttributes_68 (nd_3 hk) rfl (by exact vp_in_nI (by omega) (by decide)) ?_
          rw [nI_clamp (by omega), sL_ne _ (kd_ne (nd_3 hk) (y := 12) rfl (by decide))]
          refine vg_iload C d_T_matchAttributes_69 rfl ?_
          refine vg_lushr C d_T_matchAttributes_71 ?_
          refine vg_lconst (v := 1) C d_T_matchAttributes_72 (by decide) ?_
          refine vg_land C d_T_matchAttributes_73 ?_
          refine vg_lconst (v := 0) C d_T_matchAttributes_74 (by decide) ?_
          refine vg_lcmp C d_T_matchAttributes_75 ?_
          refine vg_if_eq (tgt := 94) C d_T_matchAttributes_76 (by decide) (fun c_76 => ?_) (fun c_76 => ?_)
          · rw [lg_eq, lb_tst (by omega)] at c_76
            first | (have hh : ((σ.1 3 p = 6 ∨ σ.1 3 p = σ.1 (k + 1) i) ∧ lb (σ.2 (k + 3) i) q = true) := ⟨by first | exact Or.inl c_36 | exact Or.inr c_47, ts_nf c_76⟩; rw [nI_clamp (by have := p2_3 i (by omega); omega), sL_sL, sL_at, ← mA_t (q := (fun i => (σ.1 3 p = 6 ∨ σ.1 3 p = σ.1 (k + 1) i) ∧ lb (σ.2 (k + 3) i) q = true)) (R := σ.2 110) (p := p) (i := i) hh]) | (have hh : ¬ ((σ.1 3 p = 6 ∨ σ.1 3 p = σ.1 (k + 1) i) ∧ lb (σ.2 (k + 3) i) q = true) := (fun h => by first | (have h2 := h.2; rw [c_76] at h2; exact absurd h2 (by decide)) | exact h.1.elim c_36 c_47); rw [← mA_f (q := (fun i => (σ.1 3 p = 6 ∨ σ.1 3 p = σ.1 (k + 1) i) ∧ lb (σ.2 (k + 3) i) q = true)) (R := σ.2 110) (p := p) (i := i) hh])
            refine vg_iinc (v := nI (i + 1)) C d_T_matchAttributes_94 rfl (nI_1 i) (Nat.le_of_ble_eq_true rfl) rfl ?_
            refine vg_goto (tgt := 24) C d_T_matchAttributes_97 (by decide) ?_
            refine vg_lv [0, 2, 3, 4, 5, 6] rfl ?_
            exact ih (i + 1) (by omega) (by omega)
          · rw [lg_eq, lb_tst (by omega)] at c_76
            refine vg_aload_n C d_T_matchAttributes_79 rfl ?_
            refine wr_get C d_T_matchAttributes_80 f_T_18 rfl rfl rfl rfl ?_
            refine vg_iload_n C d_T_matchAttributes_83 rfl ?_
            refine vg_bipush (v := 8) C d_T_matchAttributes_84 (by decide) ?_
            refine vg_imul C d_T_matchAttributes_86 ?_
            refine vg_iconst (v := 1) C d_T_matchAttributes_87 (by decide) ?_
            refine vg_iload C d_T_matchAttributes_88 rfl ?_
            refine vg_ishl C d_T_matchAttributes_90 ?_
            rw [sh_one i (by omega), show (8 : Int32) = nI 8 from rfl, pk_mul]
            refine vg_iadd C d_T_matchAttributes_91 ?_
            rw [nI_add]
            refine vg_lconst (v := 1) C d_T_matchAttributes_92 (by decide) ?_
            refine wr_last C d_T_matchAttributes_93 rfl rfl (by have := p2_3 i (by omega); exact vp_in_nI (by omega) (by decide)) ?_
            first | (have hh : ((σ.1 3 p = 6 ∨ σ.1 3 p = σ.1 (k + 1) i) ∧ lb (σ.2 (k + 3) i) q = true) := ⟨by first | exact Or.inl c_36 | exact Or.inr c_47, ts_nf c_76⟩; rw [nI_clamp (by have := p2_3 i (by omega); omega), sL_sL, sL_at, ← mA_t (q := (fun i => (σ.1 3 p = 6 ∨ σ.1 3 p = σ.1 (k + 1) i) ∧ lb (σ.2 (k + 3) i) q = true)) (R := σ.2 110) (p := p) (i := i) hh]) | (have hh : ¬ ((σ.1 3 p = 6 ∨ σ.1 3 p = σ.1 (k + 1) i) ∧ lb (σ.2 (k + 3) i) q = true) := (fun h => by first | (have h2 := h.2; rw [c_76] at h2; exact absurd h2 (by decide)) | exact h.1.elim c_36 c_47); rw [← mA_f (q := (fun i => (σ.1 3 p = 6 ∨ σ.1 3 p = σ.1 (k + 1) i) ∧ lb (σ.2 (k + 3) i) q = true)) (R := σ.2 110) (p := p) (i := i) hh])
            refine vg_iinc (v := nI (i + 1)) C d_T_matchAttributes_94 rfl (nI_1 i) (Nat.le_of_ble_eq_true rfl) rfl ?_
            refine vg_goto (tgt := 24) C d_T_matchAttributes_97 (by decide) ?_
            refine vg_lv [0, 2, 3, 4, 5, 6] rfl ?_
            exact ih (i + 1) (by omega) (by omega)
set_option maxHeartbeats 4000000 in
set_option maxRecDepth 100000 in
theorem c_T_matchAttributes (Z : vg_Z) (hst : vg_St Z) (ad : Nat → Nat) (σ : sg)  (k : Nat) (hk : wd_kl[k]? = some 6) (na : Nat) (hna : σ.1 k 4 = nI na) (hn3 : na ≤ 3) (p : Nat) (hp40 : p < 40) (q : Nat) (hq : σ.1 4 p = nI q) (hq40 : q < 40) : vg_T Z M_T_matchAttributes 0 0 [.ref (ad 107), .int (nI p), .ref (ad k)] (wd Z ad σ) (fun v w => v = none ∧ w = wd Z ad (sL σ 110 (mA (σ.2 110) p (fun i => (σ.1 3 p = 6 ∨ σ.1 3 p = σ.1 (k + 1) i) ∧ lb (σ.2 (k + 3) i) q = true) na))) := by
  refine vg_enter hst (by decide) rfl (Nat.le_of_ble_eq_true rfl) ?_
  intro G C hQ
  show vg_K Z M_T_matchAttributes G 0 0 0 [(0, .ref (ad 107)), (1, .int (nI p)), (2, .ref (ad k))] [] (wd Z ad σ)
  refine vg_aload_n C d_T_matchAttributes_0 rfl ?_
  refine wr_get C d_T_matchAttributes_1 f_T_28 rfl rfl rfl rfl ?_
  refine wr_get C d_T_matchAttributes_4 f_T_109 rfl rfl rfl rfl ?_
  refine vg_iload_n C d_T_matchAttributes_7 rfl ?_
  refine wr_iald C d_T_matchAttributes_8 rfl rfl (by exact vp_in_nI (by omega) (by decide)) ?_
  rw [nI_clamp (by omega)]
  refine vg_istore_n C d_T_matchAttributes_9 (Nat.le_of_ble_eq_true rfl) rfl ?_
  refine vg_aload_n C d_T_matchAttributes_10 rfl ?_
  refine wr_get C d_T_matchAttributes_11 f_T_28 rfl rfl rfl rfl ?_
  refine wr_get C d_T_matchAttributes_14 f_T_112 rfl rfl rfl rfl ?_
  refine vg_iload_n C d_T_matchAttributes_17 rfl ?_
  refine wr_iald C d_T_matchAttributes_18 rfl rfl (by exact vp_in_nI (by omega) (by decide)) ?_
  rw [nI_clamp (by omega), hq]
  refine vg_istore C d_T_matchAttributes_19 (Nat.le_of_ble_eq_true rfl) rfl ?_
  refine vg_iconst (v := 0) C d_T_matchAttributes_21 (by decide) ?_
  refine vg_istore C d_T_matchAttributes_22 (Nat.le_of_ble_eq_true rfl) rfl ?_
  refine vg_w (ws' := wd Z ad (sL σ 110 (mA (σ.2 110) p (fun i => (σ.1 3 p = 6 ∨ σ.1 3 p = σ.1 (k + 1) i) ∧ lb (σ.2 (k + 3) i) q = true) 0))) (by show _ = wd Z ad (sL σ 110 (σ.2 110)); rw [sL_id]) ?_
  exact lp_T_matchAttributes hst C hQ ad σ k hk na hna hn3 p hp40 q hq hq40 ⟨rfl, rfl⟩ (na + 1) 0 (by omega) (by omega)
def bc1 (x : Int64) : Int64 := x - ((x.toUInt64 >>> ((1 : Int32).toInt64.toUInt64 &&& Int64.toUInt64 63)).toInt64 &&& 6148914691236517205)
def bc2 (x : Int64) : Int64 := (x &&& 3689348814741910323) + ((x.toUInt64 >>> ((2 : Int32).toInt64.toUInt64 &&& Int64.toUInt64 63)).toInt64 &&& 3689348814741910323)
def bc3 (x : Int64) : Int64 := (x + (x.toUInt64 >>> ((4 : Int32).toInt64.toUInt64 &&& Int64.toUInt64 63)).toInt64) &&& 1085102592571150095
def bc4 (k : Int32) (x : Int64) : Int64 := x + (x.toUInt64 >>> (k.toInt64.toUInt64 &&& Int64.toUInt64 63)).toInt64
def bcf (x : Int64) : Int32 := (bc4 32 (bc4 16 (bc4 8 (bc3 (bc2 (bc1 x)))))).toInt32 &&& 127
theorem bcf_p2 : ∀ r, r < 64 → bcf (lN (2 ^ r - 1)) = nI r := by decide +kernel
set_option maxHeartbeats 4000000 in
set_option maxRecDepth 100000 in
theorem c_J_bitCount (Z : vg_Z) (hst : vg_St Z) (ad : Nat → Nat) (σ : sg) (x : Int64)  : vg_T Z M_J_bitCount 0 0 [.long x] (wd Z ad σ) (fun v w => v = some (.int (bcf x)) ∧ w = wd Z ad σ) := by
  refine vg_enter hst (by decide) rfl (Nat.le_of_ble_eq_true rfl) ?_
  intro G C hQ
  show vg_K Z M_J_bitCount G 0 0 0 [(0, .long x)] [] (wd Z ad σ)
  refine vg_lload_n C d_J_bitCount_0 rfl ?_
  refine vg_lload_n C d_J_bitCount_1 rfl ?_
  refine vg_iconst (v := 1) C d_J_bitCount_2 (by decide) ?_
  refine vg_lushr C d_J_bitCount_3 ?_
  refine vg_ldc2 (v := 6148914691236517205) C d_J_bitCount_4 q_J_314 ?_
  refine vg_land C d_J_bitCount_7 ?_
  refine vg_lsub C d_J_bitCount_8 ?_
  refine vg_lstore_n C d_J_bitCount_9 (Nat.le_of_ble_eq_true rfl) rfl ?_
  refine vg_lload_n C d_J_bitCount_10 rfl ?_
  refine vg_ldc2 (v := 3689348814741910323) C d_J_bitCount_11 q_J_316 ?_
  refine vg_land C d_J_bitCount_14 ?_
  refine vg_lload_n C d_J_bitCount_15 rfl ?_
  refine vg_iconst (v := 2) C d_J_bitCount_16 (by decide) ?_
  refine vg_lushr C d_J_bitCount_17 ?_
  refine vg_ldc2 (v := 3689348814741910323) C d_J_bitCount_18 q_J_316 ?_
  refine vg_land C d_J_bitCount_21 ?_
  refine vg_ladd C d_J_bitCount_22 ?_
  refine vg_lstore_n C d_J_bitCount_23 (Nat.le_of_ble_eq_true rfl) rfl ?_
  refine vg_lload_n C d_J_bitCount_24 rfl ?_
  refine vg_lload_n C d_J_bitCount_25 rfl ?_
  refine vg_iconst (v := 4) C d_J_bitCount_26 (by decide) ?_
  refine vg_lushr C d_J_bitCount_27 ?_
  refine vg_ladd C d_J_bitCount_28 ?_
  refine vg_ldc2 (v := 1085102592571150095) C d_J_bitCount_29 q_J_318 ?_
  refine vg_land C d_J_bitCount_32 ?_
  refine vg_lstore_n C d_J_bitCount_33 (Nat.le_of_ble_eq_true rfl) rfl ?_
  refine vg_lload_n C d_J_bitCount_34 rfl ?_
  refine vg_lload_n C d_J_bitCount_35 rfl ?_
  refine vg_bipush (v := 8) C d_J_bitCount_36 (by decide) ?_
  refine vg_lushr C d_J_bitCount_38 ?_
  refine vg_ladd C d_J_bitCount_39 ?_
  refine vg_lstore_n C d_J_bitCount_40 (Nat.le_of_ble_eq_true rfl) rfl ?_
  refine vg_lload_n C d_J_bitCount_41 rfl ?_
  refine vg_lload_n C d_J_bitCount_42 rfl ?_
  refine vg_bipush (v := 16) C d_J_bitCount_43 (by decide) ?_
  refine vg_lushr C d_J_bitCount_45 ?_
  refine vg_ladd C d_J_bitCount_46 ?_
  refine vg_lstore_n C d_J_bitCount_47 (Nat.le_of_ble_eq_true rfl) rfl ?_
  refine vg_lload_n C d_J_bitCount_48 rfl ?_
  refine vg_lload_n C d_J_bitCount_49 rfl ?_
  refine vg_bipush (v := 32) C d_J_bitCount_50 (by decide) ?_
  refine vg_lushr C d_J_bitCount_52 ?_
  refine vg_ladd C d_J_bitCount_53 ?_
  refine vg_lstore_n C d_J_bitCount_54 (Nat.le_of_ble_eq_true rfl) rfl ?_
  refine vg_lload_n C d_J_bitCount_55 rfl ?_
  refine vg_l2i C d_J_bitCount_56 ?_
  refine vg_bipush (v := 127) C d_J_bitCount_57 (by decide) ?_
  refine vg_iand C d_J_bitCount_59 ?_
  exact vg_ireturn C hQ d_J_bitCount_60 rfl (by first | rfl | assumption) (⟨rfl, rfl⟩)
