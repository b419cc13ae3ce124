/-! Matcher.join -/
set_option maxHeartbeats 4000000 in
set_option maxRecDepth 100000 in
theorem lp_T_join_in {Z : vg_Z} (hst : vg_St Z) {G : vg_G} {post : Option Value → va_W → Prop} (C : vg_C Z M_T_join G) (hQ : vg_Rt Z G 0 0 post) (ad : Nat → Nat) (σ : sg) (p f s rc : Nat) (hp40 : p < 40) (hf40 : f < 40) (hs40 : s < 40) (hsp : s ≠ p) (hrc : wd_kl[rc]? = some 11) (S : Nat) (hS : σ.1 107 5 = nI S) (hS8 : S ≤ 8) (a : Nat) (ha : a < S) (hk : ∀ R, JI S p f s (σ.2 rc) (σ.2 110) (a + 1) 0 R → vg_K Z M_T_join G 0 0 97 [(5, .int (nI a)), (0, .ref (ad 107)), (1, .int (nI p)), (2, .int (nI f)), (3, .int (nI s)), (4, .ref (ad rc))] [] (wd Z ad (sL σ 110 R))) : ∀ (n : Nat) (t x0 : Nat) (R : Nat → Int64) (lf : Int64) (hlt : 64 < t + n) (ht : t ≤ 64) (htx : t ≤ x0) , JI S p f s (σ.2 rc) (σ.2 110) a x0 R → (∀ z, z < 64 → lb lf z = (lb (R (f * 8 + a)) z && decide (x0 ≤ z))) → vg_K Z M_T_join G 0 0 33 [(9, .int (nI t)), (7, .long lf), (6, .int (nI (f * 8 + a))), (5, .int (nI a)), (0, .ref (ad 107)), (1, .int (nI p)), (2, .int (nI f)), (3, .int (nI s)), (4, .ref (ad rc))] [] (wd Z ad (sL σ 110 R)) := by
  intro n
  induction n with
  | zero =>
    intro t x0 R lf hlt ht htx hJ hlf
    exact absurd hlt (by omega)
  | succ n ih =>
    intro t x0 R lf hlt ht htx hJ hlf
    refine vg_iload C d_T_join_33 rfl ?_
    refine vg_bipush (v := 64) C d_T_join_35 (by decide) ?_
    refine vg_icmp_ge (tgt := 97) C d_T_join_37 (by decide) (fun c_37 => ?_) (fun c_37 => ?_)
    · rw [show (64 : Int32) = nI 64 from rfl, nI_leI (by decide) (by omega)] at c_37
      refine vg_lv [3, 4, 5, 6, 7, 8] rfl ?_
      refine hk R (JI_next hJ (fun z h1 h2 => ?_))
      first | (exfalso; omega) | (have e := hlf z h2; rw [c_44, lb_0, decide_eq_true h1, Bool.and_true] at e; exact e.symm)
    · rw [show (64 : Int32) = nI 64 from rfl, nI_leI (by decide) (by omega)] at c_37
      refine vg_lload C d_T_join_40 rfl ?_
      refine vg_lconst (v := 0) C d_T_join_42 (by decide) ?_
      refine vg_lcmp C d_T_join_43 ?_
      refine vg_if_eq (tgt := 97) C d_T_join_44 (by decide) (fun c_44 => ?_) (fun c_44 => ?_)
      · rw [lg_eq] at c_44
        refine vg_lv [3, 4, 5, 6, 7, 8] rfl ?_
        refine hk R (JI_next hJ (fun z h1 h2 => ?_))
        first | (exfalso; omega) | (have e := hlf z h2; rw [c_44, lb_0, decide_eq_true h1, Bool.and_true] at e; exact e.symm)
      · rw [lg_eq] at c_44
        obtain ⟨x, hx64, hx1, hx2, hx3⟩ := low_bit c_44
        have hxb := hlf x hx64
        rw [hx1] at hxb
        have hxq := (Bool.and_eq_true _ _).mp hxb.symm
        have hx0 : x0 ≤ x := of_decide_eq_true hxq.2
        have hzz : ∀ z, x0 ≤ z → z < x → lb (R (f * 8 + a)) z = false := fun z h1 h2 => by
          have e := hlf z (by omega)
          rw [hx2 z h2, decide_eq_true h1, Bool.and_true] at e
          exact e.symm
        have hJ2 := JI_step hS8 hsp hJ ha hx0 hx64 hxq.1 hzz
        refine vg_lload C d_T_join_47 rfl ?_
        refine vg_lload C d_T_join_49 rfl ?_
        refine vg_lneg C d_T_join_51 ?_
        refine vg_land C d_T_join_52 ?_
        refine vg_lconst (v := 1) C d_T_join_53 (by decide) ?_
        refine vg_lsub C d_T_join_54 ?_
        rw [hx3]
        refine vg_callS (As := [_]) C (c_J_bitCount Z hst ad _ _) l_T_join_J_bitCount k_T_157 rfl rfl (Nat.le_of_ble_eq_true rfl) d_T_join_55 ⟨Nat.le_of_ble_eq_true rfl, Nat.le_of_ble_eq_true rfl⟩ (fun v_55 w_55 h_55 => ?_)
        obtain ⟨rfl, rfl⟩ := h_55
        rw [bcf_p2 x hx64]
        refine vg_istore C d_T_join_58 (Nat.le_of_ble_eq_true rfl) rfl ?_
        refine vg_aload_n C d_T_join_60 rfl ?_
        refine vg_iload_n C d_T_join_61 rfl ?_
        refine vg_iload C d_T_join_62 rfl ?_
        refine vg_iload C d_T_join_64 rfl ?_
        refine vg_iload_n C d_T_join_66 rfl ?_
        refine vg_aload C d_T_join_67 rfl ?_
        refine vg_iload C d_T_join_69 rfl ?_
        refine wr_lald C d_T_join_71 hrc rfl (by exact vp_in_nI hx64 (by decide)) ?_
        rw [nI_clamp (by omega), sL_ne _ (kd_ne hrc (y := 12) rfl (by decide))]
        refine wr_callV (As := [_, _, _, _, _]) C (c_T_append Z hst ad (sL σ 110 R) p a x s (σ.2 rc x) hp40 hs40 (by omega) hx64 S hS hS8) l_T_join_T_append k_T_163 rfl rfl rfl rfl rfl (Nat.le_of_ble_eq_true rfl) d_T_join_72 ⟨Nat.le_of_ble_eq_true rfl, Nat.le_of_ble_eq_true rfl⟩ (fun v_72 w_72 h_72 => ?_)
        obtain ⟨rfl, rfl⟩ := h_72
        rw [sL_sL, sL_at]
        refine vg_aload_n C d_T_join_75 rfl ?_
        refine wr_get C d_T_join_76 f_T_18 rfl rfl rfl rfl ?_
        refine vg_iload C d_T_join_79 rfl ?_
        refine wr_lald C d_T_join_81 rfl rfl (by exact vp_in_nI (by omega) (by decide)) ?_
        rw [nI_clamp (by omega), sL_at]
        refine vg_ldc2 (v := (-2)) C d_T_join_82 q_T_167 ?_
        refine vg_iload C d_T_join_85 rfl ?_
        refine vg_lshl C d_T_join_87 ?_
        refine vg_land C d_T_join_88 ?_
        refine vg_lstore C d_T_join_89 (Nat.le_of_ble_eq_true rfl) rfl ?_
        refine vg_iinc (v := nI (t + 1)) C d_T_join_91 rfl (nI_1 t) (Nat.le_of_ble_eq_true rfl) rfl ?_
        refine vg_goto (tgt := 33) C d_T_join_94 (by decide) ?_
        refine vg_lv [0, 1, 3, 4, 5, 6, 7, 8, 9] rfl ?_
        refine ih (t + 1) (x + 1) _ _ (by omega) (by omega) (by omega) hJ2 (fun z hz => ?_)
        rw [lb_and, m2_shl hx64 hz]
        exact congrArg _ (decide_eq_decide.mpr (by omega))
set_option maxHeartbeats 4000000 in
set_option maxRecDepth 100000 in
theorem lp_T_join {Z : vg_Z} (hst : vg_St Z) {G : vg_G} {post : Option Value → va_W → Prop} (C : vg_C Z M_T_join G) (hQ : vg_Rt Z G 0 0 post) (ad : Nat → Nat) (σ : sg) (p f s rc : Nat) (hp40 : p < 40) (hf40 : f < 40) (hs40 : s < 40) (hsp : s ≠ p) (hrc : wd_kl[rc]? = some 11) (S : Nat) (hS : σ.1 107 5 = nI S) (hS8 : S ≤ 8) (hp : ∀ R, JI S p f s (σ.2 rc) (σ.2 110) S 0 R → post none (wd Z ad (sL σ 110 R))) : ∀ (n : Nat) (a : Nat) (R : Nat → Int64) (hlt : S < a + n) (hi : a ≤ S) , JI S p f s (σ.2 rc) (σ.2 110) a 0 R → vg_K Z M_T_join G 0 0 3 [(5, .int (nI a)), (0, .ref (ad 107)), (1, .int (nI p)), (2, .int (nI f)), (3, .int (nI s)), (4, .ref (ad rc))] [] (wd Z ad (sL σ 110 R)) := by
  intro n
  induction n with
  | zero =>
    intro a R hlt hi hJ
    exact absurd hlt (by omega)
  | succ n ih =>
    intro a R hlt hi hJ
    refine vg_iload C d_T_join_3 rfl ?_
    refine vg_aload_n C d_T_join_5 rfl ?_
    refine wr_get C d_T_join_6 f_T_79 rfl rfl rfl rfl ?_
    rw [sL_1, hS]
    refine vg_icmp_ge (tgt := 103) C d_T_join_9 (by decide) (fun c_9 => ?_) (fun c_9 => ?_)
    · rw [nI_leI (by omega) (by omega)] at c_9
      exact vg_return C hQ d_T_join_103 rfl (by have e : a = S := (by omega); rw [e] at hJ; exact hp R hJ)
    · rw [nI_leI (by omega) (by omega)] at c_9
      refine vg_iload_n C d_T_join_12 rfl ?_
      refine vg_bipush (v := 8) C d_T_join_13 (by decide) ?_
      refine vg_imul C d_T_join_15 ?_
      refine vg_iload C d_T_join_16 rfl ?_
      refine vg_iadd C d_T_join_18 ?_
      rw [show (8 : Int32) = nI 8 from rfl, pk_mul, nI_add]
      refine vg_istore C d_T_join_19 (Nat.le_of_ble_eq_true rfl) rfl ?_
      refine vg_aload_n C d_T_join_21 rfl ?_
      refine wr_get C d_T_join_22 f_T_18 rfl rfl rfl rfl ?_
      refine vg_iload C d_T_join_25 rfl ?_
      refine wr_lald C d_T_join_27 rfl rfl (by exact vp_in_nI (by omega) (by decide)) ?_
      rw [nI_clamp (by omega), sL_at]
      refine vg_lstore C d_T_join_28 (Nat.le_of_ble_eq_true rfl) rfl ?_
      refine vg_iconst (v := 0) C d_T_join_30 (by decide) ?_
      refine vg_istore C d_T_join_31 (Nat.le_of_ble_eq_true rfl) rfl ?_
      refine lp_T_join_in hst C hQ ad σ p f s rc hp40 hf40 hs40 hsp hrc S hS hS8 a (by omega) (fun R9 hJ9 => ?_) 65 0 0 R _ (by omega) (by omega) (by omega) hJ (fun z hz => by rw [decide_eq_true (Nat.zero_le z), Bool.and_true])
      refine vg_iinc (v := nI (a + 1)) C d_T_join_97 rfl (nI_1 a) (Nat.le_of_ble_eq_true rfl) rfl ?_
      refine vg_goto (tgt := 3) C d_T_join_100 (by decide) ?_
      exact ih (a + 1) R9 (by omega) (by omega) hJ9
set_option maxHeartbeats 4000000 in
set_option maxRecDepth 100000 in
theorem c_T_join (Z : vg_Z) (hst : vg_St Z) (ad : Nat → Nat) (σ : sg) (p f s rc : Nat) (hp40 : p < 40) (hf40 : f < 40) (hs40 : s < 40) (hsp : s ≠ p) (hrc : wd_kl[rc]? = some 11) (S : Nat) (hS : σ.1 107 5 = nI S) (hS8 : S ≤ 8)  : vg_T Z M_T_join 0 0 [.ref (ad 107), .int (nI p), .int (nI f), .int (nI s), .ref (ad rc)] (wd Z ad σ) (fun v w => v = none ∧ ∃ R, JI S p f s (σ.2 rc) (σ.2 110) S 0 R ∧ w = wd Z ad (sL σ 110 R)) := by
  refine vg_enter hst (by decide) rfl (Nat.le_of_ble_eq_true rfl) ?_
  intro G C hQ
  show vg_K Z M_T_join G 0 0 0 [(0, .ref (ad 107)), (1, .int (nI p)), (2, .int (nI f)), (3, .int (nI s)), (4, .ref (ad rc))] [] (wd Z ad σ)
  refine vg_iconst (v := 0) C d_T_join_0 (by decide) ?_
  refine vg_istore C d_T_join_1 (Nat.le_of_ble_eq_true rfl) rfl ?_
  refine vg_w (ws' := wd Z ad (sL σ 110 (σ.2 110))) (by rw [sL_id]) ?_
  exact lp_T_join hst C hQ ad σ p f s rc hp40 hf40 hs40 hsp hrc S hS hS8 (fun R hJ => ⟨rfl, R, hJ, rfl⟩) (S + 1) 0 (σ.2 110) (by omega) (by omega) JI_0
