/-! Matcher: wipe, include, rowsOfTexts, rowsOfOneText, append, matchAttributes -/
section VGL
variable {Z : vg_Z} {M : vg_M} {G : vg_G} {cells slots pc : Nat} {lv lv' : List (Nat × Value)} {st : List Value} {ws : va_W}
theorem vg_lv (ks : List Nat) (e : lv_pick lv ks = lv') (k : vg_K Z M G cells slots pc lv' st ws) : vg_K Z M G cells slots pc lv st ws := fun H locs ls hP hD hS hl => k H locs ls hP hD hS (lv_sub hl ks e)
theorem vg_w {ws' : va_W} (e : ws = ws') (k : vg_K Z M G cells slots pc lv st ws') : vg_K Z M G cells slots pc lv st ws := by rw [e]; exact k
end VGL
theorem sL_id (σ : sg) (k : Nat) : sL σ k (σ.2 k) = σ := by
  unfold sL
  refine Prod.ext rfl ?_
  funext c
  show (if c = k then σ.2 k else σ.2 c) = σ.2 c
  by_cases h : c = k
  · rw [if_pos h, h]
  · rw [if_neg h]
theorem sI_id (σ : sg) (k : Nat) : sI σ k (σ.1 k) = σ := by
  unfold sI
  refine Prod.ext ?_ rfl
  funext c
  show (if c = k then σ.1 k else σ.1 c) = σ.1 c
  by_cases h : c = k
  · rw [if_pos h, h]
  · rw [if_neg h]
def wpR (R : Nat → Int64) (p i : Nat) : Nat → Int64 := fun x => if p * 8 ≤ x ∧ x < p * 8 + i then 0 else R x
theorem wpR_0 (R : Nat → Int64) (p : Nat) : wpR R p 0 = R := by
  funext x
  unfold wpR
  rw [if_neg (by omega)]
theorem wpR_s (R : Nat → Int64) (p i : Nat) : vp_updL (wpR R p i) (p * 8 + i) 0 = wpR R p (i + 1) := by
  funext x
  unfold vp_updL wpR
  by_cases h : x = p * 8 + i
  · rw [if_pos h, if_pos (by omega)]
  · rw [if_neg h]
    by_cases h2 : p * 8 ≤ x ∧ x < p * 8 + i
    · rw [if_pos h2, if_pos (by omega)]
    · rw [if_neg h2, if_neg (by omega)]
def icR (R : Nat → Int64) (p o i : Nat) : Nat → Int64 := fun x => if p * 8 ≤ x ∧ x < p * 8 + i then R x ||| R (o * 8 + (x - p * 8)) else R x
theorem icR_0 (R : Nat → Int64) (p o : Nat) : icR R p o 0 = R := by
  funext x
  unfold icR
  rw [if_neg (by omega)]
theorem icR_p (R : Nat → Int64) (p o i : Nat) : icR R p o i (p * 8 + i) = R (p * 8 + i) := by
  unfold icR
  rw [if_neg (by omega)]
theorem icR_o (R : Nat → Int64) (p o i : Nat) (hi : i < 8) : icR R p o i (o * 8 + i) = R (o * 8 + i) := by
  unfold icR
  rw [if_neg (by omega)]
theorem icR_s (R : Nat → Int64) (p o i : Nat) : vp_updL (icR R p o i) (p * 8 + i) (R (p * 8 + i) ||| R (o * 8 + i)) = icR R p o (i + 1) := by
  funext x
  unfold vp_updL icR
  by_cases h : x = p * 8 + i
  · rw [if_pos h, if_pos (by omega), h, show p * 8 + i - p * 8 = i by omega]
  · rw [if_neg h]
    by_cases h2 : p * 8 ≤ x ∧ x < p * 8 + i
    · rw [if_pos h2, if_pos (by omega)]
    · rw [if_neg h2, if_neg (by omega)]
set_option maxHeartbeats 4000000 in
set_option maxRecDepth 100000 in
theorem lp_T_wipe {Z : vg_Z} (hst : vg_St Z) {G : vg_G} {post : Option Value → va_W → Prop} (C : vg_C Z M_T_wipe G) (hQ : vg_Rt Z G 0 0 post) (ad : Nat → Nat) (σ : sg) (p : Nat) (hp40 : p < 40) (S : Nat) (hS : σ.1 107 5 = nI S) (hS8 : S ≤ 8) (hp : post none (wd Z ad (sL σ 110 (wpR (σ.2 110) p S)))) : ∀ (n : Nat) (i : Nat) (hlt : S < i + n) (hi : i ≤ S) , vg_K Z M_T_wipe G 0 0 2 [(2, .int (nI i)), (0, .ref (ad 107)), (1, .int (nI p))] [] (wd Z ad (sL σ 110 (wpR (σ.2 110) p i))) := by
  intro n
  induction n with
  | zero =>
    intro i hlt hi
    exact absurd hlt (by omega)
  | succ n ih =>
    intro i hlt hi
    refine vg_iload_n C d_T_wipe_2 rfl ?_
    refine vg_aload_n C d_T_wipe_3 rfl ?_
    refine wr_get C d_T_wipe_4 f_T_79 rfl rfl rfl rfl ?_
    rw [sL_1, hS]
    refine vg_icmp_ge (tgt := 28) C d_T_wipe_7 (by decide) (fun c_7 => ?_) (fun c_7 => ?_)
    · rw [nI_leI (by omega) (by omega)] at c_7
      exact vg_return C hQ d_T_wipe_28 rfl (by rw [show i = S by omega]; exact hp)
    · rw [nI_leI (by omega) (by omega)] at c_7
      refine vg_aload_n C d_T_wipe_10 rfl ?_
      refine wr_get C d_T_wipe_11 f_T_18 rfl rfl rfl rfl ?_
      refine vg_iload_n C d_T_wipe_14 rfl ?_
      refine vg_bipush (v := 8) C d_T_wipe_15 (by decide) ?_
      refine vg_imul C d_T_wipe_17 ?_
      refine vg_iload_n C d_T_wipe_18 rfl ?_
      refine vg_iadd C d_T_wipe_19 ?_
      rw [show (8 : Int32) = nI 8 from rfl, pk_mul, nI_add]
      refine vg_lconst (v := 0) C d_T_wipe_20 (by decide) ?_
      refine wr_last C d_T_wipe_21 rfl rfl (by exact vp_in_nI (by omega) (by decide)) ?_
      rw [nI_clamp (by omega), sL_sL, sL_at, wpR_s]
      refine vg_iinc (v := nI (i + 1)) C d_T_wipe_22 rfl (nI_1 i) (Nat.le_of_ble_eq_true rfl) rfl ?_
      refine vg_goto (tgt := 2) C d_T_wipe_25 (by decide) ?_
      exact ih (i + 1) (by omega) (by omega)
set_option maxHeartbeats 4000000 in
set_option maxRecDepth 100000 in
theorem c_T_wipe (Z : vg_Z) (hst : vg_St Z) (ad : Nat → Nat) (σ : sg) (p : Nat) (hp40 : p < 40) (S : Nat) (hS : σ.1 107 5 = nI S) (hS8 : S ≤ 8) : vg_T Z M_T_wipe 0 0 [.ref (ad 107), .int (nI p)] (wd Z ad σ) (fun v w => v = none ∧ w = wd Z ad (sL σ 110 (wpR (σ.2 110) p S))) := by
  refine vg_enter hst (by decide) rfl (Nat.le_of_ble_eq_true rfl) ?_
  intro G C hQ
  show vg_K Z M_T_wipe G 0 0 0 [(0, .ref (ad 107)), (1, .int (nI p))] [] (wd Z ad σ)
  refine vg_iconst (v := 0) C d_T_wipe_0 (by decide) ?_
  refine vg_istore_n C d_T_wipe_1 (Nat.le_of_ble_eq_true rfl) rfl ?_
  refine vg_w (ws' := wd Z ad (sL σ 110 (wpR (σ.2 110) p 0))) (by rw [wpR_0, sL_id]) ?_
  exact lp_T_wipe hst C hQ ad σ p hp40 S hS hS8 ⟨rfl, rfl⟩ (S + 1) 0 (by omega) (by omega)
set_option maxHeartbeats 4000000 in
set_option maxRecDepth 100000 in
theorem lp_T_include {Z : vg_Z} (hst : vg_St Z) {G : vg_G} {post : Option Value → va_W → Prop} (C : vg_C Z M_T_include G) (hQ : vg_Rt Z G 0 0 post) (ad : Nat → Nat) (σ : sg) (p q : Nat) (hp40 : p < 40) (hq40 : q < 40) (S : Nat) (hS : σ.1 107 5 = nI S) (hS8 : S ≤ 8) (hp : post none (wd Z ad (sL σ 110 (icR (σ.2 110) p q S)))) : ∀ (n : Nat) (i : Nat) (hlt : S < i + n) (hi : i ≤ S) , vg_K Z M_T_include G 0 0 2 [(3, .int (nI i)), (0, .ref (ad 107)), (1, .int (nI p)), (2, .int (nI q))] [] (wd Z ad (sL σ 110 (icR (σ.2 110) p q i))) := by
  intro n
  induction n with
  | zero =>
    intro i hlt hi
    exact absurd hlt (by omega)
  | succ n ih =>
    intro i hlt hi
    refine vg_iload_n C d_T_include_2 rfl ?_
    refine vg_aload_n C d_T_include_3 rfl ?_
    refine wr_get C d_T_include_4 f_T_79 rfl rfl rfl rfl ?_
    rw [sL_1, hS]
    refine vg_icmp_ge (tgt := 41) C d_T_include_7 (by decide) (fun c_7 => ?_) (fun c_7 => ?_)
    · rw [nI_leI (by omega) (by omega)] at c_7
      exact vg_return C hQ d_T_include_41 rfl (by rw [show i = S by omega]; exact hp)
    · rw [nI_leI (by omega) (by omega)] at c_7
      refine vg_aload_n C d_T_include_10 rfl ?_
      refine wr_get C d_T_include_11 f_T_18 rfl rfl rfl rfl ?_
      refine vg_iload_n C d_T_include_14 rfl ?_
      refine vg_bipush (v := 8) C d_T_include_15 (by decide) ?_
      refine vg_imul C d_T_include_17 ?_
      refine vg_iload_n C d_T_include_18 rfl ?_
      refine vg_iadd C d_T_include_19 ?_
      rw [show (8 : Int32) = nI 8 from rfl, pk_mul, nI_add]
      refine vg_dup2 C d_T_include_20 rfl rfl ?_
      refine wr_lald C d_T_include_21 rfl rfl (by exact vp_in_nI (by omega) (by decide)) ?_
      rw [nI_clamp (by omega), sL_at, icR_p]
      refine vg_aload_n C d_T_include_22 rfl ?_
      refine wr_get C d_T_include_23 f_T_18 rfl rfl rfl rfl ?_
      refine vg_iload_n C d_T_include_26 rfl ?_
      refine vg_bipush (v := 8) C d_T_include_27 (by decide) ?_
      refine vg_imul C d_T_include_29 ?_
      refine vg_iload_n C d_T_include_30 rfl ?_
      refine vg_iadd C d_T_include_31 ?_
      rw [show (8 : Int32) = nI 8 from rfl, pk_mul, nI_add]
      refine wr_lald C d_T_include_32 rfl rfl (by exact vp_in_nI (by omega) (by decide)) ?_
      rw [nI_clamp (by omega), sL_at, icR_o _ _ _ _ (by omega)]
      refine vg_lor C d_T_include_33 ?_
      refine wr_last C d_T_include_34 rfl rfl (by exact vp_in_nI (by omega) (by decide)) ?_
      rw [nI_clamp (by omega), sL_sL, sL_at, icR_s]
      refine vg_iinc (v := nI (i + 1)) C d_T_include_35 rfl (nI_1 i) (Nat.le_of_ble_eq_true rfl) rfl ?_
      refine vg_goto (tgt := 2) C d_T_include_38 (by decide) ?_
      exact ih (i + 1) (by omega) (by omega)
set_option maxHeartbeats 4000000 in
set_option maxRecDepth 100000 in
theorem c_T_include (Z : vg_Z) (hst : vg_St Z) (ad : Nat → Nat) (σ : sg) (p q : Nat) (hp40 : p < 40) (hq40 : q < 40) (S : Nat) (hS : σ.1 107 5 = nI S) (hS8 : S ≤ 8) : vg_T Z M_T_include 0 0 [.ref (ad 107), .int (nI p), .int (nI q)] (wd Z ad σ) (fun v w => v = none ∧ w = wd Z ad (sL σ 110 (icR (σ.2 110) p q S))) := by
  refine vg_enter hst (by decide) rfl (Nat.le_of_ble_eq_true rfl) ?_
  intro G C hQ
  show vg_K Z M_T_include G 0 0 0 [(0, .ref (ad 107)), (1, .int (nI p)), (2, .int (nI q))] [] (wd Z ad σ)
  refine vg_iconst (v := 0) C d_T_include_0 (by decide) ?_
  refine vg_istore_n C d_T_include_1 (Nat.le_of_ble_eq_true rfl) rfl ?_
  refine vg_w (ws' := wd Z ad (sL σ 110 (icR (σ.2 110) p q 0))) (by rw [icR_0, sL_id]) ?_
  exact lp_T_include hst C hQ ad σ p q hp40 hq40 S hS hS8 ⟨rfl, rfl⟩ (S + 1) 0 (by omega) (by omega)
def rT (cn : Nat → Int32) : Nat → Int64
  | 0 => 1
  | i + 1 => if cn i = -1 then rT cn i ||| (rT cn i <<< ((nI (2 ^ i)).toInt64 &&& 63)) else rT cn i
theorem rT_t {cn : Nat → Int32} {i : Nat} (h : cn i = -1) : rT cn (i + 1) = rT cn i ||| (rT cn i <<< ((nI (2 ^ i)).toInt64 &&& 63)) := if_pos h
theorem rT_f {cn : Nat → Int32} {i : Nat} (h : ¬ cn i = -1) : rT cn (i + 1) = rT cn i := if_neg h
noncomputable def rO (q : Nat → Prop) : Nat → Int64
  | 0 => 0
  | i + 1 => @ite _ (q i) (Classical.propDecidable _) (rO q i ||| ((1 : Int64) <<< ((nI (2 ^ i)).toInt64 &&& 63))) (rO q i)
theorem rO_t {q : Nat → Prop} {i : Nat} (h : q i) : rO q (i + 1) = rO q i ||| ((1 : Int64) <<< ((nI (2 ^ i)).toInt64 &&& 63)) := if_pos h
theorem rO_f {q : Nat → Prop} {i : Nat} (h : ¬ q i) : rO q (i + 1) = rO q i := if_neg h
set_option maxHeartbeats 4000000 in
set_option maxRecDepth 100000 in
theorem lp_T_rowsOfTexts {Z : vg_Z} (hst : vg_St Z) {G : vg_G} {post : Option Value → va_W → Prop} (C : vg_C Z M_T_rowsOfTexts G) (hQ : vg_Rt Z G 0 0 post) (ad : Nat → Nat) (σ : sg) (k : Nat) (hk : wd_kl[k]? = some 6) (nc : Nat) (hc : σ.1 k 7 = nI nc) (hc6 : nc ≤ 6) (hp : post (some (.long (rT (σ.1 (k + 4)) nc))) (wd Z ad σ)) : ∀ (n : Nat) (i : Nat) (hlt : nc < i + n) (hi : i ≤ nc) , ∀ f : Int64, f = rT (σ.1 (k + 4)) i → vg_K Z M_T_rowsOfTexts G 0 0 5 [(4, .int (nI i)), (2, .long f), (0, .ref (ad 107)), (1, .ref (ad k))] [] (wd Z ad σ) := by
  intro n
  induction n with
  | zero =>
    intro i hlt hi f hf
    exact absurd hlt (by omega)
  | succ n ih =>
    intro i hlt hi f hf
    refine vg_iload C d_T_rowsOfTexts_5 rfl ?_
    refine vg_aload_n C d_T_rowsOfTexts_7 rfl ?_
    refine wr_get C d_T_rowsOfTexts_8 f_T_82 hk rfl rfl rfl ?_
    rw [hc]
    refine vg_icmp_ge (tgt := 40) C d_T_rowsOfTexts_11 (by decide) (fun c_11 => ?_) (fun c_11 => ?_)
    · rw [nI_leI (by omega) (by omega)] at c_11
      refine vg_lload_n C d_T_rowsOfTexts_40 rfl ?_
      exact vg_lreturn C hQ d_T_rowsOfTexts_41 rfl (by rw [hf, show i = nc by omega]; exact hp)
    · rw [nI_leI (by omega) (by omega)] at c_11
      refine vg_aload_n C d_T_rowsOfTexts_14 rfl ?_
      refine wr_get C d_T_rowsOfTexts_15 f_T_145 hk rfl rfl rfl ?_
      refine vg_iload C d_T_rowsOfTexts_18 rfl ?_
      refine wr_iald C d_T_rowsOfTexts_20 (nd_4 hk) rfl (by exact vp_in_nI (by omega) (by decide)) ?_
      rw [nI_clamp (by omega)]
      refine vg_iconst (v := (-1)) C d_T_rowsOfTexts_21 (by decide) ?_
      refine vg_icmp_ne (tgt := 34) C d_T_rowsOfTexts_22 (by decide) (fun c_22 => ?_) (fun c_22 => ?_)
      · skip
        refine vg_iinc (v := nI (i + 1)) C d_T_rowsOfTexts_34 rfl (nI_1 i) (Nat.le_of_ble_eq_true rfl) rfl ?_
        refine vg_goto (tgt := 5) C d_T_rowsOfTexts_37 (by decide) ?_
        exact ih (i + 1) (by omega) (by omega) _ (by rw [hf]; first | exact (rT_t c_22).symm | exact (rT_f c_22).symm)
      · skip
        refine vg_lload_n C d_T_rowsOfTexts_25 rfl ?_
        refine vg_lload_n C d_T_rowsOfTexts_26 rfl ?_
        refine vg_iconst (v := 1) C d_T_rowsOfTexts_27 (by decide) ?_
        refine vg_iload C d_T_rowsOfTexts_28 rfl ?_
        refine vg_ishl C d_T_rowsOfTexts_30 ?_
        rw [sh_one i (by omega)]
        refine vg_lshl C d_T_rowsOfTexts_31 ?_
        refine vg_lor C d_T_rowsOfTexts_32 ?_
        refine vg_lstore_n C d_T_rowsOfTexts_33 (Nat.le_of_ble_eq_true rfl) rfl ?_
        refine vg_iinc (v := nI (i + 1)) C d_T_rowsOfTexts_34 rfl (nI_1 i) (Nat.le_of_ble_eq_true rfl) rfl ?_
        refine vg_goto (tgt := 5) C d_T_rowsOfTexts_37 (by decide) ?_
        exact ih (i + 1) (by omega) (by omega) _ (by rw [hf]; first | exact (rT_t c_22).symm | exact (rT_f c_22).symm)
set_option maxHeartbeats 4000000 in
set_option maxRecDepth 100000 in
theorem c_T_rowsOfTexts (Z : vg_Z) (hst : vg_St Z) (ad : Nat → Nat) (σ : sg)  (k : Nat) (hk : wd_kl[k]? = some 6) (nc : Nat) (hc : σ.1 k 7 = nI nc) (hc6 : nc ≤ 6) : vg_T Z M_T_rowsOfTexts 0 0 [.ref (ad 107), .ref (ad k)] (wd Z ad σ) (fun v w => v = some (.long (rT (σ.1 (k + 4)) nc)) ∧ w = wd Z ad σ) := by
  refine vg_enter hst (by decide) rfl (Nat.le_of_ble_eq_true rfl) ?_
  intro G C hQ
  show vg_K Z M_T_rowsOfTexts G 0 0 0 [(0, .ref (ad 107)), (1, .ref (ad k))] [] (wd Z ad σ)
  refine vg_lconst (v := 1) C d_T_rowsOfTexts_0 (by decide) ?_
  refine vg_lstore_n C d_T_rowsOfTexts_1 (Nat.le_of_ble_eq_true rfl) rfl ?_
  refine vg_iconst (v := 0) C d_T_rowsOfTexts_2 (by decide) ?_
  refine vg_istore C d_T_rowsOfTexts_3 (Nat.le_of_ble_eq_true rfl) rfl ?_
  exact lp_T_rowsOfTexts hst C hQ ad σ k hk nc hc hc6 ⟨rfl, rfl⟩ (nc + 1) 0 (by omega) (by omega) 1 rfl
set_option maxHeartbeats 4000000 in
set_option maxRecDepth 100000 in
theorem lp_T_rowsOfOneText {Z : vg_Z} (hst : vg_St Z) {G : vg_G} {post : Option Value → va_W → Prop} (C : vg_C Z M_T_rowsOfOneText G) (hQ : vg_Rt Z G 0 0 post) (ad : Nat → Nat) (σ : sg) (k : Nat) (hk : wd_kl[k]? = some 6) (nc : Nat) (hc : σ.1 k 7 = nI nc) (hc6 : nc ≤ 6) (lo hi9 : Int32) (hp : post (some (.long (rO (fun i => σ.1 (k + 4) i = -1 ∧ lo ≤ σ.1 (k + 5) i ∧ σ.1 (k + 5) i ≤ hi9) nc))) (wd Z ad σ)) : ∀ (n : Nat) (i : Nat) (hlt : nc < i + n) (hi : i ≤ nc) , ∀ f : Int64, f = rO (fun i => σ.1 (k + 4) i = -1 ∧ lo ≤ σ.1 (k + 5) i ∧ σ.1 (k + 5) i ≤ hi9) i → vg_K Z M_T_rowsOfOneText G 0 0 6 [(6, .int (nI i)), (4, .long f), (0, .ref (ad 107)), (1, .ref (ad k)), (2, .int lo), (3, .int hi9)] [] (wd Z ad σ) := by
  intro n
  induction n with
  | zero =>
    intro i hlt hi f hf
    exact absurd hlt (by omega)
  | succ n ih =>
    intro i hlt hi f hf
    refine vg_iload C d_T_rowsOfOneText_6 rfl ?_
    refine vg_aload_n C d_T_rowsOfOneText_8 rfl ?_
    refine wr_get C d_T_rowsOfOneText_9 f_T_82 hk rfl rfl rfl ?_
    rw [hc]
    refine vg_icmp_ge (tgt := 64) C d_T_rowsOfOneText_12 (by decide) (fun c_12 => ?_) (fun c_12 => ?_)
    · rw [nI_leI (by omega) (by omega)] at c_12
      refine vg_lload C d_T_rowsOfOneText_64 rfl ?_
      exact vg_lreturn C hQ d_T_rowsOfOneText_66 rfl (by rw [hf, show i = nc by omega]; exact hp)
    · rw [nI_leI (by omega) (by omega)] at c_12
      refine vg_aload_n C d_T_rowsOfOneText_15 rfl ?_
      refine wr_get C d_T_rowsOfOneText_16 f_T_148 hk rfl rfl rfl ?_
      refine vg_iload C d_T_rowsOfOneText_19 rfl ?_
      refine wr_iald C d_T_rowsOfOneText_21 (nd_5 hk) rfl (by exact vp_in_nI (by omega) (by decide)) ?_
      rw [nI_clamp (by omega)]
      refine vg_istore C d_T_rowsOfOneText_22 (Nat.le_of_ble_eq_true rfl) rfl ?_
      refine vg_aload_n C d_T_rowsOfOneText_24 rfl ?_
      refine wr_get C d_T_rowsOfOneText_25 f_T_145 hk rfl rfl rfl ?_
      refine vg_iload C d_T_rowsOfOneText_28 rfl ?_
      refine wr_iald C d_T_rowsOfOneText_30 (nd_4 hk) rfl (by exact vp_in_nI (by omega) (by decide)) ?_
      rw [nI_clamp (by omega)]
      refine vg_iconst (v := (-1)) C d_T_rowsOfOneText_31 (by decide) ?_
      refine vg_icmp_ne (tgt := 58) C d_T_rowsOfOneText_32 (by decide) (fun c_32 => ?_) (fun c_32 => ?_)
      · skip
        refine vg_iinc (v := nI (i + 1)) C d_T_rowsOfOneText_58 rfl (nI_1 i) (Nat.le_of_ble_eq_true rfl) rfl ?_
        refine vg_goto (tgt := 6) C d_T_rowsOfOneText_61 (by decide) ?_
        refine vg_lv [0, 2, 3, 4, 5, 6] rfl ?_
        exact ih (i + 1) (by omega) (by omega) _ (by rw [hf]; first | exact (rO_t ⟨c_32, Int32.not_lt.mp c_38, Int32.not_lt.mp c_44⟩).symm | exact (rO_f (fun h => c_32 h.1)).symm | exact (rO_f (fun h => absurd c_38 (Int32.not_lt.mpr h.2.1))).symm | exact (rO_f (fun h => absurd c_44 (Int32.not_lt.mpr h.2.2))).symm)
      · skip
        refine vg_iload C d_T_rowsOfOneText_35 rfl ?_
        refine vg_iload_n C d_T_rowsOfOneText_37 rfl ?_
        refine vg_icmp_lt (tgt := 58) C d_T_rowsOfOneText_38 (by decide) (fun c_38 => ?_) (fun c_38 => ?_)
        · skip
          refine vg_iinc (v := nI (i + 1)) C d_T_rowsOfOneText_58 rfl (nI_1 i) (Nat.le_of_ble_eq_true rfl) rfl ?_
          refine vg_goto (tgt := 6) C d_T_rowsOfOneText_61 (by decide) ?_
          refine vg_lv [0, 2, 3, 4, 5, 6] rfl ?_
          exact ih (i + 1) (by omega) (by omega) _ (by rw [hf]; first | exact (rO_t ⟨c_32, Int32.not_lt.mp c_38, Int32.not_lt.mp c_44⟩).symm | exact (rO_f (fun h => c_32 h.1)).symm | exact (rO_f (fun h => absurd c_38 (Int32.not_lt.mpr h.2.1))).symm | exact (rO_f (fun h => absurd c_44 (Int32.not_lt.mpr h.2.2))).symm)
        · skip
          refine vg_iload C d_T_rowsOfOneText_41 rfl ?_
          refine vg_iload_n C d_T_rowsOfOneText_43 rfl ?_
          refine vg_icmp_gt (tgt := 58) C d_T_rowsOfOneText_44 (by decide) (fun c_44 => ?_) (fun c_44 => ?_)
          · skip
            refine vg_iinc (v := nI (i + 1)) C d_T_rowsOfOneText_58 rfl (nI_1 i) (Nat.le_of_ble_eq_true rfl) rfl ?_
            refine vg_goto (tgt := 6) C d_T_rowsOfOneText_61 (by decide) ?_
            refine vg_lv [0, 2, 3, 4, 5, 6] rfl ?_
            exact ih (i + 1) (by omega) (by omega) _ (by rw [hf]; first | exact (rO_t ⟨c_32, Int32.not_lt.mp c_38, Int32.not_lt.mp c_44⟩).symm | exact (rO_f (fun h => c_32 h.1)).symm | exact (rO_f (fun h => absurd c_38 (Int32.not_lt.mpr h.2.1))).symm | exact (rO_f (fun h => absurd c_44 (Int32.not_lt.mpr h.2.2))).symm)
          · skip
            refine vg_lload C d_T_rowsOfOneText_47 rfl ?_
            refine vg_lconst (v := 1) C d_T_rowsOfOneText_49 (by decide) ?_
            refine vg_iconst (v := 1) C d_T_rowsOfOneText_50 (by decide) ?_
            refine vg_iload C d_T_rowsOfOneText_51 rfl ?_
            refine vg_ishl C d_T_rowsOfOneText_53 ?_
            rw [sh_one i (by omega)]
            refine vg_lshl C d_T_rowsOfOneText_54 ?_
            refine vg_lor C d_T_rowsOfOneText_55 ?_
            refine vg_lstore C d_T_rowsOfOneText_56 (Nat.le_of_ble_eq_true rfl) rfl ?_
            refine vg_iinc (v := nI (i + 1)) C d_T_rowsOfOneText_58 rfl (nI_1 i) (Nat.le_of_ble_eq_true rfl) rfl ?_
            refine vg_goto (tgt := 6) C d_T_rowsOfOneText_61 (by decide) ?_
            refine vg_lv [0, 1, 3, 4, 5, 6] rfl ?_
            exact ih (i + 1) (by omega) (by omega) _ (by rw [hf]; first | exact (rO_t ⟨c_32, Int32.not_lt.mp c_38, Int32.not_lt.mp c_44⟩).symm | exact (rO_f (fun h => c_32 h.1)).symm | exact (rO_f (fun h => absurd c_38 (Int32.not_lt.mpr h.2.1))).symm | exact (rO_f (fun h => absurd c_44 (Int32.not_lt.mpr h.2.2))).symm)
set_option maxHeartbeats 4000000 in
set_option maxRecDepth 100000 in
theorem c_T_rowsOfOneText (Z : vg_Z) (hst : vg_St Z) (ad : Nat → Nat) (σ : sg) (lo hi9 : Int32) (k : Nat) (hk : wd_kl[k]? = some 6) (nc : Nat) (hc : σ.1 k 7 = nI nc) (hc6 : nc ≤ 6) : vg_T Z M_T_rowsOfOneText 0 0 [.ref (ad 107), .ref (ad k), .int lo, .int hi9] (wd Z ad σ) (fun v w => v = some (.long (rO (fun i => σ.1 (k + 4) i = -1 ∧ lo ≤ σ.1 (k + 5) i ∧ σ.1 (k + 5) i ≤ hi9) nc)) ∧ w = wd Z ad σ) := by
  refine vg_enter hst (by decide) rfl (Nat.le_of_ble_eq_true rfl) ?_
  intro G C hQ
  show vg_K Z M_T_rowsOfOneText G 0 0 0 [(0, .ref (ad 107)), (1, .ref (ad k)), (2, .int lo), (3, .int hi9)] [] (wd Z ad σ)
  refine vg_lconst (v := 0) C d_T_rowsOfOneText_0 (by decide) ?_
  refine vg_lstore C d_T_rowsOfOneText_1 (Nat.le_of_ble_eq_true rfl) rfl ?_
  refine vg_iconst (v := 0) C d_T_rowsOfOneText_3 (by decide) ?_
  refine vg_istore C d_T_rowsOfOneText_4 (Nat.le_of_ble_eq_true rfl) rfl ?_
  exact lp_T_rowsOfOneText hst C hQ ad σ k hk nc hc hc6 lo hi9 ⟨rfl, rfl⟩ (nc + 1) 0 (by omega) (by omega) 0 rfl
