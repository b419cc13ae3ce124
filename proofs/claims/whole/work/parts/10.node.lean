/-! Node: begin, addAttribute, addChild -/
theorem sI_sI (σ : sg) (k : Nat) (r r' : Nat → Int32) : sI (sI σ k r) k r' = sI σ k r' := by
  unfold sI
  refine Prod.ext ?_ rfl
  funext c
  show (if c = k then r' else (if c = k then r else σ.1 c)) = (if c = k then r' else σ.1 c)
  by_cases h : c = k
  · rw [if_pos h, if_pos h]
  · rw [if_neg h, if_neg h, if_neg h]
theorem sL_sL (σ : sg) (k : Nat) (r r' : Nat → Int64) : sL (sL σ k r) k r' = sL σ k r' := by
  unfold sL
  refine Prod.ext rfl ?_
  funext c
  show (if c = k then r' else (if c = k then r else σ.2 c)) = (if c = k then r' else σ.2 c)
  by_cases h : c = k
  · rw [if_pos h, if_pos h]
  · rw [if_neg h, if_neg h, if_neg h]
def bI (b : Bool) : Int32 := if b then 1 else 0
theorem bI_t {b : Bool} (h : b = true) : bI b = 1 := by rw [h]; rfl
theorem bI_f {b : Bool} (h : b = false) : bI b = 0 := by rw [h]; rfl
theorem bI_eq {b : Bool} : bI b = 0 ↔ b = false := by cases b <;> decide
theorem bI_nar (b : Bool) : narrow .boolean (.int (bI b)) = .int (bI b) := by cases b <;> rfl
/-- a switch over 0 .. n -/
theorem sw_n (u : Int32) (n : Nat) (hn : n < 2 ^ 31) : (u.toInt < 0 ∨ (n : Int) < u.toInt) ∨ ∃ j : Nat, j ≤ n ∧ u = nI j := by
  by_cases h : u.toInt < 0 ∨ (n : Int) < u.toInt
  · exact Or.inl h
  · refine Or.inr ⟨u.toInt.toNat, by omega, ?_⟩
    apply Int32.toInt_inj.mp
    rw [nI_toInt (by omega)]
    omega
def s_begin (σ : sg) (k : Nat) (nm : Int32) : sg := sI σ k (upd (upd (upd (σ.1 k) 0 nm) 4 0) 7 0)
def s_addA (σ : sg) (k a : Nat) (nm v : Int32) : sg := sI (sI (sI σ (k + 1) (upd (σ.1 (k + 1)) a nm)) (k + 2) (upd (σ.1 (k + 2)) a v)) k (upd (σ.1 k) 4 (nI (a + 1)))
def s_addC (σ : sg) (k c : Nat) (nd v : Int32) : sg := sI (sI (sI σ (k + 4) (upd (σ.1 (k + 4)) c nd)) (k + 5) (upd (σ.1 (k + 5)) c v)) k (upd (σ.1 k) 7 (nI (c + 1)))
set_option maxHeartbeats 4000000 in
set_option maxRecDepth 100000 in
theorem c_N_begin (Z : vg_Z) (hst : vg_St Z) (ad : Nat → Nat) (σ : sg) (nm : Int32) (k : Nat) (hk : wd_kl[k]? = some 6) : vg_T Z M_N_begin 0 0 [.ref (ad k), .int nm] (wd Z ad σ) (fun v w => v = none ∧ w = wd Z ad (s_begin σ k nm)) := by
  refine vg_enter hst (by decide) rfl (Nat.le_of_ble_eq_true rfl) ?_
  intro G C hQ
  show vg_K Z M_N_begin G 0 0 0 [(0, .ref (ad k)), (1, .int nm)] [] (wd Z ad σ)
  refine vg_aload_n C d_N_begin_0 rfl ?_
  refine vg_iload_n C d_N_begin_1 rfl ?_
  refine wr_puti C d_N_begin_2 f_N_28 p_N_0 hk rfl rfl rfl rfl (Nat.le_of_ble_eq_true rfl) (wf_iN0 _ _ _) ?_
  refine vg_aload_n C d_N_begin_5 rfl ?_
  refine vg_iconst (v := 0) C d_N_begin_6 (by decide) ?_
  refine wr_puti C d_N_begin_7 f_N_32 p_N_4 hk rfl rfl rfl rfl (Nat.le_of_ble_eq_true rfl) (wf_iN4 _ _ _) ?_
  refine vg_aload_n C d_N_begin_10 rfl ?_
  refine vg_iconst (v := 0) C d_N_begin_11 (by decide) ?_
  refine wr_puti C d_N_begin_12 f_N_35 p_N_7 hk rfl rfl rfl rfl (Nat.le_of_ble_eq_true rfl) (wf_iN7 _ _ _) ?_
  exact vg_return C hQ d_N_begin_15 rfl (⟨rfl, by unfold s_begin; rw [sI_sI, sI_sI, sI_at, sI_at]⟩)
set_option maxHeartbeats 4000000 in
set_option maxRecDepth 100000 in
theorem c_N_addAttribute (Z : vg_Z) (hst : vg_St Z) (ad : Nat → Nat) (σ : sg) (nm x : Int32) (a : Nat) (k : Nat) (hk : wd_kl[k]? = some 6) (ha : σ.1 k 4 = nI a) (hb : a < 3) : vg_T Z M_N_addAttribute 0 0 [.ref (ad k), .int nm, .int x] (wd Z ad σ) (fun v w => v = none ∧ w = wd Z ad (s_addA σ k a nm x)) := by
  refine vg_enter hst (by decide) rfl (Nat.le_of_ble_eq_true rfl) ?_
  intro G C hQ
  show vg_K Z M_N_addAttribute G 0 0 0 [(0, .ref (ad k)), (1, .int nm), (2, .int x)] [] (wd Z ad σ)
  refine vg_aload_n C d_N_addAttribute_0 rfl ?_
  refine wr_get C d_N_addAttribute_1 f_N_9 hk rfl rfl rfl ?_
  refine vg_aload_n C d_N_addAttribute_4 rfl ?_
  refine wr_get C d_N_addAttribute_5 f_N_32 hk rfl rfl rfl ?_
  rw [ha]
  refine vg_iload_n C d_N_addAttribute_8 rfl ?_
  refine wr_iast C d_N_addAttribute_9 (nd_1 hk) rfl (by exact vp_in_nI hb (by decide)) ?_
  rw [nI_clamp (by omega)]
  refine vg_aload_n C d_N_addAttribute_10 rfl ?_
  refine wr_get C d_N_addAttribute_11 f_N_15 hk rfl rfl rfl ?_
  refine vg_aload_n C d_N_addAttribute_14 rfl ?_
  refine wr_get C d_N_addAttribute_15 f_N_32 hk rfl rfl rfl ?_
  rw [sI_ne _ (by omega), ha]
  refine vg_iload_n C d_N_addAttribute_18 rfl ?_
  refine wr_iast C d_N_addAttribute_19 (nd_2 hk) rfl (by exact vp_in_nI hb (by decide)) ?_
  rw [nI_clamp (by omega), sI_ne _ (by omega)]
  refine vg_aload_n C d_N_addAttribute_20 rfl ?_
  refine vg_dup C d_N_addAttribute_21 rfl ?_
  refine wr_get C d_N_addAttribute_22 f_N_32 hk rfl rfl rfl ?_
  rw [sI_ne _ (by omega), sI_ne _ (by omega), ha]
  refine vg_iconst (v := 1) C d_N_addAttribute_25 (by decide) ?_
  refine vg_iadd C d_N_addAttribute_26 ?_
  rw [nI_1]
  refine wr_puti C d_N_addAttribute_27 f_N_32 p_N_4 hk rfl rfl rfl rfl (Nat.le_of_ble_eq_true rfl) (wf_iN4 _ _ _) ?_
  rw [sI_ne _ (by omega), sI_ne _ (by omega)]
  exact vg_return C hQ d_N_addAttribute_30 rfl (⟨rfl, rfl⟩)
set_option maxHeartbeats 4000000 in
set_option maxRecDepth 100000 in
theorem c_N_addChild (Z : vg_Z) (hst : vg_St Z) (ad : Nat → Nat) (σ : sg) (nm x : Int32) (c : Nat) (k : Nat) (hk : wd_kl[k]? = some 6) (ha : σ.1 k 7 = nI c) (hb : c < 6) : vg_T Z M_N_addChild 0 0 [.ref (ad k), .int nm, .int x] (wd Z ad σ) (fun v w => v = none ∧ w = wd Z ad (s_addC σ k c nm x)) := by
  refine vg_enter hst (by decide) rfl (Nat.le_of_ble_eq_true rfl) ?_
  intro G C hQ
  show vg_K Z M_N_addChild G 0 0 0 [(0, .ref (ad k)), (1, .int nm), (2, .int x)] [] (wd Z ad σ)
  refine vg_aload_n C d_N_addChild_0 rfl ?_
  refine wr_get C d_N_addChild_1 f_N_22 hk rfl rfl rfl ?_
  refine vg_aload_n C d_N_addChild_4 rfl ?_
  refine wr_get C d_N_addChild_5 f_N_35 hk rfl rfl rfl ?_
  rw [ha]
  refine vg_iload_n C d_N_addChild_8 rfl ?_
  refine wr_iast C d_N_addChild_9 (nd_4 hk) rfl (by exact vp_in_nI hb (by decide)) ?_
  rw [nI_clamp (by omega)]
  refine vg_aload_n C d_N_addChild_10 rfl ?_
  refine wr_get C d_N_addChild_11 f_N_25 hk rfl rfl rfl ?_
  refine vg_aload_n C d_N_addChild_14 rfl ?_
  refine wr_get C d_N_addChild_15 f_N_35 hk rfl rfl rfl ?_
  rw [sI_ne _ (by omega), ha]
  refine vg_iload_n C d_N_addChild_18 rfl ?_
  refine wr_iast C d_N_addChild_19 (nd_5 hk) rfl (by exact vp_in_nI hb (by decide)) ?_
  rw [nI_clamp (by omega), sI_ne _ (by omega)]
  refine vg_aload_n C d_N_addChild_20 rfl ?_
  refine vg_dup C d_N_addChild_21 rfl ?_
  refine wr_get C d_N_addChild_22 f_N_35 hk rfl rfl rfl ?_
  rw [sI_ne _ (by omega), sI_ne _ (by omega), ha]
  refine vg_iconst (v := 1) C d_N_addChild_25 (by decide) ?_
  refine vg_iadd C d_N_addChild_26 ?_
  rw [nI_1]
  refine wr_puti C d_N_addChild_27 f_N_35 p_N_7 hk rfl rfl rfl rfl (Nat.le_of_ble_eq_true rfl) (wf_iN7 _ _ _) ?_
  rw [sI_ne _ (by omega), sI_ne _ (by omega)]
  exact vg_return C hQ d_N_addChild_30 rfl (⟨rfl, rfl⟩)
