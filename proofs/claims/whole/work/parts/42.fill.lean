/-! the reference's fill -/
def sA (σ : sg) (r q : Nat → Int32) : sg := sI (sI σ 134 r) 135 q
theorem sA_0 (σ : sg) : sA σ (σ.1 134) (σ.1 135) = σ := by unfold sA; rw [sI_id, sI_id]
theorem sA_r (σ : sg) (r r' q : Nat → Int32) : sI (sA σ r q) 134 r' = sA σ r' q := by unfold sA; rw [sI_comm _ (by decide), sI_sI]
theorem sA_q (σ : sg) (r q q' : Nat → Int32) : sI (sA σ r q) 135 q' = sA σ r q' := by unfold sA; rw [sI_sI]
/-- the first a names: what their values match is known -/
def AO (σ : sg) (D : Dc) (t n : Nat) (q : Nat → Int32) (a : Nat) : Prop := ∀ a', a' < a → ∀ v, D.2.1 t a' = some v → ∀ p, p < n → q (40 * a' + p) = bP (S1 (σ.1 118) (σ.1 119) (σ.1 120) (σ.1 122) (eV (σ.1 118) (σ.1 119) (σ.1 120) v) p)
def st (τ : sg) (m : Nat → Int64) (ch : Int32) : sg := sI (sL τ 131 m) 117 (upd (τ.1 117) 22 ch)
theorem st_1 (τ : sg) (m : Nat → Int64) (ch : Int32) : (st τ m ch).1 117 = upd (τ.1 117) 22 ch := sI_at _
theorem st_2 (τ : sg) (m : Nat → Int64) (ch : Int32) : (st τ m ch).2 131 = m := by
  show (sL τ 131 m).2 131 = m
  exact sL_at m
theorem st_22 (τ : sg) (m : Nat → Int64) (ch : Int32) : (st τ m ch).1 117 22 = ch := by rw [st_1]; exact pk_us
theorem st_i (τ : sg) (m : Nat → Int64) (ch : Int32) {i : Nat} (h : i ≠ 22) : (st τ m ch).1 117 i = τ.1 117 i := by rw [st_1]; exact pk_un h
theorem st_say (τ : sg) (m : Nat → Int64) (ch : Int32) (p A z : Nat) : s_say (st τ m ch) p A z = st τ (sM_ m p A z) 1 := by
  have e1 := st_1 τ m ch
  have e2 := st_2 τ m ch
  unfold s_say
  rw [e1, e2, upd_upd]
  unfold st
  rw [show sL (sI (sL τ 131 m) 117 (upd (τ.1 117) 22 ch)) 131 (sM_ m p A z) = sI (sL (sL τ 131 m) 131 (sM_ m p A z)) 117 (upd (τ.1 117) 22 ch) from rfl, sL_sL, sI_sI]
theorem st_ch (τ : sg) (m : Nat → Int64) (ch ch' : Int32) : sI (st τ m ch) 117 (upd ((st τ m ch).1 117) 22 ch') = st τ m ch' := by
  have e1 : (st τ m ch).1 117 = upd (τ.1 117) 22 ch := sI_at _
  rw [e1, upd_upd]
  unfold st
  rw [sI_sI]
theorem GrR_st {τ : sg} {n : Nat} {H : Nat → Nat} {m : Nat → Int64} {ch : Int32} (h : GrR τ n H) : GrR (st τ m ch) n H := ⟨h.1, (st_i _ _ _ (by decide)).trans h.2⟩
theorem CX_st {τ : sg} {n nd t : Nat} {D : Dc} {m : Nat → Int64} {ch : Int32} (h : CX τ n D nd t) : CX (st τ m ch) n D nd t := ⟨⟨h.1.1, (st_i _ _ _ (by decide)).trans h.1.2.1, h.1.2.2⟩, h.2⟩
def Wf (τ : sg) (D : Dc) (t : Nat) : (Nat → Nat → Nat → Prop) → Nat → Nat → Nat → Prop := bW (τ.1 118) (τ.1 119) (τ.1 120) (τ.1 122) (at9D (τ.1 118) (τ.1 119) (τ.1 120) (τ.1 122) D t) (txD D t) (eD (τ.1 118) (τ.1 119) (τ.1 120) D (FU (τ.1 118) (τ.1 119) (τ.1 120) (τ.1 122) D) t)
theorem Wf_mb {τ : sg} {D : Dc} {t : Nat} : ∀ (F F' : Nat → Nat → Nat → Prop) p A z, A < 64 → z < 64 → (∀ c A z, A < 64 → z < 64 → F c A z → F' c A z) → Wf τ D t F p A z → Wf τ D t F' p A z := fun F F' p A z hA hz hF h => bW_mb hA hz hF h
def Vr (n S K p A l : Nat) (p' A' z' : Nat) : Prop := dm n S K p' A' z' ∧ (p' < p ∨ (p' = p ∧ (A < A' ∨ (A' = A ∧ l ≤ z'))))
def Vp (n S K p : Nat) (p' A' z' : Nat) : Prop := dm n S K p' A' z' ∧ p' < p
theorem nI_e0 : ∀ j, j < 65 → (nI j - 1 < 0 ↔ j = 0) := by decide +kernel
theorem nI_em : ∀ j, j < 65 → nI j + Int32.ofInt (-1) = nI j - 1 := by decide +kernel
theorem p2_K {c : Nat} (h : c ≤ 6) : 0 < 2 ^ c ∧ 2 ^ c ≤ 64 := ⟨Nat.two_pow_pos c, Nat.pow_le_pow_right (n := 2) (by decide) h⟩
set_option maxHeartbeats 4000000 in
set_option maxRecDepth 100000 in
theorem lp_fill_copy {Z : vg_Z} (hst : vg_St Z) {G : vg_G} {post : Option Value → va_W → Prop} (C : vg_C Z M_R_fill G) (hQ : vg_Rt Z G 0 0 post) (ad : Nat → Nat) (σ : sg) (n : Nat) (H : Nat → Nat) (hG : GrR σ n H) (hH : ∀ q, q < n → H q ≤ 32) (D : Dc) (nd t : Nat) (hM : RM σ D nd) (ht : t < nd) (a : Nat) (ha : a < 6) (P : Nat → Prop) (r : Nat → Int32) (hr : ∀ p, p < n → r p = bP (P p)) (q0 : Nat → Int32) (hk : ∀ q : Nat → Int32, (∀ j, j < n → q (40 * a + j) = bP (P j)) → (∀ x, x < 40 * a → q x = q0 x) → vg_K Z M_R_fill G 0 0 100 [(4, .int (nI a)), (3, .int (nI (2 ^ D.2.2.1 t - 1))), (2, .int (nI (mk D t 6))), (0, .ref (ad 117)), (1, .int (nI t))] [] (wd Z ad (sA σ r q))) : ∀ (n2 i : Nat) (q : Nat → Int32) (hlt : n < i + n2) (hi : i ≤ n), (∀ j, j < i → q (40 * a + j) = bP (P j)) → (∀ x, x < 40 * a → q x = q0 x) → vg_K Z M_R_fill G 0 0 65 [(5, .int (nI i)), (4, .int (nI a)), (3, .int (nI (2 ^ D.2.2.1 t - 1))), (2, .int (nI (mk D t 6))), (0, .ref (ad 117)), (1, .int (nI t))] [] (wd Z ad (sA σ r q)) := by
  have hn := hG.1.1.1
  have hnd := hM.1.1
  intro n2
  induction n2 with
  | zero =>
    intro i q hlt hi
    exact absurd hlt (by omega)
  | succ n2 ih =>
    intro i q hlt hi h1 h2
    refine vg_iload C d_R_fill_65 rfl ?_
    refine vg_aload_n C d_R_fill_67 rfl ?_
    refine wr_get C d_R_fill_68 f_R_73 rfl rfl rfl rfl ?_
    rw [show (sA σ r q).1 117 5 = nI n from hG.2]
    refine vg_icmp_ge (tgt := 100) C d_R_fill_71 (by decide) (fun c_71 => ?_) (fun c_71 => ?_)
    · rw [nI_leI (by omega) (by omega)] at c_71
      refine vg_lv [1, 2, 3, 4, 5] rfl ?_
      exact hk q (by rw [show n = i by omega]; exact h1) h2
    · rw [nI_leI (by omega) (by omega)] at c_71
      refine vg_aload_n C d_R_fill_74 rfl ?_
      refine wr_get C d_R_fill_75 f_R_67 rfl rfl rfl rfl ?_
      refine vg_bipush (v := 40) C d_R_fill_78 (by decide) ?_
      refine vg_iload C d_R_fill_80 rfl ?_
      refine vg_imul C d_R_fill_82 ?_
      rw [show (40 : Int32) = nI 40 from rfl, pk_mul]
      refine vg_iload C d_R_fill_83 rfl ?_
      refine vg_iadd C d_R_fill_85 ?_
      rw [nI_add]
      refine vg_aload_n C d_R_fill_86 rfl ?_
      refine wr_get C d_R_fill_87 f_R_64 rfl rfl rfl rfl ?_
      refine vg_iload C d_R_fill_90 rfl ?_
      refine wr_zald C d_R_fill_92 rfl rfl (by exact vp_in_nI (by omega) (by decide)) ?_
      rw [nI_clamp (by omega)]
      rw [show (sA σ r q).1 134 i = r i from rfl, hr i (by omega)]
      refine wr_zast C d_R_fill_93 rfl rfl (by exact vp_in_nI (by omega) (by decide)) ?_
      rw [nI_clamp (by omega)]
      rw [nar_b, sA_q, show (sA σ r q).1 135 = q from rfl]
      refine vg_iinc (v := nI (i + 1)) C d_R_fill_94 rfl (nI_1 i) (Nat.le_of_ble_eq_true rfl) rfl ?_
      refine vg_goto (tgt := 65) C d_R_fill_97 (by decide) ?_
      exact ih (i + 1) _ (by omega) (by omega) (lt_s (fun j hj => (pk_un (by omega)).trans (h1 j hj)) pk_us) (fun x hx => (pk_un (by omega)).trans (h2 x hx))
set_option maxHeartbeats 4000000 in
set_option maxRecDepth 100000 in
theorem lp_fill_A {Z : vg_Z} (hst : vg_St Z) {G : vg_G} {post : Option Value → va_W → Prop} (C : vg_C Z M_R_fill G) (hQ : vg_Rt Z G 0 0 post) (ad : Nat → Nat) (σ : sg) (n : Nat) (H : Nat → Nat) (hG : GrR σ n H) (hH : ∀ q, q < n → H q ≤ 32) (D : Dc) (nd t : Nat) (hM : RM σ D nd) (ht : t < nd) (hN : ∀ p, p < n → σ.1 133 p = bP (SN (σ.1 118) (σ.1 119) (σ.1 120) (σ.1 122) p)) (hk : ∀ r q : Nat → Int32, AO σ D t n q 6 → vg_K Z M_R_fill G 0 0 106 [(3, .int (nI (2 ^ D.2.2.1 t - 1))), (2, .int (nI (mk D t 6))), (0, .ref (ad 117)), (1, .int (nI t))] [] (wd Z ad (sA σ r q))) : ∀ (n2 a : Nat) (r q : Nat → Int32) (hlt : 6 < a + n2) (ha : a ≤ 6), AO σ D t n q a → vg_K Z M_R_fill G 0 0 20 [(4, .int (nI a)), (3, .int (nI (2 ^ D.2.2.1 t - 1))), (2, .int (nI (mk D t 6))), (0, .ref (ad 117)), (1, .int (nI t))] [] (wd Z ad (sA σ r q)) := by
  have hn := hG.1.1.1
  have hnd := hM.1.1
  intro n2
  induction n2 with
  | zero =>
    intro a r q hlt ha
    exact absurd hlt (by omega)
  | succ n2 ih =>
    intro a r q hlt ha hA
    have NX : a < 6 → ∀ r q : Nat → Int32, AO σ D t n q (a + 1) → vg_K Z M_R_fill G 0 0 100 [(4, .int (nI a)), (3, .int (nI (2 ^ D.2.2.1 t - 1))), (2, .int (nI (mk D t 6))), (0, .ref (ad 117)), (1, .int (nI t))] [] (wd Z ad (sA σ r q)) := by
      intro ha6 r q hA
      refine vg_iinc (v := nI (a + 1)) C d_R_fill_100 rfl (nI_1 a) (Nat.le_of_ble_eq_true rfl) rfl ?_
      refine vg_goto (tgt := 20) C d_R_fill_103 (by decide) ?_
      exact ih (a + 1) r q (by omega) (by omega) hA
    refine vg_iload C d_R_fill_20 rfl ?_
    refine vg_bipush (v := 6) C d_R_fill_22 (by decide) ?_
    refine vg_icmp_ge (tgt := 106) C d_R_fill_24 (by decide) (fun c_24 => ?_) (fun c_24 => ?_)
    · rw [show (6 : Int32) = nI 6 from rfl, nI_leI (by omega) (by omega)] at c_24
      refine vg_lv [1, 2, 3, 4] rfl ?_
      exact hk r q (by rw [show 6 = a by omega]; exact hA)
    · rw [show (6 : Int32) = nI 6 from rfl, nI_leI (by omega) (by omega)] at c_24
      refine vg_aload_n C d_R_fill_27 rfl ?_
      refine wr_get C d_R_fill_28 f_R_34 rfl rfl rfl rfl ?_
      refine vg_bipush (v := 6) C d_R_fill_31 (by decide) ?_
      refine vg_iload_n C d_R_fill_33 rfl ?_
      refine vg_imul C d_R_fill_34 ?_
      rw [show (6 : Int32) = nI 6 from rfl, pk_mul]
      refine vg_iload C d_R_fill_35 rfl ?_
      refine vg_iadd C d_R_fill_37 ?_
      rw [nI_add]
      refine wr_zald C d_R_fill_38 rfl rfl (by exact vp_in_nI (by omega) (by decide)) ?_
      rw [nI_clamp (by omega)]
      rw [show (sA σ r q).1 126 (6 * t + a) = bP (D.2.1 t a ≠ none) from ((hM.2.2 t ht).2.1 a (by omega)).1]
      refine vg_if_ne (tgt := 45) C d_R_fill_39 (by decide) (fun c_39 => ?_) (fun c_39 => ?_)
      · rw [bP_eq] at c_39; (try simp only [Classical.not_not] at c_39)
        obtain ⟨v, hv⟩ : ∃ v, D.2.1 t a = some v := by
          cases h : D.2.1 t a with
          | none => exact absurd h c_39
          | some v => exact ⟨v, rfl⟩
        refine vg_aload_n C d_R_fill_45 rfl ?_
        refine vg_iconst (v := (-1)) C d_R_fill_46 (by decide) ?_
        refine vg_aload_n C d_R_fill_47 rfl ?_
        refine wr_get C d_R_fill_48 f_R_38 rfl rfl rfl rfl ?_
        refine vg_bipush (v := 6) C d_R_fill_51 (by decide) ?_
        refine vg_iload_n C d_R_fill_53 rfl ?_
        refine vg_imul C d_R_fill_54 ?_
        rw [show (6 : Int32) = nI 6 from rfl, pk_mul]
        refine vg_iload C d_R_fill_55 rfl ?_
        refine vg_iadd C d_R_fill_57 ?_
        rw [nI_add]
        refine wr_iald C d_R_fill_58 rfl rfl (by exact vp_in_nI (by omega) (by decide)) ?_
        rw [nI_clamp (by omega)]
        rw [show (sA σ r q).1 127 (6 * t + a) = v from ((hM.2.2 t ht).2.1 a (by omega)).2 v hv]
        refine wr_callV (As := [_, _]) C (c_R_findSingleT Z hst ad (sA σ r q) n H hG hH v hN) l_R_fill_R_findSingle k_R_122 rfl rfl rfl rfl rfl (Nat.le_of_ble_eq_true rfl) d_R_fill_59 ⟨Nat.le_of_ble_eq_true rfl, Nat.le_of_ble_eq_true rfl⟩ (fun v_59 w_59 h_59 => ?_)
        obtain ⟨rfl, r2, hr2, rfl⟩ := h_59
        rw [sA_r]
        have hr2 : ∀ p, p < n → r2 p = bP (S1 (σ.1 118) (σ.1 119) (σ.1 120) (σ.1 122) (eV (σ.1 118) (σ.1 119) (σ.1 120) v) p) := hr2
        refine vg_iconst (v := 0) C d_R_fill_62 (by decide) ?_
        refine vg_istore C d_R_fill_63 (Nat.le_of_ble_eq_true rfl) rfl ?_
        exact lp_fill_copy hst C hQ ad σ n H hG hH D nd t hM ht a (by omega) _ r2 hr2 q (fun q2 g1 g2 => NX (by omega) r2 q2 (fun a2 ha2 w hw p hp => by
            rcases Nat.lt_or_ge a2 a with y | y
            · rw [g2 _ (by omega)]
              exact hA a2 y w hw p hp
            · have e : a2 = a := by omega
              subst e
              rw [hv] at hw
              cases hw
              exact g1 p hp)) (n + 1) 0 q (by omega) (by omega) (fun j hj => absurd hj (by omega)) (fun x _ => rfl)
      · rw [bP_eq] at c_39; (try simp only [Classical.not_not] at c_39)
        refine vg_goto (tgt := 100) C d_R_fill_42 (by decide) ?_
        exact NX (by omega) r q (fun a2 ha2 w hw p hp => by
            rcases Nat.lt_or_ge a2 a with y | y
            · exact hA a2 y w hw p hp
            · rw [show a2 = a by omega, c_39] at hw
              cases hw)
set_option maxHeartbeats 4000000 in
set_option maxRecDepth 100000 in
theorem lp_fill_z {Z : vg_Z} (hst : vg_St Z) {G : vg_G} {post : Option Value → va_W → Prop} (C : vg_C Z M_R_fill G) (hQ : vg_Rt Z G 0 0 post) (ad : Nat → Nat) (τ : sg) (D : Dc) (t : Nat) (hz : ∀ x, 2560 ≤ x → τ.2 131 x = 0) (hk : ∀ m : Nat → Int64, (∀ x, m x = 0) → vg_K Z M_R_fill G 0 0 131 [(3, .int (nI (2 ^ D.2.2.1 t - 1))), (2, .int (nI (mk D t 6))), (0, .ref (ad 117)), (1, .int (nI t))] [] (wd Z ad (sL τ 131 m))) : ∀ (n2 i : Nat) (m : Nat → Int64) (hlt : 2560 < i + n2) (hi : i ≤ 2560), (∀ x, x < i → m x = 0) → (∀ x, 2560 ≤ x → m x = 0) → vg_K Z M_R_fill G 0 0 109 [(4, .int (nI i)), (3, .int (nI (2 ^ D.2.2.1 t - 1))), (2, .int (nI (mk D t 6))), (0, .ref (ad 117)), (1, .int (nI t))] [] (wd Z ad (sL τ 131 m)) := by
  intro n2
  induction n2 with
  | zero =>
    intro i m hlt hi
    exact absurd hlt (by omega)
  | succ n2 ih =>
    intro i m hlt hi h1 h2
    refine vg_iload C d_R_fill_109 rfl ?_
    refine vg_sipush (v := 2560) C d_R_fill_111 (by decide) ?_
    refine vg_icmp_ge (tgt := 131) C d_R_fill_114 (by decide) (fun c_114 => ?_) (fun c_114 => ?_)
    · rw [show (2560 : Int32) = nI 2560 from rfl, nI_leI (by omega) (by omega)] at c_114
      refine vg_lv [1, 2, 3, 4] rfl ?_
      exact hk m (fun x => by
          rcases Nat.lt_or_ge x 2560 with y | y
          · exact h1 x (by omega)
          · exact h2 x y)
    · rw [show (2560 : Int32) = nI 2560 from rfl, nI_leI (by omega) (by omega)] at c_114
      refine vg_aload_n C d_R_fill_117 rfl ?_
      refine wr_get C d_R_fill_118 f_R_54 rfl rfl rfl rfl ?_
      refine vg_iload C d_R_fill_121 rfl ?_
      refine vg_lconst (v := 0) C d_R_fill_123 (by decide) ?_
      refine wr_last C d_R_fill_124 rfl rfl (by exact vp_in_nI (by omega) (by decide)) ?_
      rw [nI_clamp (by omega)]
      rw [sL_sL, sL_at]
      refine vg_iinc (v := nI (i + 1)) C d_R_fill_125 rfl (nI_1 i) (Nat.le_of_ble_eq_true rfl) rfl ?_
      refine vg_goto (tgt := 109) C d_R_fill_128 (by decide) ?_
      exact ih (i + 1) _ (by omega) (by omega) (lt_s (fun x hx => (pk_uLn (by omega)).trans (h1 x hx)) pk_uLs) (fun x hx => (pk_uLn (by omega)).trans (h2 x hx))
set_option maxHeartbeats 4000000 in
set_option maxRecDepth 100000 in
theorem lp_fill_r {Z : vg_Z} (hst : vg_St Z) {G : vg_G} {post : Option Value → va_W → Prop} (C : vg_C Z M_R_fill G) (hQ : vg_Rt Z G 0 0 post) (ad : Nat → Nat) (τ : sg) (n : Nat) (H : Nat → Nat) (hG : GrR τ n H) (hH : ∀ q, q < n → H q ≤ 32) (D : Dc) (nd t : Nat) (hX : CX τ n D nd t) (m0 : Nat → Int64) (p A : Nat) (hp : p < n) (hA : A < 64) (hAS : A &&& mk D t 6 = A) (hk : ∀ m ch, FI (Wf τ D t) n (mk D t 6) (2 ^ D.2.2.1 t) m0 ch m (Vr n (mk D t 6) (2 ^ D.2.2.1 t) p A 0) → (∀ x, 2560 ≤ x → m x = 0) → vg_K Z M_R_fill G 0 0 219 [(5, .int (nI A)), (4, .int (nI p)), (3, .int (nI (2 ^ D.2.2.1 t - 1))), (2, .int (nI (mk D t 6))), (0, .ref (ad 117)), (1, .int (nI t))] [] (wd Z ad (st τ m ch))) : ∀ (n2 l : Nat) (m : Nat → Int64) (ch : Int32) (hlt : l < n2) (hl : l ≤ 2 ^ D.2.2.1 t), FI (Wf τ D t) n (mk D t 6) (2 ^ D.2.2.1 t) m0 ch m (Vr n (mk D t 6) (2 ^ D.2.2.1 t) p A l) → (∀ x, 2560 ≤ x → m x = 0) → vg_K Z M_R_fill G 0 0 171 [(6, .int (nI l - 1)), (5, .int (nI A)), (4, .int (nI p)), (3, .int (nI (2 ^ D.2.2.1 t - 1))), (2, .int (nI (mk D t 6))), (0, .ref (ad 117)), (1, .int (nI t))] [] (wd Z ad (st τ m ch)) := by
  have hn := hG.1.1.1
  have hnd := hX.1.1.1
  have ht := hX.2.1
  have hc6 := (hX.1.1.2 t ht).1
  obtain ⟨hK0, hK⟩ := p2_K hc6
  have hS := mk_64 D t 6 (by omega)
  intro n2
  induction n2 with
  | zero =>
    intro l m ch hlt hl
    exact absurd hlt (by omega)
  | succ n2 ih =>
    intro l m ch hlt hl hF h9
    have NX : ∀ z, l = z + 1 → ∀ m ch, FI (Wf τ D t) n (mk D t 6) (2 ^ D.2.2.1 t) m0 ch m (Vr n (mk D t 6) (2 ^ D.2.2.1 t) p A z) → (∀ x, 2560 ≤ x → m x = 0) → vg_K Z M_R_fill G 0 0 213 [(6, .int (nI z)), (5, .int (nI A)), (4, .int (nI p)), (3, .int (nI (2 ^ D.2.2.1 t - 1))), (2, .int (nI (mk D t 6))), (0, .ref (ad 117)), (1, .int (nI t))] [] (wd Z ad (st τ m ch)) := by
      intro z ez m ch hF h9
      refine vg_iinc (v := nI z - 1) C d_R_fill_213 rfl (nI_em z (by omega)) (Nat.le_of_ble_eq_true rfl) rfl ?_
      refine vg_goto (tgt := 171) C d_R_fill_216 (by decide) ?_
      exact ih z m ch (by omega) (by omega) hF h9
    refine vg_iload C d_R_fill_171 rfl ?_
    refine vg_if_lt (tgt := 219) C d_R_fill_173 (by decide) (fun c_173 => ?_) (fun c_173 => ?_)
    · rw [nI_e0 l (by omega)] at c_173
      refine vg_lv [1, 2, 3, 4, 5, 6] rfl ?_
      subst c_173
      exact hk m ch hF h9
    · rw [nI_e0 l (by omega)] at c_173
      obtain ⟨z, rfl⟩ : ∃ z, l = z + 1 := ⟨l - 1, by omega⟩
      rw [nI_us]
      refine vg_aload_n C d_R_fill_176 rfl ?_
      refine vg_iload C d_R_fill_177 rfl ?_
      refine vg_iload C d_R_fill_179 rfl ?_
      refine vg_iload C d_R_fill_181 rfl ?_
      refine wr_callV (As := [_, _, _]) C (c_R_matched Z hst ad (st τ m ch) p A z (by omega) hA (by omega)) l_R_fill_R_matched k_R_112 rfl rfl rfl rfl rfl (Nat.le_of_ble_eq_true rfl) d_R_fill_183 ⟨Nat.le_of_ble_eq_true rfl, Nat.le_of_ble_eq_true rfl⟩ (fun v_183 w_183 h_183 => ?_)
      obtain ⟨rfl, rfl⟩ := h_183
      refine vg_if_ne (tgt := 213) C d_R_fill_186 (by decide) (fun c_186 => ?_) (fun c_186 => ?_)
      · rw [bP_eq] at c_186; (try simp only [Classical.not_not] at c_186)
        first
          | exact NX z rfl _ _ (FI_say Wf_mb hn hK hF ⟨hp, hA, hAS, by omega⟩ c_186 c_200) (fun x hx => (pk_uLn (by omega)).trans (h9 x hx))
          | exact NX z rfl m ch (FI_sub (fun p2 A2 z2 hv => by
            obtain ⟨v1, v2⟩ := hv
            rcases v2 with v2 | ⟨v2, v3 | ⟨v3, v4⟩⟩
            · exact Or.inl ⟨v1, Or.inl v2⟩
            · exact Or.inl ⟨v1, Or.inr ⟨v2, Or.inl v3⟩⟩
            · rcases Nat.lt_or_ge z2 (z + 1) with y | y
              · exact Or.inr ⟨v2, v3, by omega⟩
              · exact Or.inl ⟨v1, Or.inr ⟨v2, Or.inr ⟨v3, y⟩⟩⟩) (FI_skip (p := p) (A := A) (z := z) hF (Or.inl c_186))) h9
          | exact NX z rfl m ch (FI_sub (fun p2 A2 z2 hv => by
            obtain ⟨v1, v2⟩ := hv
            rcases v2 with v2 | ⟨v2, v3 | ⟨v3, v4⟩⟩
            · exact Or.inl ⟨v1, Or.inl v2⟩
            · exact Or.inl ⟨v1, Or.inr ⟨v2, Or.inl v3⟩⟩
            · rcases Nat.lt_or_ge z2 (z + 1) with y | y
              · exact Or.inr ⟨v2, v3, by omega⟩
              · exact Or.inl ⟨v1, Or.inr ⟨v2, Or.inr ⟨v3, y⟩⟩⟩) (FI_skip (p := p) (A := A) (z := z) hF (Or.inr c_200))) h9
      · rw [bP_eq] at c_186; (try simp only [Classical.not_not] at c_186)
        refine vg_aload_n C d_R_fill_189 rfl ?_
        refine vg_iload C d_R_fill_190 rfl ?_
        refine vg_iload_n C d_R_fill_192 rfl ?_
        refine vg_iload C d_R_fill_193 rfl ?_
        refine vg_iload C d_R_fill_195 rfl ?_
        refine wr_callV (As := [_, _, _, _]) C (c_R_worked Z hst ad (st τ m ch) n H (GrR_st hG) D nd t (CX_st hX) p hp A z hA hAS (by omega)) l_R_fill_R_worked k_R_126 rfl rfl rfl rfl rfl (Nat.le_of_ble_eq_true rfl) d_R_fill_197 ⟨Nat.le_of_ble_eq_true rfl, Nat.le_of_ble_eq_true rfl⟩ (fun v_197 w_197 h_197 => ?_)
        obtain ⟨rfl, rfl⟩ := h_197
        refine vg_if_eq (tgt := 213) C d_R_fill_200 (by decide) (fun c_200 => ?_) (fun c_200 => ?_)
        · rw [bP_eq] at c_200; (try simp only [Classical.not_not] at c_200)
          first
            | exact NX z rfl _ _ (FI_say Wf_mb hn hK hF ⟨hp, hA, hAS, by omega⟩ c_186 c_200) (fun x hx => (pk_uLn (by omega)).trans (h9 x hx))
            | exact NX z rfl m ch (FI_sub (fun p2 A2 z2 hv => by
              obtain ⟨v1, v2⟩ := hv
              rcases v2 with v2 | ⟨v2, v3 | ⟨v3, v4⟩⟩
              · exact Or.inl ⟨v1, Or.inl v2⟩
              · exact Or.inl ⟨v1, Or.inr ⟨v2, Or.inl v3⟩⟩
              · rcases Nat.lt_or_ge z2 (z + 1) with y | y
                · exact Or.inr ⟨v2, v3, by omega⟩
                · exact Or.inl ⟨v1, Or.inr ⟨v2, Or.inr ⟨v3, y⟩⟩⟩) (FI_skip (p := p) (A := A) (z := z) hF (Or.inl c_186))) h9
            | exact NX z rfl m ch (FI_sub (fun p2 A2 z2 hv => by
              obtain ⟨v1, v2⟩ := hv
              rcases v2 with v2 | ⟨v2, v3 | ⟨v3, v4⟩⟩
              · exact Or.inl ⟨v1, Or.inl v2⟩
              · exact Or.inl ⟨v1, Or.inr ⟨v2, Or.inl v3⟩⟩
              · rcases Nat.lt_or_ge z2 (z + 1) with y | y
                · exact Or.inr ⟨v2, v3, by omega⟩
                · exact Or.inl ⟨v1, Or.inr ⟨v2, Or.inr ⟨v3, y⟩⟩⟩) (FI_skip (p := p) (A := A) (z := z) hF (Or.inr c_200))) h9
        · rw [bP_eq] at c_200; (try simp only [Classical.not_not] at c_200)
          refine vg_aload_n C d_R_fill_203 rfl ?_
          refine vg_iload C d_R_fill_204 rfl ?_
          refine vg_iload C d_R_fill_206 rfl ?_
          refine vg_iload C d_R_fill_208 rfl ?_
          refine wr_callV (As := [_, _, _]) C (c_R_say Z hst ad (st τ m ch) p A z (by omega) hA (by omega) (ts_nt c_186)) l_R_fill_R_say k_R_129 rfl rfl rfl rfl rfl (Nat.le_of_ble_eq_true rfl) d_R_fill_210 ⟨Nat.le_of_ble_eq_true rfl, Nat.le_of_ble_eq_true rfl⟩ (fun v_210 w_210 h_210 => ?_)
          obtain ⟨rfl, rfl⟩ := h_210
          rw [st_say]
          first
            | exact NX z rfl _ _ (FI_say Wf_mb hn hK hF ⟨hp, hA, hAS, by omega⟩ c_186 c_200) (fun x hx => (pk_uLn (by omega)).trans (h9 x hx))
            | exact NX z rfl m ch (FI_sub (fun p2 A2 z2 hv => by
              obtain ⟨v1, v2⟩ := hv
              rcases v2 with v2 | ⟨v2, v3 | ⟨v3, v4⟩⟩
              · exact Or.inl ⟨v1, Or.inl v2⟩
              · exact Or.inl ⟨v1, Or.inr ⟨v2, Or.inl v3⟩⟩
              · rcases Nat.lt_or_ge z2 (z + 1) with y | y
                · exact Or.inr ⟨v2, v3, by omega⟩
                · exact Or.inl ⟨v1, Or.inr ⟨v2, Or.inr ⟨v3, y⟩⟩⟩) (FI_skip (p := p) (A := A) (z := z) hF (Or.inl c_186))) h9
            | exact NX z rfl m ch (FI_sub (fun p2 A2 z2 hv => by
              obtain ⟨v1, v2⟩ := hv
              rcases v2 with v2 | ⟨v2, v3 | ⟨v3, v4⟩⟩
              · exact Or.inl ⟨v1, Or.inl v2⟩
              · exact Or.inl ⟨v1, Or.inr ⟨v2, Or.inl v3⟩⟩
              · rcases Nat.lt_or_ge z2 (z + 1) with y | y
                · exact Or.inr ⟨v2, v3, by omega⟩
                · exact Or.inl ⟨v1, Or.inr ⟨v2, Or.inr ⟨v3, y⟩⟩⟩) (FI_skip (p := p) (A := A) (z := z) hF (Or.inr c_200))) h9
set_option maxHeartbeats 4000000 in
set_option maxRecDepth 100000 in
theorem lp_fill_s {Z : vg_Z} (hst : vg_St Z) {G : vg_G} {post : Option Value → va_W → Prop} (C : vg_C Z M_R_fill G) (hQ : vg_Rt Z G 0 0 post) (ad : Nat → Nat) (τ : sg) (n : Nat) (H : Nat → Nat) (hG : GrR τ n H) (hH : ∀ q, q < n → H q ≤ 32) (D : Dc) (nd t : Nat) (hX : CX τ n D nd t) (m0 : Nat → Int64) (p : Nat) (hp : p < n) (hk : ∀ m ch, FI (Wf τ D t) n (mk D t 6) (2 ^ D.2.2.1 t) m0 ch m (Vp n (mk D t 6) (2 ^ D.2.2.1 t) (p + 1)) → (∀ x, 2560 ≤ x → m x = 0) → vg_K Z M_R_fill G 0 0 239 [(4, .int (nI p)), (3, .int (nI (2 ^ D.2.2.1 t - 1))), (2, .int (nI (mk D t 6))), (0, .ref (ad 117)), (1, .int (nI t))] [] (wd Z ad (st τ m ch))) : ∀ (n2 A : Nat) (m : Nat → Int64) (ch : Int32) (hlt : A < n2) (hA : A < 64) (hAS : A &&& mk D t 6 = A), FI (Wf τ D t) n (mk D t 6) (2 ^ D.2.2.1 t) m0 ch m (Vr n (mk D t 6) (2 ^ D.2.2.1 t) p A (2 ^ D.2.2.1 t)) → (∀ x, 2560 ≤ x → m x = 0) → vg_K Z M_R_fill G 0 0 163 [(5, .int (nI A)), (4, .int (nI p)), (3, .int (nI (2 ^ D.2.2.1 t - 1))), (2, .int (nI (mk D t 6))), (0, .ref (ad 117)), (1, .int (nI t))] [] (wd Z ad (st τ m ch)) := by
  have hn := hG.1.1.1
  have hnd := hX.1.1.1
  have ht := hX.2.1
  have hc6 := (hX.1.1.2 t ht).1
  obtain ⟨hK0, hK⟩ := p2_K hc6
  have hS := mk_64 D t 6 (by omega)
  intro n2
  induction n2 with
  | zero =>
    intro A m ch hlt hA hAS
    exact absurd hlt (by omega)
  | succ n2 ih =>
    intro A m ch hlt hA hAS hF h9
    have KK : A = 0 → ∀ m ch, FI (Wf τ D t) n (mk D t 6) (2 ^ D.2.2.1 t) m0 ch m (Vr n (mk D t 6) (2 ^ D.2.2.1 t) p A 0) → (∀ x, 2560 ≤ x → m x = 0) → vg_K Z M_R_fill G 0 0 163 [(5, .int (-1)), (4, .int (nI p)), (3, .int (nI (2 ^ D.2.2.1 t - 1))), (2, .int (nI (mk D t 6))), (0, .ref (ad 117)), (1, .int (nI t))] [] (wd Z ad (st τ m ch)) := by
      intro h0 m ch hF h9
      refine vg_iload C d_R_fill_163 rfl ?_
      refine vg_if_lt (tgt := 239) C d_R_fill_165 (by decide) (fun _ => ?_) (fun c_165 => absurd (by decide) c_165)
      refine vg_lv [1, 2, 3, 4, 5] rfl ?_
      exact hk m ch (FI_sub (fun p2 A2 z2 hv => by
          obtain ⟨v1, v2⟩ := hv
          rcases Nat.lt_or_ge p2 p with y | y
          · exact ⟨v1, Or.inl y⟩
          · rcases Nat.eq_zero_or_pos A2 with x | x
            · exact ⟨v1, Or.inr ⟨by omega, Or.inr ⟨by omega, by omega⟩⟩⟩
            · exact ⟨v1, Or.inr ⟨by omega, Or.inl (by omega)⟩⟩) hF) h9
    refine vg_iload C d_R_fill_163 rfl ?_
    refine vg_if_lt (tgt := 239) C d_R_fill_165 (by decide) (fun c_165 => absurd c_165 (i32_lt0 (by omega))) (fun _ => ?_)
    refine vg_iload_n C d_R_fill_168 rfl ?_
    refine vg_istore C d_R_fill_169 (Nat.le_of_ble_eq_true rfl) rfl ?_
    rw [show nI (2 ^ D.2.2.1 t - 1) = nI (2 ^ D.2.2.1 t) - 1 from (nI_p hK0).symm]
    have LP := lp_fill_r hst C hQ ad τ n H hG hH D nd t hX m0 p A hp hA hAS (fun m2 ch2 hF2 h92 => ?_) (2 ^ D.2.2.1 t + 1) (2 ^ D.2.2.1 t) m ch (by omega) (by omega) hF h9
    · rw [show nI (2 ^ D.2.2.1 t - 1) = nI (2 ^ D.2.2.1 t) - 1 from (nI_p hK0).symm] at LP
      exact LP
    refine vg_iload C d_R_fill_219 rfl ?_
    refine vg_if_ne (tgt := 228) C d_R_fill_221 (by decide) (fun c_221 => ?_) (fun c_221 => ?_)
    · rw [nI_z (by omega)] at c_221
      refine vg_iload C d_R_fill_228 rfl ?_
      refine vg_iconst (v := 1) C d_R_fill_230 (by decide) ?_
      refine vg_isub C d_R_fill_231 ?_
      rw [nI_p (by omega)]
      refine vg_iload_n C d_R_fill_232 rfl ?_
      refine vg_iand C d_R_fill_233 ?_
      refine vg_istore C d_R_fill_234 (Nat.le_of_ble_eq_true rfl) rfl ?_
      refine vg_goto (tgt := 163) C d_R_fill_236 (by decide) ?_
      first
        | exact KK c_221 m2 ch2 hF2 h92
        | (rw [(bt64 (A - 1) (by omega) _ hS).1]
           have hx := nx_sub (mk D t 6) hS A hA hAS c_221
           refine ih ((A - 1) &&& mk D t 6) m2 ch2 (by omega) (by omega) hx.1 (FI_sub (fun p2 A2 z2 hv => ?_) hF2) h92
           obtain ⟨v1, v2⟩ := hv
           rcases v2 with v2 | ⟨v2, v3 | ⟨v3, v4⟩⟩
           · exact ⟨v1, Or.inl v2⟩
           · rcases Nat.lt_trichotomy A2 A with y | y | y
             · have := nx_max (mk D t 6) hS A hA hAS A2 v1.2.1 v1.2.2.1 y
               omega
             · exact ⟨v1, Or.inr ⟨v2, Or.inr ⟨y, Nat.zero_le _⟩⟩⟩
             · exact ⟨v1, Or.inr ⟨v2, Or.inl y⟩⟩
           · exact absurd v1.2.2.2 (by omega))
    · rw [nI_z (by omega)] at c_221
      refine vg_iconst (v := (-1)) C d_R_fill_224 (by decide) ?_
      refine vg_goto (tgt := 234) C d_R_fill_225 (by decide) ?_
      refine vg_istore C d_R_fill_234 (Nat.le_of_ble_eq_true rfl) rfl ?_
      refine vg_goto (tgt := 163) C d_R_fill_236 (by decide) ?_
      first
        | exact KK c_221 m2 ch2 hF2 h92
        | (rw [(bt64 (A - 1) (by omega) _ hS).1]
           have hx := nx_sub (mk D t 6) hS A hA hAS c_221
           refine ih ((A - 1) &&& mk D t 6) m2 ch2 (by omega) (by omega) hx.1 (FI_sub (fun p2 A2 z2 hv => ?_) hF2) h92
           obtain ⟨v1, v2⟩ := hv
           rcases v2 with v2 | ⟨v2, v3 | ⟨v3, v4⟩⟩
           · exact ⟨v1, Or.inl v2⟩
           · rcases Nat.lt_trichotomy A2 A with y | y | y
             · have := nx_max (mk D t 6) hS A hA hAS A2 v1.2.1 v1.2.2.1 y
               omega
             · exact ⟨v1, Or.inr ⟨v2, Or.inr ⟨y, Nat.zero_le _⟩⟩⟩
             · exact ⟨v1, Or.inr ⟨v2, Or.inl y⟩⟩
           · exact absurd v1.2.2.2 (by omega))
set_option maxHeartbeats 4000000 in
set_option maxRecDepth 100000 in
theorem lp_fill_p {Z : vg_Z} (hst : vg_St Z) {G : vg_G} {post : Option Value → va_W → Prop} (C : vg_C Z M_R_fill G) (hQ : vg_Rt Z G 0 0 post) (ad : Nat → Nat) (τ : sg) (n : Nat) (H : Nat → Nat) (hG : GrR τ n H) (hH : ∀ q, q < n → H q ≤ 32) (D : Dc) (nd t : Nat) (hX : CX τ n D nd t) (m0 : Nat → Int64) (hk : ∀ m ch, FI (Wf τ D t) n (mk D t 6) (2 ^ D.2.2.1 t) m0 ch m (Vp n (mk D t 6) (2 ^ D.2.2.1 t) n) → (∀ x, 2560 ≤ x → m x = 0) → vg_K Z M_R_fill G 0 0 245 [(3, .int (nI (2 ^ D.2.2.1 t - 1))), (2, .int (nI (mk D t 6))), (0, .ref (ad 117)), (1, .int (nI t))] [] (wd Z ad (st τ m ch))) : ∀ (n2 p : Nat) (m : Nat → Int64) (ch : Int32) (hlt : n < p + n2) (hp : p ≤ n), FI (Wf τ D t) n (mk D t 6) (2 ^ D.2.2.1 t) m0 ch m (Vp n (mk D t 6) (2 ^ D.2.2.1 t) p) → (∀ x, 2560 ≤ x → m x = 0) → vg_K Z M_R_fill G 0 0 151 [(4, .int (nI p)), (3, .int (nI (2 ^ D.2.2.1 t - 1))), (2, .int (nI (mk D t 6))), (0, .ref (ad 117)), (1, .int (nI t))] [] (wd Z ad (st τ m ch)) := by
  have hn := hG.1.1.1
  have hnd := hX.1.1.1
  have ht := hX.2.1
  have hc6 := (hX.1.1.2 t ht).1
  obtain ⟨hK0, hK⟩ := p2_K hc6
  have hS := mk_64 D t 6 (by omega)
  intro n2
  induction n2 with
  | zero =>
    intro p m ch hlt hp
    exact absurd hlt (by omega)
  | succ n2 ih =>
    intro p m ch hlt hp hF h9
    refine vg_iload C d_R_fill_151 rfl ?_
    refine vg_aload_n C d_R_fill_153 rfl ?_
    refine wr_get C d_R_fill_154 f_R_73 rfl rfl rfl rfl ?_
    rw [show (st τ m ch).1 117 5 = nI n from (GrR_st hG).2]
    refine vg_icmp_ge (tgt := 245) C d_R_fill_157 (by decide) (fun c_157 => ?_) (fun c_157 => ?_)
    · rw [nI_leI (by omega) (by omega)] at c_157
      refine vg_lv [1, 2, 3, 4] rfl ?_
      exact hk m ch (FI_sub (fun p2 A2 z2 hv => ⟨hv.1, by have := hv.2; omega⟩) hF) h9
    · rw [nI_leI (by omega) (by omega)] at c_157
      refine vg_iload_n C d_R_fill_160 rfl ?_
      refine vg_istore C d_R_fill_161 (Nat.le_of_ble_eq_true rfl) rfl ?_
      refine lp_fill_s hst C hQ ad τ n H hG hH D nd t hX m0 p (by omega) (fun m2 ch2 hF2 h92 => ?_) (mk D t 6 + 1) (mk D t 6) m ch (by omega) hS (Nat.and_self _) (FI_sub (fun p2 A2 z2 hv => ?_) hF) h9
      · skip
        refine vg_iinc (v := nI (p + 1)) C d_R_fill_239 rfl (nI_1 p) (Nat.le_of_ble_eq_true rfl) rfl ?_
        refine vg_goto (tgt := 151) C d_R_fill_242 (by decide) ?_
        exact ih (p + 1) m2 ch2 (by omega) (by omega) hF2 h92
      · obtain ⟨v1, v2⟩ := hv
        rcases v2 with v2 | ⟨v2, v3 | ⟨v3, v4⟩⟩
        · exact ⟨v1, v2⟩
        · have := (sb_dj (mk D t 6) hS A2 v1.2.1 v1.2.2.1).2.2
          omega
        · exact absurd v1.2.2.2 (by omega)
set_option maxHeartbeats 4000000 in
set_option maxRecDepth 100000 in
theorem lp_fill_W {Z : vg_Z} (hst : vg_St Z) {G : vg_G} {post : Option Value → va_W → Prop} (C : vg_C Z M_R_fill G) (hQ : vg_Rt Z G 0 0 post) (ad : Nat → Nat) (τ : sg) (n : Nat) (H : Nat → Nat) (hG : GrR τ n H) (hH : ∀ q, q < n → H q ≤ 32) (D : Dc) (nd t : Nat) (hX : CX τ n D nd t) (hk : ∀ m, Fin (Wf τ D t) n (mk D t 6) (2 ^ D.2.2.1 t) m → (∀ x, 2560 ≤ x → m x = 0) → vg_K Z M_R_fill G 0 0 248 [(3, .int (nI (2 ^ D.2.2.1 t - 1))), (2, .int (nI (mk D t 6))), (0, .ref (ad 117)), (1, .int (nI t))] [] (wd Z ad (st τ m 0))) : ∀ (n2 : Nat) (m : Nat → Int64) (ch : Int32) (hlt : cz m 163840 < n2), ((ch = 1 ∧ So (Wf τ D t) n (mk D t 6) (2 ^ D.2.2.1 t) m) ∨ (ch = 0 ∧ Fin (Wf τ D t) n (mk D t 6) (2 ^ D.2.2.1 t) m)) → (∀ x, 2560 ≤ x → m x = 0) → vg_K Z M_R_fill G 0 0 136 [(3, .int (nI (2 ^ D.2.2.1 t - 1))), (2, .int (nI (mk D t 6))), (0, .ref (ad 117)), (1, .int (nI t))] [] (wd Z ad (st τ m ch)) := by
  intro n2
  induction n2 with
  | zero =>
    intro m ch hlt
    exact absurd hlt (by omega)
  | succ n2 ih =>
    intro m ch hlt hS h9
    have FE : ∀ {c : Int32}, c = 0 → ∀ m, Fin (Wf τ D t) n (mk D t 6) (2 ^ D.2.2.1 t) m → (∀ x, 2560 ≤ x → m x = 0) → vg_K Z M_R_fill G 0 0 136 [(3, .int (nI (2 ^ D.2.2.1 t - 1))), (2, .int (nI (mk D t 6))), (0, .ref (ad 117)), (1, .int (nI t))] [] (wd Z ad (st τ m c)) := by
      intro c hc m hf h9
      subst hc
      refine vg_aload_n C d_R_fill_136 rfl ?_
      refine wr_get C d_R_fill_137 f_R_101 rfl rfl rfl rfl ?_
      rw [show (st τ m 0).1 117 22 = 0 from st_22 _ _ _]
      refine vg_if_eq (tgt := 248) C d_R_fill_140 (by decide) (fun _ => ?_) (fun c_140 => absurd rfl c_140)
      exact hk m hf h9
    rcases hS with ⟨rfl, hS⟩ | ⟨rfl, hS⟩
    · skip
      refine vg_aload_n C d_R_fill_136 rfl ?_
      refine wr_get C d_R_fill_137 f_R_101 rfl rfl rfl rfl ?_
      rw [show (st τ m 1).1 117 22 = 1 from st_22 _ _ _]
      refine vg_if_eq (tgt := 248) C d_R_fill_140 (by decide) (fun c_140 => absurd c_140 (by decide)) (fun _ => ?_)
      refine vg_aload_n C d_R_fill_143 rfl ?_
      refine vg_iconst (v := 0) C d_R_fill_144 (by decide) ?_
      refine wr_puti C d_R_fill_145 f_R_101 p_R_22 rfl rfl rfl (by first | rfl | assumption) rfl (Nat.le_of_ble_eq_true rfl) (wf_iR22 _ _ _) ?_
      rw [st_ch]
      refine vg_iconst (v := 0) C d_R_fill_148 (by decide) ?_
      refine vg_istore C d_R_fill_149 (Nat.le_of_ble_eq_true rfl) rfl ?_
      refine lp_fill_p hst C hQ ad τ n H hG hH D nd t hX m (fun m2 ch2 hF h92 => ?_) (n + 1) 0 m 0 (by omega) (by omega) ⟨hS, Or.inl ⟨rfl, rfl, fun p A z hv => absurd hv.2 (by omega)⟩⟩ h9
      refine vg_goto (tgt := 136) C d_R_fill_245 (by decide) ?_
      rcases hF.2 with ⟨e1, e2, e3⟩ | ⟨e1, e2⟩
      · exact FE e1 m2 ⟨hF.1, fun p A z hd => e3 p A z ⟨hd, hd.1⟩⟩ h92
      · exact ih m2 ch2 (by omega) (Or.inl ⟨e1, hF.1⟩) h92
    · exact FE rfl m hS h9
set_option maxHeartbeats 4000000 in
set_option maxRecDepth 100000 in
theorem lp_fill_D {Z : vg_Z} (hst : vg_St Z) {G : vg_G} {post : Option Value → va_W → Prop} (C : vg_C Z M_R_fill G) (hQ : vg_Rt Z G 0 0 post) (ad : Nat → Nat) (τ : sg) (n : Nat) (H : Nat → Nat) (hG : GrR τ n H) (hH : ∀ q, q < n → H q ≤ 32) (D : Dc) (nd t : Nat) (hX : CX τ n D nd t) (m : Nat → Int64) (hf : Fin (Wf τ D t) n (mk D t 6) (2 ^ D.2.2.1 t) m) (w0 : Nat → Int32) (hk : ∀ w : Nat → Int32, (∀ p, p < n → w (40 * t + p) = bP (FU (τ.1 118) (τ.1 119) (τ.1 120) (τ.1 122) D t p)) → (∀ x, x < 40 * t ∨ 40 * t + 40 ≤ x → w x = w0 x) → post none (wd Z ad (sI (st τ m 0) 132 w))) : ∀ (n2 i : Nat) (w : Nat → Int32) (hlt : n < i + n2) (hi : i ≤ n), (∀ p, p < i → w (40 * t + p) = bP (FU (τ.1 118) (τ.1 119) (τ.1 120) (τ.1 122) D t p)) → (∀ x, x < 40 * t ∨ 40 * t + 40 ≤ x → w x = w0 x) → vg_K Z M_R_fill G 0 0 251 [(4, .int (nI i)), (3, .int (nI (2 ^ D.2.2.1 t - 1))), (2, .int (nI (mk D t 6))), (0, .ref (ad 117)), (1, .int (nI t))] [] (wd Z ad (sI (st τ m 0) 132 w)) := by
  have hn := hG.1.1.1
  have hnd := hX.1.1.1
  have ht := hX.2.1
  have hc6 := (hX.1.1.2 t ht).1
  obtain ⟨hK0, hK⟩ := p2_K hc6
  have hS := mk_64 D t 6 (by omega)
  have hfu : ∀ p, p < n → (Mb m p (mk D t 6) (2 ^ D.2.2.1 t - 1) ↔ FU (τ.1 118) (τ.1 119) (τ.1 120) (τ.1 122) D t p) := fun p hp => by
    rw [Fin_SM hG.1.1 hH hG.1.2 hK hf p _ _ ⟨hp, hS, Nat.and_self _, by omega⟩, FU_un hX.1.1 ht]
    exact Iff.rfl
  intro n2
  induction n2 with
  | zero =>
    intro i w hlt hi
    exact absurd hlt (by omega)
  | succ n2 ih =>
    intro i w hlt hi h1 h2
    refine vg_iload C d_R_fill_251 rfl ?_
    refine vg_aload_n C d_R_fill_253 rfl ?_
    refine wr_get C d_R_fill_254 f_R_73 rfl rfl rfl rfl ?_
    rw [show (sI (st τ m 0) 132 w).1 117 5 = nI n from (GrR_st (m := m) (ch := 0) hG).2]
    refine vg_icmp_ge (tgt := 286) C d_R_fill_257 (by decide) (fun c_257 => ?_) (fun c_257 => ?_)
    · rw [nI_leI (by omega) (by omega)] at c_257
      exact vg_return C hQ d_R_fill_286 rfl (hk w (fun p hp => h1 p (by omega)) h2)
    · rw [nI_leI (by omega) (by omega)] at c_257
      refine vg_aload_n C d_R_fill_260 rfl ?_
      refine wr_get C d_R_fill_261 f_R_58 rfl rfl rfl rfl ?_
      refine vg_bipush (v := 40) C d_R_fill_264 (by decide) ?_
      refine vg_iload_n C d_R_fill_266 rfl ?_
      refine vg_imul C d_R_fill_267 ?_
      rw [show (40 : Int32) = nI 40 from rfl, pk_mul]
      refine vg_iload C d_R_fill_268 rfl ?_
      refine vg_iadd C d_R_fill_270 ?_
      rw [nI_add]
      refine vg_aload_n C d_R_fill_271 rfl ?_
      refine vg_iload C d_R_fill_272 rfl ?_
      refine vg_iload_n C d_R_fill_274 rfl ?_
      refine vg_iload_n C d_R_fill_275 rfl ?_
      refine wr_callV (As := [_, _, _]) C (c_R_matched Z hst ad (sI (st τ m 0) 132 w) i (mk D t 6) (2 ^ D.2.2.1 t - 1) (by omega) hS (by omega)) l_R_fill_R_matched k_R_112 rfl rfl rfl rfl rfl (Nat.le_of_ble_eq_true rfl) d_R_fill_276 ⟨Nat.le_of_ble_eq_true rfl, Nat.le_of_ble_eq_true rfl⟩ (fun v_276 w_276 h_276 => ?_)
      obtain ⟨rfl, rfl⟩ := h_276
      refine wr_zast C d_R_fill_279 rfl rfl (by exact vp_in_nI (by omega) (by decide)) ?_
      rw [nI_clamp (by omega)]
      rw [nar_b, sI_sI, show (sI (st τ m 0) 132 w).1 132 = w from rfl]
      refine vg_iinc (v := nI (i + 1)) C d_R_fill_280 rfl (nI_1 i) (Nat.le_of_ble_eq_true rfl) rfl ?_
      refine vg_goto (tgt := 251) C d_R_fill_283 (by decide) ?_
      exact ih (i + 1) _ (by omega) (by omega) (lt_s (fun p hp => (pk_un (by omega)).trans (h1 p hp)) (pk_us.trans (bP_congr (hfu i (by omega))))) (fun x hx => (pk_un (by omega)).trans (h2 x hx))
/-- what the reference's filling leaves alone -/
def FrR (σ τ : sg) : Prop := (∀ j, j ≠ 117 → j ≠ 132 → j ≠ 133 → j ≠ 134 → j ≠ 135 → τ.1 j = σ.1 j) ∧ (∀ i, i ≠ 22 → τ.1 117 i = σ.1 117 i) ∧ ∀ j, j ≠ 131 → τ.2 j = σ.2 j
/-- what filling the node t has done -/
def FT (σ τ : sg) (n : Nat) (D : Dc) (t : Nat) : Prop := FrR σ τ ∧ τ.1 133 = σ.1 133 ∧ (∀ x, x < 40 * t ∨ 40 * t + 40 ≤ x → τ.1 132 x = σ.1 132 x) ∧ (∀ p, p < n → τ.1 132 (40 * t + p) = bP (FU (σ.1 118) (σ.1 119) (σ.1 120) (σ.1 122) D t p)) ∧ (∀ x, 2560 ≤ x → τ.2 131 x = 0) ∧ ∀ p A z, dm n (mk D t 6) (2 ^ D.2.2.1 t) p A z → (Mb (τ.2 131) p A z ↔ MD (σ.1 118) (σ.1 119) (σ.1 120) (σ.1 122) D (FU (σ.1 118) (σ.1 119) (σ.1 120) (σ.1 122) D) t p A z)
set_option maxHeartbeats 4000000 in
set_option maxRecDepth 100000 in
theorem c_R_fill (Z : vg_Z) (hst : vg_St Z) (ad : Nat → Nat) (σ : sg) (n : Nat) (H : Nat → Nat) (hG : GrR σ n H) (hH : ∀ q, q < n → H q ≤ 32) (D : Dc) (nd t : Nat) (hM : RM σ D nd) (ht : t < nd) (hN : ∀ p, p < n → σ.1 133 p = bP (SN (σ.1 118) (σ.1 119) (σ.1 120) (σ.1 122) p)) (hFu : ∀ u, t < u → u < nd → ∀ p, p < n → σ.1 132 (40 * u + p) = bP (FU (σ.1 118) (σ.1 119) (σ.1 120) (σ.1 122) D u p)) (h9 : ∀ x, 2560 ≤ x → σ.2 131 x = 0)  : vg_T Z M_R_fill 0 0 [.ref (ad 117), .int (nI t)] (wd Z ad σ) (fun v w => v = none ∧ ∃ τ, FT σ τ n D t ∧ w = wd Z ad τ) := by
  refine vg_enter hst (by decide) rfl (Nat.le_of_ble_eq_true rfl) ?_
  intro G C hQ
  show vg_K Z M_R_fill G 0 0 0 [(0, .ref (ad 117)), (1, .int (nI t))] [] (wd Z ad σ)
  have hn := hG.1.1.1
  have hnd := hM.1.1
  have hc6 := (hM.1.2 t ht).1
  refine vg_aload_n C d_R_fill_0 rfl ?_
  refine vg_iload_n C d_R_fill_1 rfl ?_
  refine wr_callV (As := [_]) C (c_R_attributes Z hst ad σ D nd hM t ht) l_R_fill_R_attributes k_R_119 rfl rfl rfl rfl rfl (Nat.le_of_ble_eq_true rfl) d_R_fill_2 ⟨Nat.le_of_ble_eq_true rfl, Nat.le_of_ble_eq_true rfl⟩ (fun v_2 w_2 h_2 => ?_)
  obtain ⟨rfl, rfl⟩ := h_2
  refine vg_istore_n C d_R_fill_5 (Nat.le_of_ble_eq_true rfl) rfl ?_
  refine vg_iconst (v := 1) C d_R_fill_6 (by decide) ?_
  refine vg_aload_n C d_R_fill_7 rfl ?_
  refine wr_get C d_R_fill_8 f_R_47 rfl rfl rfl rfl ?_
  refine vg_iload_n C d_R_fill_11 rfl ?_
  refine wr_iald C d_R_fill_12 rfl rfl (by exact vp_in_nI (by omega) (by decide)) ?_
  rw [nI_clamp (by omega)]
  rw [(hM.2.2 t ht).2.2.1]
  refine vg_ishl C d_R_fill_13 ?_
  rw [sh_one _ (by omega)]
  refine vg_iconst (v := 1) C d_R_fill_14 (by decide) ?_
  refine vg_isub C d_R_fill_15 ?_
  rw [nI_p (Nat.two_pow_pos _)]
  refine vg_istore_n C d_R_fill_16 (Nat.le_of_ble_eq_true rfl) rfl ?_
  refine vg_iconst (v := 0) C d_R_fill_17 (by decide) ?_
  refine vg_istore C d_R_fill_18 (Nat.le_of_ble_eq_true rfl) rfl ?_
  refine vg_w (ws' := wd Z ad (sA σ (σ.1 134) (σ.1 135))) (by rw [sA_0]) ?_
  refine lp_fill_A hst C hQ ad σ n H hG hH D nd t hM ht hN (fun r q hq => ?_) 7 0 _ _ (by omega) (by omega) (fun a ha => absurd ha (by omega))
  refine vg_iconst (v := 0) C d_R_fill_106 (by decide) ?_
  refine vg_istore C d_R_fill_107 (Nat.le_of_ble_eq_true rfl) rfl ?_
  refine vg_w (ws' := wd Z ad (sL (sA σ r q) 131 ((sA σ r q).2 131))) (by rw [sL_id]) ?_
  refine lp_fill_z hst C hQ ad (sA σ r q) D t h9 (fun m hm => ?_) 2561 0 _ (by omega) (by omega) (fun x hx => absurd hx (by omega)) h9
  have hX : CX (sA σ r q) n D nd t := ⟨hM, ht, hq, hFu⟩
  have hG2 : GrR (sA σ r q) n H := hG
  refine vg_aload_n C d_R_fill_131 rfl ?_
  refine vg_iconst (v := 1) C d_R_fill_132 (by decide) ?_
  refine wr_puti C d_R_fill_133 f_R_101 p_R_22 rfl rfl rfl (by first | rfl | assumption) rfl (Nat.le_of_ble_eq_true rfl) (wf_iR22 _ _ _) ?_
  refine vg_w (ws' := wd Z ad (st (sA σ r q) m 1)) rfl ?_
  refine lp_fill_W hst C hQ ad (sA σ r q) n H hG2 hH D nd t hX (fun m2 hf h92 => ?_) (cz m 163840 + 1) m 1 (by omega) (Or.inl ⟨rfl, fun E _ p A z _ _ hb => ?_⟩) (fun x _ => hm x)
  · skip
    refine vg_iconst (v := 0) C d_R_fill_248 (by decide) ?_
    refine vg_istore C d_R_fill_249 (Nat.le_of_ble_eq_true rfl) rfl ?_
    refine vg_w (ws' := wd Z ad (sI (st (sA σ r q) m2 0) 132 ((st (sA σ r q) m2 0).1 132))) (by rw [sI_id]) ?_
    refine lp_fill_D hst C hQ ad (sA σ r q) n H hG2 hH D nd t hX m2 hf _ (fun w g1 g2 => ⟨rfl, sI (st (sA σ r q) m2 0) 132 w, ⟨⟨fun j a b c d e => ?_, fun i hi => st_i (sA σ r q) m2 0 hi, fun j hj => ?_⟩, rfl, g2, g1, h92, Fin_SM hG.1.1 hH hG.1.2 (p2_K (hM.1.2 t ht).1).2 hf⟩, rfl⟩) (n + 1) 0 _ (by omega) (by omega) (fun p hp => absurd hp (by omega)) (fun x _ => rfl)
    · unfold st sA
      rw [sI_ne _ b, sI_ne _ a]
      show (sI (sI σ 134 r) 135 q).1 j = _
      rw [sI_ne _ e, sI_ne _ d]
    · show (sL (sA σ r q) 131 m2).2 j = _
      rw [sL_ne _ hj]
      rfl
  · unfold Mb at hb
    rw [hm, lb_0] at hb
    cases hb
